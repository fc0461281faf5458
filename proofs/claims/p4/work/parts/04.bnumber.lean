-- init@4 @4
theorem v_number_1 (σ : RS) (k0 : Int32) (hpre_0 : 0 ≤ (σ.1 1).toInt) (hpre_1 : (σ.1 1).toInt ≤ 40) (hpre_2 : 0 ≤ (σ.1 3).toInt) (hpre_3 : (σ.1 3).toInt ≤ k0.toInt) (hpre_4 : k0.toInt < (σ.1 1).toInt) (hpre_5 : TKok (σ.2.1 4) (σ.2.2.1 6) (σ.2.1 7) (σ.1 3).toInt) (hpre_6 : k0.toInt < (σ.1 1).toInt) (hpre_7 : 48 ≤ ((σ.2.1 2) k0.toNatClampNeg).toInt) (hpre_8 : ((σ.2.1 2) k0.toNatClampNeg).toInt ≤ 57) : k0.toInt ≤ k0.toInt ∧ k0.toInt ≤ (σ.1 1).toInt := by
  ((try and_intros) <;> first | assumption | omega | (subst_vars; omega) | trivial)
-- pre:digit@6 @6
theorem v_number_2 (σ : RS) (k0 : Int32) (y1 : Int32) (hpre_0 : 0 ≤ (σ.1 1).toInt) (hpre_1 : (σ.1 1).toInt ≤ 40) (hpre_2 : 0 ≤ (σ.1 3).toInt) (hpre_3 : (σ.1 3).toInt ≤ k0.toInt) (hpre_4 : k0.toInt < (σ.1 1).toInt) (hpre_5 : TKok (σ.2.1 4) (σ.2.2.1 6) (σ.2.1 7) (σ.1 3).toInt) (hpre_6 : k0.toInt < (σ.1 1).toInt) (hpre_7 : 48 ≤ ((σ.2.1 2) k0.toNatClampNeg).toInt) (hpre_8 : ((σ.2.1 2) k0.toNatClampNeg).toInt ≤ 57) (hi4_0 : k0.toInt ≤ y1.toInt) (hi4_1 : y1.toInt ≤ (σ.1 1).toInt) : 0 ≤ (σ.1 1).toInt ∧ (σ.1 1).toInt ≤ 40 ∧ 0 ≤ y1.toInt := by
  ((try and_intros) <;> first | assumption | omega | (subst_vars; omega) | trivial)
-- nw@37 @37
theorem v_number_3 (σ : RS) (k0 : Int32) (y1 : Int32) (x5 : Int32) (hpre_0 : 0 ≤ (σ.1 1).toInt) (hpre_1 : (σ.1 1).toInt ≤ 40) (hpre_2 : 0 ≤ (σ.1 3).toInt) (hpre_3 : (σ.1 3).toInt ≤ k0.toInt) (hpre_4 : k0.toInt < (σ.1 1).toInt) (hpre_5 : TKok (σ.2.1 4) (σ.2.2.1 6) (σ.2.1 7) (σ.1 3).toInt) (hpre_6 : k0.toInt < (σ.1 1).toInt) (hpre_7 : 48 ≤ ((σ.2.1 2) k0.toNatClampNeg).toInt) (hpre_8 : ((σ.2.1 2) k0.toNatClampNeg).toInt ≤ 57) (hi4_0 : k0.toInt ≤ y1.toInt) (hi4_1 : y1.toInt ≤ (σ.1 1).toInt) (hr3 : ¬ ((y1.toInt < (σ.1 1).toInt ∧ 48 ≤ ((σ.2.1 2) y1.toNatClampNeg).toInt ∧ ((σ.2.1 2) y1.toNatClampNeg).toInt ≤ 57))) (ex5 : x5 = y1 - k0) : x5.toInt = y1.toInt - k0.toInt := by
  rw [ex5, z_sub (by omega) (by omega)]; first | done | omega
-- pre:at@45 @45
theorem v_number_4 (σ : RS) (k0 : Int32) (y1 : Int32) (x5 : Int32) (hpre_0 : 0 ≤ (σ.1 1).toInt) (hpre_1 : (σ.1 1).toInt ≤ 40) (hpre_2 : 0 ≤ (σ.1 3).toInt) (hpre_3 : (σ.1 3).toInt ≤ k0.toInt) (hpre_4 : k0.toInt < (σ.1 1).toInt) (hpre_5 : TKok (σ.2.1 4) (σ.2.2.1 6) (σ.2.1 7) (σ.1 3).toInt) (hpre_6 : k0.toInt < (σ.1 1).toInt) (hpre_7 : 48 ≤ ((σ.2.1 2) k0.toNatClampNeg).toInt) (hpre_8 : ((σ.2.1 2) k0.toNatClampNeg).toInt ≤ 57) (hi4_0 : k0.toInt ≤ y1.toInt) (hi4_1 : y1.toInt ≤ (σ.1 1).toInt) (hr3 : ¬ ((y1.toInt < (σ.1 1).toInt ∧ 48 ≤ ((σ.2.1 2) y1.toNatClampNeg).toInt ∧ ((σ.2.1 2) y1.toNatClampNeg).toInt ≤ 57))) (ex5 : x5 = y1 - k0) (tx5 : x5.toInt = y1.toInt - k0.toInt) : 0 ≤ (σ.1 1).toInt ∧ (σ.1 1).toInt ≤ 40 ∧ 0 ≤ y1.toInt := by
  ((try and_intros) <;> first | assumption | omega | (subst_vars; omega) | trivial)
-- post @120
theorem v_number_5 (σ : RS) (k0 : Int32) (y1 : Int32) (x5 : Int32) (r6 : Int32) (hpre_0 : 0 ≤ (σ.1 1).toInt) (hpre_1 : (σ.1 1).toInt ≤ 40) (hpre_2 : 0 ≤ (σ.1 3).toInt) (hpre_3 : (σ.1 3).toInt ≤ k0.toInt) (hpre_4 : k0.toInt < (σ.1 1).toInt) (hpre_5 : TKok (σ.2.1 4) (σ.2.2.1 6) (σ.2.1 7) (σ.1 3).toInt) (hpre_6 : k0.toInt < (σ.1 1).toInt) (hpre_7 : 48 ≤ ((σ.2.1 2) k0.toNatClampNeg).toInt) (hpre_8 : ((σ.2.1 2) k0.toNatClampNeg).toInt ≤ 57) (hi4_0 : k0.toInt ≤ y1.toInt) (hi4_1 : y1.toInt ≤ (σ.1 1).toInt) (hr3 : ¬ ((y1.toInt < (σ.1 1).toInt ∧ 48 ≤ ((σ.2.1 2) y1.toNatClampNeg).toInt ∧ ((σ.2.1 2) y1.toNatClampNeg).toInt ≤ 57))) (ex5 : x5 = y1 - k0) (tx5 : x5.toInt = y1.toInt - k0.toInt) (hr6 : (y1.toInt < (σ.1 1).toInt ∧ r6.toInt = ((σ.2.1 2) y1.toNatClampNeg).toInt) ∨ ((σ.1 1).toInt ≤ y1.toInt ∧ r6.toInt = 0)) (c7 : ¬ r6.toInt = 46) (c8 : 6 < x5.toInt) : k0.toInt < y1.toInt ∧ y1.toInt ≤ (σ.1 1).toInt ∧ 0 ≤ (σ.1 3).toInt ∧ (σ.1 3).toInt ≤ y1.toInt ∧ TKok (σ.2.1 4) (σ.2.2.1 6) (σ.2.1 7) (σ.1 3).toInt := by
  have hc : y1.toInt ≠ k0.toInt := by
    intro h; have h := (Int32.toInt_inj.mp h : y1 = k0); subst h; omega
  have hz := hpre_5
  and_intros <;> first | exact hz | exact tk_add hz (by omega) (clampZ (by omega)) (by omega) (by omega) (by omega) | exact tk_add2 hz (by omega) (clampZ (by omega)) ((clampZ (by omega)).trans (by omega)) (by omega) (by omega) (by omega) | omega
-- pre:add@134 @134
theorem v_number_6 (σ : RS) (k0 : Int32) (y1 : Int32) (x5 : Int32) (hpre_0 : 0 ≤ (σ.1 1).toInt) (hpre_1 : (σ.1 1).toInt ≤ 40) (hpre_2 : 0 ≤ (σ.1 3).toInt) (hpre_3 : (σ.1 3).toInt ≤ k0.toInt) (hpre_4 : k0.toInt < (σ.1 1).toInt) (hpre_5 : TKok (σ.2.1 4) (σ.2.2.1 6) (σ.2.1 7) (σ.1 3).toInt) (hpre_6 : k0.toInt < (σ.1 1).toInt) (hpre_7 : 48 ≤ ((σ.2.1 2) k0.toNatClampNeg).toInt) (hpre_8 : ((σ.2.1 2) k0.toNatClampNeg).toInt ≤ 57) (hi4_0 : k0.toInt ≤ y1.toInt) (hi4_1 : y1.toInt ≤ (σ.1 1).toInt) (ex5 : x5 = y1 - k0) (tx5 : x5.toInt = y1.toInt - k0.toInt) (c8 : x5.toInt ≤ 6) : 0 ≤ (σ.1 3).toInt ∧ (σ.1 3).toInt ≤ 41 := by
  ((try and_intros) <;> first | assumption | omega | (subst_vars; omega) | trivial)
-- nw@146 @146
theorem v_number_7 (σ : RS) (k0 : Int32) (y1 : Int32) (x5 : Int32) (n15 : Int32) (x16 : Int32) (hpre_0 : 0 ≤ (σ.1 1).toInt) (hpre_1 : (σ.1 1).toInt ≤ 40) (hpre_2 : 0 ≤ (σ.1 3).toInt) (hpre_3 : (σ.1 3).toInt ≤ k0.toInt) (hpre_4 : k0.toInt < (σ.1 1).toInt) (hpre_5 : TKok (σ.2.1 4) (σ.2.2.1 6) (σ.2.1 7) (σ.1 3).toInt) (hpre_6 : k0.toInt < (σ.1 1).toInt) (hpre_7 : 48 ≤ ((σ.2.1 2) k0.toNatClampNeg).toInt) (hpre_8 : ((σ.2.1 2) k0.toNatClampNeg).toInt ≤ 57) (hi4_0 : k0.toInt ≤ y1.toInt) (hi4_1 : y1.toInt ≤ (σ.1 1).toInt) (ex5 : x5 = y1 - k0) (tx5 : x5.toInt = y1.toInt - k0.toInt) (c8 : x5.toInt ≤ 6) (hr14 : n15.toInt = (σ.1 3).toInt + 1) (ex16 : x16 = n15 - (1 : Int32)) : x16.toInt = n15.toInt - 1 := by
  have q1 : (1 : Int32).toInt = 1 := by decide +kernel
  have w1 : (1 : Int32).toInt = 1 := by decide +kernel
  rw [ex16, z_sub (by omega) (by omega)]; first | done | omega
-- in@149 @149
theorem v_number_8 (σ : RS) (k0 : Int32) (y1 : Int32) (x5 : Int32) (n15 : Int32) (x16 : Int32) (hpre_0 : 0 ≤ (σ.1 1).toInt) (hpre_1 : (σ.1 1).toInt ≤ 40) (hpre_2 : 0 ≤ (σ.1 3).toInt) (hpre_3 : (σ.1 3).toInt ≤ k0.toInt) (hpre_4 : k0.toInt < (σ.1 1).toInt) (hpre_5 : TKok (σ.2.1 4) (σ.2.2.1 6) (σ.2.1 7) (σ.1 3).toInt) (hpre_6 : k0.toInt < (σ.1 1).toInt) (hpre_7 : 48 ≤ ((σ.2.1 2) k0.toNatClampNeg).toInt) (hpre_8 : ((σ.2.1 2) k0.toNatClampNeg).toInt ≤ 57) (hi4_0 : k0.toInt ≤ y1.toInt) (hi4_1 : y1.toInt ≤ (σ.1 1).toInt) (ex5 : x5 = y1 - k0) (tx5 : x5.toInt = y1.toInt - k0.toInt) (c8 : x5.toInt ≤ 6) (hr14 : n15.toInt = (σ.1 3).toInt + 1) (ex16 : x16 = n15 - (1 : Int32)) (tx16 : x16.toInt = n15.toInt - 1) : vp_in x16 42 := by
  have q1 : (1 : Int32).toInt = 1 := by decide +kernel
  exact vp_in_iff.mpr ⟨by omega, by omega⟩
-- post @151
theorem v_number_9 (σ : RS) (k0 : Int32) (y1 : Int32) (y2 : Int64) (x5 : Int32) (r6 : Int32) (n15 : Int32) (x16 : Int32) (hpre_0 : 0 ≤ (σ.1 1).toInt) (hpre_1 : (σ.1 1).toInt ≤ 40) (hpre_2 : 0 ≤ (σ.1 3).toInt) (hpre_3 : (σ.1 3).toInt ≤ k0.toInt) (hpre_4 : k0.toInt < (σ.1 1).toInt) (hpre_5 : TKok (σ.2.1 4) (σ.2.2.1 6) (σ.2.1 7) (σ.1 3).toInt) (hpre_6 : k0.toInt < (σ.1 1).toInt) (hpre_7 : 48 ≤ ((σ.2.1 2) k0.toNatClampNeg).toInt) (hpre_8 : ((σ.2.1 2) k0.toNatClampNeg).toInt ≤ 57) (hi4_0 : k0.toInt ≤ y1.toInt) (hi4_1 : y1.toInt ≤ (σ.1 1).toInt) (hr3 : ¬ ((y1.toInt < (σ.1 1).toInt ∧ 48 ≤ ((σ.2.1 2) y1.toNatClampNeg).toInt ∧ ((σ.2.1 2) y1.toNatClampNeg).toInt ≤ 57))) (ex5 : x5 = y1 - k0) (tx5 : x5.toInt = y1.toInt - k0.toInt) (hr6 : (y1.toInt < (σ.1 1).toInt ∧ r6.toInt = ((σ.2.1 2) y1.toNatClampNeg).toInt) ∨ ((σ.1 1).toInt ≤ y1.toInt ∧ r6.toInt = 0)) (c7 : ¬ r6.toInt = 46) (c8 : x5.toInt ≤ 6) (hr14 : n15.toInt = (σ.1 3).toInt + 1) (ex16 : x16 = n15 - (1 : Int32)) (tx16 : x16.toInt = n15.toInt - 1) : k0.toInt < y1.toInt ∧ y1.toInt ≤ (σ.1 1).toInt ∧ 0 ≤ n15.toInt ∧ n15.toInt ≤ y1.toInt ∧ TKok (upd (σ.2.1 4) (σ.1 3).toNatClampNeg (1 : Int32)) (vp_updL (σ.2.2.1 6) (σ.1 3).toNatClampNeg y2) (upd (upd (σ.2.1 7) (σ.1 3).toNatClampNeg (0 : Int32)) x16.toNatClampNeg (0 : Int32)) n15.toInt := by
  have q0 : (0 : Int32).toInt = 0 := by decide +kernel
  have q1 : (1 : Int32).toInt = 1 := by decide +kernel
  have hc : y1.toInt ≠ k0.toInt := by
    intro h; have h := (Int32.toInt_inj.mp h : y1 = k0); subst h; omega
  have hz := hpre_5
  and_intros <;> first | exact hz | exact tk_add hz (by omega) (clampZ (by omega)) (by omega) (by omega) (by omega) | exact tk_add2 hz (by omega) (clampZ (by omega)) ((clampZ (by omega)).trans (by omega)) (by omega) (by omega) (by omega) | omega
-- nw@56 @56
theorem v_number_10 (σ : RS) (k0 : Int32) (y1 : Int32) (x5 : Int32) (r6 : Int32) (x17 : Int32) (hpre_0 : 0 ≤ (σ.1 1).toInt) (hpre_1 : (σ.1 1).toInt ≤ 40) (hpre_2 : 0 ≤ (σ.1 3).toInt) (hpre_3 : (σ.1 3).toInt ≤ k0.toInt) (hpre_4 : k0.toInt < (σ.1 1).toInt) (hpre_5 : TKok (σ.2.1 4) (σ.2.2.1 6) (σ.2.1 7) (σ.1 3).toInt) (hpre_6 : k0.toInt < (σ.1 1).toInt) (hpre_7 : 48 ≤ ((σ.2.1 2) k0.toNatClampNeg).toInt) (hpre_8 : ((σ.2.1 2) k0.toNatClampNeg).toInt ≤ 57) (hi4_0 : k0.toInt ≤ y1.toInt) (hi4_1 : y1.toInt ≤ (σ.1 1).toInt) (hr3 : ¬ ((y1.toInt < (σ.1 1).toInt ∧ 48 ≤ ((σ.2.1 2) y1.toNatClampNeg).toInt ∧ ((σ.2.1 2) y1.toNatClampNeg).toInt ≤ 57))) (ex5 : x5 = y1 - k0) (tx5 : x5.toInt = y1.toInt - k0.toInt) (hr6 : (y1.toInt < (σ.1 1).toInt ∧ r6.toInt = ((σ.2.1 2) y1.toNatClampNeg).toInt) ∨ ((σ.1 1).toInt ≤ y1.toInt ∧ r6.toInt = 0)) (c7 : r6.toInt = 46) (ex17 : x17 = y1 + (1 : Int32)) : x17.toInt = y1.toInt + 1 := by
  have q1 : (1 : Int32).toInt = 1 := by decide +kernel
  have w1 : (1 : Int32).toInt = 1 := by decide +kernel
  rw [ex17, z_add (by omega) (by omega)]; first | done | omega
-- pre:digit@57 @57
theorem v_number_11 (σ : RS) (k0 : Int32) (y1 : Int32) (x5 : Int32) (r6 : Int32) (x17 : Int32) (hpre_0 : 0 ≤ (σ.1 1).toInt) (hpre_1 : (σ.1 1).toInt ≤ 40) (hpre_2 : 0 ≤ (σ.1 3).toInt) (hpre_3 : (σ.1 3).toInt ≤ k0.toInt) (hpre_4 : k0.toInt < (σ.1 1).toInt) (hpre_5 : TKok (σ.2.1 4) (σ.2.2.1 6) (σ.2.1 7) (σ.1 3).toInt) (hpre_6 : k0.toInt < (σ.1 1).toInt) (hpre_7 : 48 ≤ ((σ.2.1 2) k0.toNatClampNeg).toInt) (hpre_8 : ((σ.2.1 2) k0.toNatClampNeg).toInt ≤ 57) (hi4_0 : k0.toInt ≤ y1.toInt) (hi4_1 : y1.toInt ≤ (σ.1 1).toInt) (hr3 : ¬ ((y1.toInt < (σ.1 1).toInt ∧ 48 ≤ ((σ.2.1 2) y1.toNatClampNeg).toInt ∧ ((σ.2.1 2) y1.toNatClampNeg).toInt ≤ 57))) (ex5 : x5 = y1 - k0) (tx5 : x5.toInt = y1.toInt - k0.toInt) (hr6 : (y1.toInt < (σ.1 1).toInt ∧ r6.toInt = ((σ.2.1 2) y1.toNatClampNeg).toInt) ∨ ((σ.1 1).toInt ≤ y1.toInt ∧ r6.toInt = 0)) (c7 : r6.toInt = 46) (ex17 : x17 = y1 + (1 : Int32)) (tx17 : x17.toInt = y1.toInt + 1) : 0 ≤ (σ.1 1).toInt ∧ (σ.1 1).toInt ≤ 40 ∧ 0 ≤ x17.toInt := by
  have q1 : (1 : Int32).toInt = 1 := by decide +kernel
  ((try and_intros) <;> first | assumption | omega | (subst_vars; omega) | trivial)
-- post @120
theorem v_number_12 (σ : RS) (k0 : Int32) (y1 : Int32) (x5 : Int32) (r6 : Int32) (x17 : Int32) (hpre_0 : 0 ≤ (σ.1 1).toInt) (hpre_1 : (σ.1 1).toInt ≤ 40) (hpre_2 : 0 ≤ (σ.1 3).toInt) (hpre_3 : (σ.1 3).toInt ≤ k0.toInt) (hpre_4 : k0.toInt < (σ.1 1).toInt) (hpre_5 : TKok (σ.2.1 4) (σ.2.2.1 6) (σ.2.1 7) (σ.1 3).toInt) (hpre_6 : k0.toInt < (σ.1 1).toInt) (hpre_7 : 48 ≤ ((σ.2.1 2) k0.toNatClampNeg).toInt) (hpre_8 : ((σ.2.1 2) k0.toNatClampNeg).toInt ≤ 57) (hi4_0 : k0.toInt ≤ y1.toInt) (hi4_1 : y1.toInt ≤ (σ.1 1).toInt) (hr3 : ¬ ((y1.toInt < (σ.1 1).toInt ∧ 48 ≤ ((σ.2.1 2) y1.toNatClampNeg).toInt ∧ ((σ.2.1 2) y1.toNatClampNeg).toInt ≤ 57))) (ex5 : x5 = y1 - k0) (tx5 : x5.toInt = y1.toInt - k0.toInt) (hr6 : (y1.toInt < (σ.1 1).toInt ∧ r6.toInt = ((σ.2.1 2) y1.toNatClampNeg).toInt) ∨ ((σ.1 1).toInt ≤ y1.toInt ∧ r6.toInt = 0)) (c7 : r6.toInt = 46) (ex17 : x17 = y1 + (1 : Int32)) (tx17 : x17.toInt = y1.toInt + 1) (hr18 : ¬ ((x17.toInt < (σ.1 1).toInt ∧ 48 ≤ ((σ.2.1 2) x17.toNatClampNeg).toInt ∧ ((σ.2.1 2) x17.toNatClampNeg).toInt ≤ 57))) (c20 : 6 < x5.toInt) : k0.toInt < y1.toInt ∧ y1.toInt ≤ (σ.1 1).toInt ∧ 0 ≤ (σ.1 3).toInt ∧ (σ.1 3).toInt ≤ y1.toInt ∧ TKok (σ.2.1 4) (σ.2.2.1 6) (σ.2.1 7) (σ.1 3).toInt := by
  have q1 : (1 : Int32).toInt = 1 := by decide +kernel
  have hc : y1.toInt ≠ k0.toInt := by
    intro h; have h := (Int32.toInt_inj.mp h : y1 = k0); subst h; omega
  have hz := hpre_5
  and_intros <;> first | exact hz | exact tk_add hz (by omega) (clampZ (by omega)) (by omega) (by omega) (by omega) | exact tk_add2 hz (by omega) (clampZ (by omega)) ((clampZ (by omega)).trans (by omega)) (by omega) (by omega) (by omega) | omega
-- pre:add@134 @134
theorem v_number_13 (σ : RS) (k0 : Int32) (y1 : Int32) (x5 : Int32) (x17 : Int32) (hpre_0 : 0 ≤ (σ.1 1).toInt) (hpre_1 : (σ.1 1).toInt ≤ 40) (hpre_2 : 0 ≤ (σ.1 3).toInt) (hpre_3 : (σ.1 3).toInt ≤ k0.toInt) (hpre_4 : k0.toInt < (σ.1 1).toInt) (hpre_5 : TKok (σ.2.1 4) (σ.2.2.1 6) (σ.2.1 7) (σ.1 3).toInt) (hpre_6 : k0.toInt < (σ.1 1).toInt) (hpre_7 : 48 ≤ ((σ.2.1 2) k0.toNatClampNeg).toInt) (hpre_8 : ((σ.2.1 2) k0.toNatClampNeg).toInt ≤ 57) (hi4_0 : k0.toInt ≤ y1.toInt) (hi4_1 : y1.toInt ≤ (σ.1 1).toInt) (ex5 : x5 = y1 - k0) (tx5 : x5.toInt = y1.toInt - k0.toInt) (ex17 : x17 = y1 + (1 : Int32)) (tx17 : x17.toInt = y1.toInt + 1) (c20 : x5.toInt ≤ 6) : 0 ≤ (σ.1 3).toInt ∧ (σ.1 3).toInt ≤ 41 := by
  have q1 : (1 : Int32).toInt = 1 := by decide +kernel
  ((try and_intros) <;> first | assumption | omega | (subst_vars; omega) | trivial)
-- nw@146 @146
theorem v_number_14 (σ : RS) (k0 : Int32) (y1 : Int32) (x5 : Int32) (x17 : Int32) (n27 : Int32) (x28 : Int32) (hpre_0 : 0 ≤ (σ.1 1).toInt) (hpre_1 : (σ.1 1).toInt ≤ 40) (hpre_2 : 0 ≤ (σ.1 3).toInt) (hpre_3 : (σ.1 3).toInt ≤ k0.toInt) (hpre_4 : k0.toInt < (σ.1 1).toInt) (hpre_5 : TKok (σ.2.1 4) (σ.2.2.1 6) (σ.2.1 7) (σ.1 3).toInt) (hpre_6 : k0.toInt < (σ.1 1).toInt) (hpre_7 : 48 ≤ ((σ.2.1 2) k0.toNatClampNeg).toInt) (hpre_8 : ((σ.2.1 2) k0.toNatClampNeg).toInt ≤ 57) (hi4_0 : k0.toInt ≤ y1.toInt) (hi4_1 : y1.toInt ≤ (σ.1 1).toInt) (ex5 : x5 = y1 - k0) (tx5 : x5.toInt = y1.toInt - k0.toInt) (ex17 : x17 = y1 + (1 : Int32)) (tx17 : x17.toInt = y1.toInt + 1) (c20 : x5.toInt ≤ 6) (hr26 : n27.toInt = (σ.1 3).toInt + 1) (ex28 : x28 = n27 - (1 : Int32)) : x28.toInt = n27.toInt - 1 := by
  have q1 : (1 : Int32).toInt = 1 := by decide +kernel
  have w1 : (1 : Int32).toInt = 1 := by decide +kernel
  rw [ex28, z_sub (by omega) (by omega)]; first | done | omega
-- in@149 @149
theorem v_number_15 (σ : RS) (k0 : Int32) (y1 : Int32) (x5 : Int32) (x17 : Int32) (n27 : Int32) (x28 : Int32) (hpre_0 : 0 ≤ (σ.1 1).toInt) (hpre_1 : (σ.1 1).toInt ≤ 40) (hpre_2 : 0 ≤ (σ.1 3).toInt) (hpre_3 : (σ.1 3).toInt ≤ k0.toInt) (hpre_4 : k0.toInt < (σ.1 1).toInt) (hpre_5 : TKok (σ.2.1 4) (σ.2.2.1 6) (σ.2.1 7) (σ.1 3).toInt) (hpre_6 : k0.toInt < (σ.1 1).toInt) (hpre_7 : 48 ≤ ((σ.2.1 2) k0.toNatClampNeg).toInt) (hpre_8 : ((σ.2.1 2) k0.toNatClampNeg).toInt ≤ 57) (hi4_0 : k0.toInt ≤ y1.toInt) (hi4_1 : y1.toInt ≤ (σ.1 1).toInt) (ex5 : x5 = y1 - k0) (tx5 : x5.toInt = y1.toInt - k0.toInt) (ex17 : x17 = y1 + (1 : Int32)) (tx17 : x17.toInt = y1.toInt + 1) (c20 : x5.toInt ≤ 6) (hr26 : n27.toInt = (σ.1 3).toInt + 1) (ex28 : x28 = n27 - (1 : Int32)) (tx28 : x28.toInt = n27.toInt - 1) : vp_in x28 42 := by
  have q1 : (1 : Int32).toInt = 1 := by decide +kernel
  exact vp_in_iff.mpr ⟨by omega, by omega⟩
-- post @151
theorem v_number_16 (σ : RS) (k0 : Int32) (y1 : Int32) (y2 : Int64) (x5 : Int32) (r6 : Int32) (x17 : Int32) (n27 : Int32) (x28 : Int32) (hpre_0 : 0 ≤ (σ.1 1).toInt) (hpre_1 : (σ.1 1).toInt ≤ 40) (hpre_2 : 0 ≤ (σ.1 3).toInt) (hpre_3 : (σ.1 3).toInt ≤ k0.toInt) (hpre_4 : k0.toInt < (σ.1 1).toInt) (hpre_5 : TKok (σ.2.1 4) (σ.2.2.1 6) (σ.2.1 7) (σ.1 3).toInt) (hpre_6 : k0.toInt < (σ.1 1).toInt) (hpre_7 : 48 ≤ ((σ.2.1 2) k0.toNatClampNeg).toInt) (hpre_8 : ((σ.2.1 2) k0.toNatClampNeg).toInt ≤ 57) (hi4_0 : k0.toInt ≤ y1.toInt) (hi4_1 : y1.toInt ≤ (σ.1 1).toInt) (hr3 : ¬ ((y1.toInt < (σ.1 1).toInt ∧ 48 ≤ ((σ.2.1 2) y1.toNatClampNeg).toInt ∧ ((σ.2.1 2) y1.toNatClampNeg).toInt ≤ 57))) (ex5 : x5 = y1 - k0) (tx5 : x5.toInt = y1.toInt - k0.toInt) (hr6 : (y1.toInt < (σ.1 1).toInt ∧ r6.toInt = ((σ.2.1 2) y1.toNatClampNeg).toInt) ∨ ((σ.1 1).toInt ≤ y1.toInt ∧ r6.toInt = 0)) (c7 : r6.toInt = 46) (ex17 : x17 = y1 + (1 : Int32)) (tx17 : x17.toInt = y1.toInt + 1) (hr18 : ¬ ((x17.toInt < (σ.1 1).toInt ∧ 48 ≤ ((σ.2.1 2) x17.toNatClampNeg).toInt ∧ ((σ.2.1 2) x17.toNatClampNeg).toInt ≤ 57))) (c20 : x5.toInt ≤ 6) (hr26 : n27.toInt = (σ.1 3).toInt + 1) (ex28 : x28 = n27 - (1 : Int32)) (tx28 : x28.toInt = n27.toInt - 1) : k0.toInt < y1.toInt ∧ y1.toInt ≤ (σ.1 1).toInt ∧ 0 ≤ n27.toInt ∧ n27.toInt ≤ y1.toInt ∧ TKok (upd (σ.2.1 4) (σ.1 3).toNatClampNeg (1 : Int32)) (vp_updL (σ.2.2.1 6) (σ.1 3).toNatClampNeg y2) (upd (upd (σ.2.1 7) (σ.1 3).toNatClampNeg (0 : Int32)) x28.toNatClampNeg (0 : Int32)) n27.toInt := by
  have q0 : (0 : Int32).toInt = 0 := by decide +kernel
  have q1 : (1 : Int32).toInt = 1 := by decide +kernel
  have hc : y1.toInt ≠ k0.toInt := by
    intro h; have h := (Int32.toInt_inj.mp h : y1 = k0); subst h; omega
  have hz := hpre_5
  and_intros <;> first | exact hz | exact tk_add hz (by omega) (clampZ (by omega)) (by omega) (by omega) (by omega) | exact tk_add2 hz (by omega) (clampZ (by omega)) ((clampZ (by omega)).trans (by omega)) (by omega) (by omega) (by omega) | omega
-- nw@63 @63
theorem v_number_17 (σ : RS) (k0 : Int32) (y1 : Int32) (x5 : Int32) (r6 : Int32) (x17 : Int32) (x29 : Int32) (hpre_0 : 0 ≤ (σ.1 1).toInt) (hpre_1 : (σ.1 1).toInt ≤ 40) (hpre_2 : 0 ≤ (σ.1 3).toInt) (hpre_3 : (σ.1 3).toInt ≤ k0.toInt) (hpre_4 : k0.toInt < (σ.1 1).toInt) (hpre_5 : TKok (σ.2.1 4) (σ.2.2.1 6) (σ.2.1 7) (σ.1 3).toInt) (hpre_6 : k0.toInt < (σ.1 1).toInt) (hpre_7 : 48 ≤ ((σ.2.1 2) k0.toNatClampNeg).toInt) (hpre_8 : ((σ.2.1 2) k0.toNatClampNeg).toInt ≤ 57) (hi4_0 : k0.toInt ≤ y1.toInt) (hi4_1 : y1.toInt ≤ (σ.1 1).toInt) (hr3 : ¬ ((y1.toInt < (σ.1 1).toInt ∧ 48 ≤ ((σ.2.1 2) y1.toNatClampNeg).toInt ∧ ((σ.2.1 2) y1.toNatClampNeg).toInt ≤ 57))) (ex5 : x5 = y1 - k0) (tx5 : x5.toInt = y1.toInt - k0.toInt) (hr6 : (y1.toInt < (σ.1 1).toInt ∧ r6.toInt = ((σ.2.1 2) y1.toNatClampNeg).toInt) ∨ ((σ.1 1).toInt ≤ y1.toInt ∧ r6.toInt = 0)) (c7 : r6.toInt = 46) (ex17 : x17 = y1 + (1 : Int32)) (tx17 : x17.toInt = y1.toInt + 1) (hr18_0 : x17.toInt < (σ.1 1).toInt) (hr18_1 : 48 ≤ ((σ.2.1 2) x17.toNatClampNeg).toInt) (hr18_2 : ((σ.2.1 2) x17.toNatClampNeg).toInt ≤ 57) (ex29 : x29 = y1 + (1 : Int32)) : x29.toInt = y1.toInt + 1 := by
  have q1 : (1 : Int32).toInt = 1 := by decide +kernel
  have z9 : (1 : Int32).toInt = 1 := by decide +kernel
  rw [ex29, z_add (by omega) (by omega)]; first | done | omega
-- init@66 @66
theorem v_number_18 (σ : RS) (k0 : Int32) (y1 : Int32) (x5 : Int32) (r6 : Int32) (x17 : Int32) (x29 : Int32) (hpre_0 : 0 ≤ (σ.1 1).toInt) (hpre_1 : (σ.1 1).toInt ≤ 40) (hpre_2 : 0 ≤ (σ.1 3).toInt) (hpre_3 : (σ.1 3).toInt ≤ k0.toInt) (hpre_4 : k0.toInt < (σ.1 1).toInt) (hpre_5 : TKok (σ.2.1 4) (σ.2.2.1 6) (σ.2.1 7) (σ.1 3).toInt) (hpre_6 : k0.toInt < (σ.1 1).toInt) (hpre_7 : 48 ≤ ((σ.2.1 2) k0.toNatClampNeg).toInt) (hpre_8 : ((σ.2.1 2) k0.toNatClampNeg).toInt ≤ 57) (hi4_0 : k0.toInt ≤ y1.toInt) (hi4_1 : y1.toInt ≤ (σ.1 1).toInt) (hr3 : ¬ ((y1.toInt < (σ.1 1).toInt ∧ 48 ≤ ((σ.2.1 2) y1.toNatClampNeg).toInt ∧ ((σ.2.1 2) y1.toNatClampNeg).toInt ≤ 57))) (ex5 : x5 = y1 - k0) (tx5 : x5.toInt = y1.toInt - k0.toInt) (hr6 : (y1.toInt < (σ.1 1).toInt ∧ r6.toInt = ((σ.2.1 2) y1.toNatClampNeg).toInt) ∨ ((σ.1 1).toInt ≤ y1.toInt ∧ r6.toInt = 0)) (c7 : r6.toInt = 46) (ex17 : x17 = y1 + (1 : Int32)) (tx17 : x17.toInt = y1.toInt + 1) (hr18_0 : x17.toInt < (σ.1 1).toInt) (hr18_1 : 48 ≤ ((σ.2.1 2) x17.toNatClampNeg).toInt) (hr18_2 : ((σ.2.1 2) x17.toNatClampNeg).toInt ≤ 57) (ex29 : x29 = y1 + (1 : Int32)) (tx29 : x29.toInt = y1.toInt + 1) : k0.toInt < x29.toInt ∧ x29.toInt ≤ (σ.1 1).toInt ∧ 0 ≤ (0 : Int32).toInt ∧ (0 : Int32).toInt ≤ x29.toInt := by
  have q0 : (0 : Int32).toInt = 0 := by decide +kernel
  have q1 : (1 : Int32).toInt = 1 := by decide +kernel
  ((try and_intros) <;> first | assumption | omega | (subst_vars; omega) | trivial)
-- pre:digit@68 @68
theorem v_number_19 (σ : RS) (k0 : Int32) (y1 : Int32) (x5 : Int32) (r6 : Int32) (x17 : Int32) (x29 : Int32) (y30 : Int32) (y32 : Int32) (hpre_0 : 0 ≤ (σ.1 1).toInt) (hpre_1 : (σ.1 1).toInt ≤ 40) (hpre_2 : 0 ≤ (σ.1 3).toInt) (hpre_3 : (σ.1 3).toInt ≤ k0.toInt) (hpre_4 : k0.toInt < (σ.1 1).toInt) (hpre_5 : TKok (σ.2.1 4) (σ.2.2.1 6) (σ.2.1 7) (σ.1 3).toInt) (hpre_6 : k0.toInt < (σ.1 1).toInt) (hpre_7 : 48 ≤ ((σ.2.1 2) k0.toNatClampNeg).toInt) (hpre_8 : ((σ.2.1 2) k0.toNatClampNeg).toInt ≤ 57) (hi4_0 : k0.toInt ≤ y1.toInt) (hi4_1 : y1.toInt ≤ (σ.1 1).toInt) (hr3 : ¬ ((y1.toInt < (σ.1 1).toInt ∧ 48 ≤ ((σ.2.1 2) y1.toNatClampNeg).toInt ∧ ((σ.2.1 2) y1.toNatClampNeg).toInt ≤ 57))) (ex5 : x5 = y1 - k0) (tx5 : x5.toInt = y1.toInt - k0.toInt) (hr6 : (y1.toInt < (σ.1 1).toInt ∧ r6.toInt = ((σ.2.1 2) y1.toNatClampNeg).toInt) ∨ ((σ.1 1).toInt ≤ y1.toInt ∧ r6.toInt = 0)) (c7 : r6.toInt = 46) (ex17 : x17 = y1 + (1 : Int32)) (tx17 : x17.toInt = y1.toInt + 1) (hr18_0 : x17.toInt < (σ.1 1).toInt) (hr18_1 : 48 ≤ ((σ.2.1 2) x17.toNatClampNeg).toInt) (hr18_2 : ((σ.2.1 2) x17.toNatClampNeg).toInt ≤ 57) (ex29 : x29 = y1 + (1 : Int32)) (tx29 : x29.toInt = y1.toInt + 1) (hi66_0 : k0.toInt < y30.toInt) (hi66_1 : y30.toInt ≤ (σ.1 1).toInt) (hi66_2 : 0 ≤ y32.toInt) (hi66_3 : y32.toInt ≤ y30.toInt) : 0 ≤ (σ.1 1).toInt ∧ (σ.1 1).toInt ≤ 40 ∧ 0 ≤ y30.toInt := by
  have q1 : (1 : Int32).toInt = 1 := by decide +kernel
  ((try and_intros) <;> first | assumption | omega | (subst_vars; omega) | trivial)
-- post @120
theorem v_number_20 (σ : RS) (k0 : Int32) (y1 : Int32) (x5 : Int32) (r6 : Int32) (x17 : Int32) (x29 : Int32) (y30 : Int32) (y32 : Int32) (hpre_0 : 0 ≤ (σ.1 1).toInt) (hpre_1 : (σ.1 1).toInt ≤ 40) (hpre_2 : 0 ≤ (σ.1 3).toInt) (hpre_3 : (σ.1 3).toInt ≤ k0.toInt) (hpre_4 : k0.toInt < (σ.1 1).toInt) (hpre_5 : TKok (σ.2.1 4) (σ.2.2.1 6) (σ.2.1 7) (σ.1 3).toInt) (hpre_6 : k0.toInt < (σ.1 1).toInt) (hpre_7 : 48 ≤ ((σ.2.1 2) k0.toNatClampNeg).toInt) (hpre_8 : ((σ.2.1 2) k0.toNatClampNeg).toInt ≤ 57) (hi4_0 : k0.toInt ≤ y1.toInt) (hi4_1 : y1.toInt ≤ (σ.1 1).toInt) (hr3 : ¬ ((y1.toInt < (σ.1 1).toInt ∧ 48 ≤ ((σ.2.1 2) y1.toNatClampNeg).toInt ∧ ((σ.2.1 2) y1.toNatClampNeg).toInt ≤ 57))) (ex5 : x5 = y1 - k0) (tx5 : x5.toInt = y1.toInt - k0.toInt) (hr6 : (y1.toInt < (σ.1 1).toInt ∧ r6.toInt = ((σ.2.1 2) y1.toNatClampNeg).toInt) ∨ ((σ.1 1).toInt ≤ y1.toInt ∧ r6.toInt = 0)) (c7 : r6.toInt = 46) (ex17 : x17 = y1 + (1 : Int32)) (tx17 : x17.toInt = y1.toInt + 1) (hr18_0 : x17.toInt < (σ.1 1).toInt) (hr18_1 : 48 ≤ ((σ.2.1 2) x17.toNatClampNeg).toInt) (hr18_2 : ((σ.2.1 2) x17.toNatClampNeg).toInt ≤ 57) (ex29 : x29 = y1 + (1 : Int32)) (tx29 : x29.toInt = y1.toInt + 1) (hi66_0 : k0.toInt < y30.toInt) (hi66_1 : y30.toInt ≤ (σ.1 1).toInt) (hi66_2 : 0 ≤ y32.toInt) (hi66_3 : y32.toInt ≤ y30.toInt) (hr33 : ¬ ((y30.toInt < (σ.1 1).toInt ∧ 48 ≤ ((σ.2.1 2) y30.toNatClampNeg).toInt ∧ ((σ.2.1 2) y30.toNatClampNeg).toInt ≤ 57))) (c35 : 6 < x5.toInt) : k0.toInt < y30.toInt ∧ y30.toInt ≤ (σ.1 1).toInt ∧ 0 ≤ (σ.1 3).toInt ∧ (σ.1 3).toInt ≤ y30.toInt ∧ TKok (σ.2.1 4) (σ.2.2.1 6) (σ.2.1 7) (σ.1 3).toInt := by
  have q1 : (1 : Int32).toInt = 1 := by decide +kernel
  have hc : y1.toInt ≠ k0.toInt := by
    intro h; have h := (Int32.toInt_inj.mp h : y1 = k0); subst h; omega
  have hz := hpre_5
  and_intros <;> first | exact hz | exact tk_add hz (by omega) (clampZ (by omega)) (by omega) (by omega) (by omega) | exact tk_add2 hz (by omega) (clampZ (by omega)) ((clampZ (by omega)).trans (by omega)) (by omega) (by omega) (by omega) | omega
-- pre:add@134 @134
theorem v_number_21 (σ : RS) (k0 : Int32) (y1 : Int32) (x5 : Int32) (x17 : Int32) (x29 : Int32) (y30 : Int32) (y32 : Int32) (hpre_0 : 0 ≤ (σ.1 1).toInt) (hpre_1 : (σ.1 1).toInt ≤ 40) (hpre_2 : 0 ≤ (σ.1 3).toInt) (hpre_3 : (σ.1 3).toInt ≤ k0.toInt) (hpre_4 : k0.toInt < (σ.1 1).toInt) (hpre_5 : TKok (σ.2.1 4) (σ.2.2.1 6) (σ.2.1 7) (σ.1 3).toInt) (hpre_6 : k0.toInt < (σ.1 1).toInt) (hpre_7 : 48 ≤ ((σ.2.1 2) k0.toNatClampNeg).toInt) (hpre_8 : ((σ.2.1 2) k0.toNatClampNeg).toInt ≤ 57) (hi4_0 : k0.toInt ≤ y1.toInt) (hi4_1 : y1.toInt ≤ (σ.1 1).toInt) (ex5 : x5 = y1 - k0) (tx5 : x5.toInt = y1.toInt - k0.toInt) (ex17 : x17 = y1 + (1 : Int32)) (tx17 : x17.toInt = y1.toInt + 1) (hr18_0 : x17.toInt < (σ.1 1).toInt) (hr18_1 : 48 ≤ ((σ.2.1 2) x17.toNatClampNeg).toInt) (hr18_2 : ((σ.2.1 2) x17.toNatClampNeg).toInt ≤ 57) (ex29 : x29 = y1 + (1 : Int32)) (tx29 : x29.toInt = y1.toInt + 1) (hi66_0 : k0.toInt < y30.toInt) (hi66_1 : y30.toInt ≤ (σ.1 1).toInt) (hi66_2 : 0 ≤ y32.toInt) (hi66_3 : y32.toInt ≤ y30.toInt) (c35 : x5.toInt ≤ 6) (c39 : y32.toInt ≤ 3) (c40 : y32.toInt ≤ 0) : 0 ≤ (σ.1 3).toInt ∧ (σ.1 3).toInt ≤ 41 := by
  have q1 : (1 : Int32).toInt = 1 := by decide +kernel
  ((try and_intros) <;> first | assumption | omega | (subst_vars; omega) | trivial)
-- nw@146 @146
theorem v_number_22 (σ : RS) (k0 : Int32) (y1 : Int32) (x5 : Int32) (x17 : Int32) (x29 : Int32) (y30 : Int32) (y32 : Int32) (n42 : Int32) (x43 : Int32) (hpre_0 : 0 ≤ (σ.1 1).toInt) (hpre_1 : (σ.1 1).toInt ≤ 40) (hpre_2 : 0 ≤ (σ.1 3).toInt) (hpre_3 : (σ.1 3).toInt ≤ k0.toInt) (hpre_4 : k0.toInt < (σ.1 1).toInt) (hpre_5 : TKok (σ.2.1 4) (σ.2.2.1 6) (σ.2.1 7) (σ.1 3).toInt) (hpre_6 : k0.toInt < (σ.1 1).toInt) (hpre_7 : 48 ≤ ((σ.2.1 2) k0.toNatClampNeg).toInt) (hpre_8 : ((σ.2.1 2) k0.toNatClampNeg).toInt ≤ 57) (hi4_0 : k0.toInt ≤ y1.toInt) (hi4_1 : y1.toInt ≤ (σ.1 1).toInt) (ex5 : x5 = y1 - k0) (tx5 : x5.toInt = y1.toInt - k0.toInt) (ex17 : x17 = y1 + (1 : Int32)) (tx17 : x17.toInt = y1.toInt + 1) (hr18_0 : x17.toInt < (σ.1 1).toInt) (hr18_1 : 48 ≤ ((σ.2.1 2) x17.toNatClampNeg).toInt) (hr18_2 : ((σ.2.1 2) x17.toNatClampNeg).toInt ≤ 57) (ex29 : x29 = y1 + (1 : Int32)) (tx29 : x29.toInt = y1.toInt + 1) (hi66_0 : k0.toInt < y30.toInt) (hi66_1 : y30.toInt ≤ (σ.1 1).toInt) (hi66_2 : 0 ≤ y32.toInt) (hi66_3 : y32.toInt ≤ y30.toInt) (c35 : x5.toInt ≤ 6) (c39 : y32.toInt ≤ 3) (c40 : y32.toInt ≤ 0) (hr41 : n42.toInt = (σ.1 3).toInt + 1) (ex43 : x43 = n42 - (1 : Int32)) : x43.toInt = n42.toInt - 1 := by
  have q1 : (1 : Int32).toInt = 1 := by decide +kernel
  have w1 : (1 : Int32).toInt = 1 := by decide +kernel
  rw [ex43, z_sub (by omega) (by omega)]; first | done | omega
-- in@149 @149
theorem v_number_23 (σ : RS) (k0 : Int32) (y1 : Int32) (x5 : Int32) (x17 : Int32) (x29 : Int32) (y30 : Int32) (y32 : Int32) (n42 : Int32) (x43 : Int32) (hpre_0 : 0 ≤ (σ.1 1).toInt) (hpre_1 : (σ.1 1).toInt ≤ 40) (hpre_2 : 0 ≤ (σ.1 3).toInt) (hpre_3 : (σ.1 3).toInt ≤ k0.toInt) (hpre_4 : k0.toInt < (σ.1 1).toInt) (hpre_5 : TKok (σ.2.1 4) (σ.2.2.1 6) (σ.2.1 7) (σ.1 3).toInt) (hpre_6 : k0.toInt < (σ.1 1).toInt) (hpre_7 : 48 ≤ ((σ.2.1 2) k0.toNatClampNeg).toInt) (hpre_8 : ((σ.2.1 2) k0.toNatClampNeg).toInt ≤ 57) (hi4_0 : k0.toInt ≤ y1.toInt) (hi4_1 : y1.toInt ≤ (σ.1 1).toInt) (ex5 : x5 = y1 - k0) (tx5 : x5.toInt = y1.toInt - k0.toInt) (ex17 : x17 = y1 + (1 : Int32)) (tx17 : x17.toInt = y1.toInt + 1) (hr18_0 : x17.toInt < (σ.1 1).toInt) (hr18_1 : 48 ≤ ((σ.2.1 2) x17.toNatClampNeg).toInt) (hr18_2 : ((σ.2.1 2) x17.toNatClampNeg).toInt ≤ 57) (ex29 : x29 = y1 + (1 : Int32)) (tx29 : x29.toInt = y1.toInt + 1) (hi66_0 : k0.toInt < y30.toInt) (hi66_1 : y30.toInt ≤ (σ.1 1).toInt) (hi66_2 : 0 ≤ y32.toInt) (hi66_3 : y32.toInt ≤ y30.toInt) (c35 : x5.toInt ≤ 6) (c39 : y32.toInt ≤ 3) (c40 : y32.toInt ≤ 0) (hr41 : n42.toInt = (σ.1 3).toInt + 1) (ex43 : x43 = n42 - (1 : Int32)) (tx43 : x43.toInt = n42.toInt - 1) : vp_in x43 42 := by
  have q1 : (1 : Int32).toInt = 1 := by decide +kernel
  exact vp_in_iff.mpr ⟨by omega, by omega⟩
-- post @151
theorem v_number_24 (σ : RS) (k0 : Int32) (y1 : Int32) (x5 : Int32) (r6 : Int32) (x17 : Int32) (x29 : Int32) (y30 : Int32) (y31 : Int64) (y32 : Int32) (n42 : Int32) (x43 : Int32) (hpre_0 : 0 ≤ (σ.1 1).toInt) (hpre_1 : (σ.1 1).toInt ≤ 40) (hpre_2 : 0 ≤ (σ.1 3).toInt) (hpre_3 : (σ.1 3).toInt ≤ k0.toInt) (hpre_4 : k0.toInt < (σ.1 1).toInt) (hpre_5 : TKok (σ.2.1 4) (σ.2.2.1 6) (σ.2.1 7) (σ.1 3).toInt) (hpre_6 : k0.toInt < (σ.1 1).toInt) (hpre_7 : 48 ≤ ((σ.2.1 2) k0.toNatClampNeg).toInt) (hpre_8 : ((σ.2.1 2) k0.toNatClampNeg).toInt ≤ 57) (hi4_0 : k0.toInt ≤ y1.toInt) (hi4_1 : y1.toInt ≤ (σ.1 1).toInt) (hr3 : ¬ ((y1.toInt < (σ.1 1).toInt ∧ 48 ≤ ((σ.2.1 2) y1.toNatClampNeg).toInt ∧ ((σ.2.1 2) y1.toNatClampNeg).toInt ≤ 57))) (ex5 : x5 = y1 - k0) (tx5 : x5.toInt = y1.toInt - k0.toInt) (hr6 : (y1.toInt < (σ.1 1).toInt ∧ r6.toInt = ((σ.2.1 2) y1.toNatClampNeg).toInt) ∨ ((σ.1 1).toInt ≤ y1.toInt ∧ r6.toInt = 0)) (c7 : r6.toInt = 46) (ex17 : x17 = y1 + (1 : Int32)) (tx17 : x17.toInt = y1.toInt + 1) (hr18_0 : x17.toInt < (σ.1 1).toInt) (hr18_1 : 48 ≤ ((σ.2.1 2) x17.toNatClampNeg).toInt) (hr18_2 : ((σ.2.1 2) x17.toNatClampNeg).toInt ≤ 57) (ex29 : x29 = y1 + (1 : Int32)) (tx29 : x29.toInt = y1.toInt + 1) (hi66_0 : k0.toInt < y30.toInt) (hi66_1 : y30.toInt ≤ (σ.1 1).toInt) (hi66_2 : 0 ≤ y32.toInt) (hi66_3 : y32.toInt ≤ y30.toInt) (hr33 : ¬ ((y30.toInt < (σ.1 1).toInt ∧ 48 ≤ ((σ.2.1 2) y30.toNatClampNeg).toInt ∧ ((σ.2.1 2) y30.toNatClampNeg).toInt ≤ 57))) (c35 : x5.toInt ≤ 6) (c39 : y32.toInt ≤ 3) (c40 : y32.toInt ≤ 0) (hr41 : n42.toInt = (σ.1 3).toInt + 1) (ex43 : x43 = n42 - (1 : Int32)) (tx43 : x43.toInt = n42.toInt - 1) : k0.toInt < y30.toInt ∧ y30.toInt ≤ (σ.1 1).toInt ∧ 0 ≤ n42.toInt ∧ n42.toInt ≤ y30.toInt ∧ TKok (upd (σ.2.1 4) (σ.1 3).toNatClampNeg (1 : Int32)) (vp_updL (σ.2.2.1 6) (σ.1 3).toNatClampNeg y31) (upd (upd (σ.2.1 7) (σ.1 3).toNatClampNeg (0 : Int32)) x43.toNatClampNeg y32) n42.toInt := by
  have q0 : (0 : Int32).toInt = 0 := by decide +kernel
  have q1 : (1 : Int32).toInt = 1 := by decide +kernel
  have hc : y1.toInt ≠ k0.toInt := by
    intro h; have h := (Int32.toInt_inj.mp h : y1 = k0); subst h; omega
  have hz := hpre_5
  and_intros <;> first | exact hz | exact tk_add hz (by omega) (clampZ (by omega)) (by omega) (by omega) (by omega) | exact tk_add2 hz (by omega) (clampZ (by omega)) ((clampZ (by omega)).trans (by omega)) (by omega) (by omega) (by omega) | omega
-- pre:add@134 @134
theorem v_number_25 (σ : RS) (k0 : Int32) (y1 : Int32) (x5 : Int32) (x17 : Int32) (x29 : Int32) (y30 : Int32) (y32 : Int32) (hpre_0 : 0 ≤ (σ.1 1).toInt) (hpre_1 : (σ.1 1).toInt ≤ 40) (hpre_2 : 0 ≤ (σ.1 3).toInt) (hpre_3 : (σ.1 3).toInt ≤ k0.toInt) (hpre_4 : k0.toInt < (σ.1 1).toInt) (hpre_5 : TKok (σ.2.1 4) (σ.2.2.1 6) (σ.2.1 7) (σ.1 3).toInt) (hpre_6 : k0.toInt < (σ.1 1).toInt) (hpre_7 : 48 ≤ ((σ.2.1 2) k0.toNatClampNeg).toInt) (hpre_8 : ((σ.2.1 2) k0.toNatClampNeg).toInt ≤ 57) (hi4_0 : k0.toInt ≤ y1.toInt) (hi4_1 : y1.toInt ≤ (σ.1 1).toInt) (ex5 : x5 = y1 - k0) (tx5 : x5.toInt = y1.toInt - k0.toInt) (ex17 : x17 = y1 + (1 : Int32)) (tx17 : x17.toInt = y1.toInt + 1) (hr18_0 : x17.toInt < (σ.1 1).toInt) (hr18_1 : 48 ≤ ((σ.2.1 2) x17.toNatClampNeg).toInt) (hr18_2 : ((σ.2.1 2) x17.toNatClampNeg).toInt ≤ 57) (ex29 : x29 = y1 + (1 : Int32)) (tx29 : x29.toInt = y1.toInt + 1) (hi66_0 : k0.toInt < y30.toInt) (hi66_1 : y30.toInt ≤ (σ.1 1).toInt) (hi66_2 : 0 ≤ y32.toInt) (hi66_3 : y32.toInt ≤ y30.toInt) (c35 : x5.toInt ≤ 6) (c39 : y32.toInt ≤ 3) (c40 : 0 < y32.toInt) : 0 ≤ (σ.1 3).toInt ∧ (σ.1 3).toInt ≤ 41 := by
  have q1 : (1 : Int32).toInt = 1 := by decide +kernel
  ((try and_intros) <;> first | assumption | omega | (subst_vars; omega) | trivial)
-- nw@146 @146
theorem v_number_26 (σ : RS) (k0 : Int32) (y1 : Int32) (x5 : Int32) (x17 : Int32) (x29 : Int32) (y30 : Int32) (y32 : Int32) (n45 : Int32) (x46 : Int32) (hpre_0 : 0 ≤ (σ.1 1).toInt) (hpre_1 : (σ.1 1).toInt ≤ 40) (hpre_2 : 0 ≤ (σ.1 3).toInt) (hpre_3 : (σ.1 3).toInt ≤ k0.toInt) (hpre_4 : k0.toInt < (σ.1 1).toInt) (hpre_5 : TKok (σ.2.1 4) (σ.2.2.1 6) (σ.2.1 7) (σ.1 3).toInt) (hpre_6 : k0.toInt < (σ.1 1).toInt) (hpre_7 : 48 ≤ ((σ.2.1 2) k0.toNatClampNeg).toInt) (hpre_8 : ((σ.2.1 2) k0.toNatClampNeg).toInt ≤ 57) (hi4_0 : k0.toInt ≤ y1.toInt) (hi4_1 : y1.toInt ≤ (σ.1 1).toInt) (ex5 : x5 = y1 - k0) (tx5 : x5.toInt = y1.toInt - k0.toInt) (ex17 : x17 = y1 + (1 : Int32)) (tx17 : x17.toInt = y1.toInt + 1) (hr18_0 : x17.toInt < (σ.1 1).toInt) (hr18_1 : 48 ≤ ((σ.2.1 2) x17.toNatClampNeg).toInt) (hr18_2 : ((σ.2.1 2) x17.toNatClampNeg).toInt ≤ 57) (ex29 : x29 = y1 + (1 : Int32)) (tx29 : x29.toInt = y1.toInt + 1) (hi66_0 : k0.toInt < y30.toInt) (hi66_1 : y30.toInt ≤ (σ.1 1).toInt) (hi66_2 : 0 ≤ y32.toInt) (hi66_3 : y32.toInt ≤ y30.toInt) (c35 : x5.toInt ≤ 6) (c39 : y32.toInt ≤ 3) (c40 : 0 < y32.toInt) (hr44 : n45.toInt = (σ.1 3).toInt + 1) (ex46 : x46 = n45 - (1 : Int32)) : x46.toInt = n45.toInt - 1 := by
  have q1 : (1 : Int32).toInt = 1 := by decide +kernel
  have w1 : (1 : Int32).toInt = 1 := by decide +kernel
  rw [ex46, z_sub (by omega) (by omega)]; first | done | omega
-- in@149 @149
theorem v_number_27 (σ : RS) (k0 : Int32) (y1 : Int32) (x5 : Int32) (x17 : Int32) (x29 : Int32) (y30 : Int32) (y32 : Int32) (n45 : Int32) (x46 : Int32) (hpre_0 : 0 ≤ (σ.1 1).toInt) (hpre_1 : (σ.1 1).toInt ≤ 40) (hpre_2 : 0 ≤ (σ.1 3).toInt) (hpre_3 : (σ.1 3).toInt ≤ k0.toInt) (hpre_4 : k0.toInt < (σ.1 1).toInt) (hpre_5 : TKok (σ.2.1 4) (σ.2.2.1 6) (σ.2.1 7) (σ.1 3).toInt) (hpre_6 : k0.toInt < (σ.1 1).toInt) (hpre_7 : 48 ≤ ((σ.2.1 2) k0.toNatClampNeg).toInt) (hpre_8 : ((σ.2.1 2) k0.toNatClampNeg).toInt ≤ 57) (hi4_0 : k0.toInt ≤ y1.toInt) (hi4_1 : y1.toInt ≤ (σ.1 1).toInt) (ex5 : x5 = y1 - k0) (tx5 : x5.toInt = y1.toInt - k0.toInt) (ex17 : x17 = y1 + (1 : Int32)) (tx17 : x17.toInt = y1.toInt + 1) (hr18_0 : x17.toInt < (σ.1 1).toInt) (hr18_1 : 48 ≤ ((σ.2.1 2) x17.toNatClampNeg).toInt) (hr18_2 : ((σ.2.1 2) x17.toNatClampNeg).toInt ≤ 57) (ex29 : x29 = y1 + (1 : Int32)) (tx29 : x29.toInt = y1.toInt + 1) (hi66_0 : k0.toInt < y30.toInt) (hi66_1 : y30.toInt ≤ (σ.1 1).toInt) (hi66_2 : 0 ≤ y32.toInt) (hi66_3 : y32.toInt ≤ y30.toInt) (c35 : x5.toInt ≤ 6) (c39 : y32.toInt ≤ 3) (c40 : 0 < y32.toInt) (hr44 : n45.toInt = (σ.1 3).toInt + 1) (ex46 : x46 = n45 - (1 : Int32)) (tx46 : x46.toInt = n45.toInt - 1) : vp_in x46 42 := by
  have q1 : (1 : Int32).toInt = 1 := by decide +kernel
  exact vp_in_iff.mpr ⟨by omega, by omega⟩
-- post @151
theorem v_number_28 (σ : RS) (k0 : Int32) (y1 : Int32) (x5 : Int32) (r6 : Int32) (x17 : Int32) (x29 : Int32) (y30 : Int32) (y31 : Int64) (y32 : Int32) (n45 : Int32) (x46 : Int32) (hpre_0 : 0 ≤ (σ.1 1).toInt) (hpre_1 : (σ.1 1).toInt ≤ 40) (hpre_2 : 0 ≤ (σ.1 3).toInt) (hpre_3 : (σ.1 3).toInt ≤ k0.toInt) (hpre_4 : k0.toInt < (σ.1 1).toInt) (hpre_5 : TKok (σ.2.1 4) (σ.2.2.1 6) (σ.2.1 7) (σ.1 3).toInt) (hpre_6 : k0.toInt < (σ.1 1).toInt) (hpre_7 : 48 ≤ ((σ.2.1 2) k0.toNatClampNeg).toInt) (hpre_8 : ((σ.2.1 2) k0.toNatClampNeg).toInt ≤ 57) (hi4_0 : k0.toInt ≤ y1.toInt) (hi4_1 : y1.toInt ≤ (σ.1 1).toInt) (hr3 : ¬ ((y1.toInt < (σ.1 1).toInt ∧ 48 ≤ ((σ.2.1 2) y1.toNatClampNeg).toInt ∧ ((σ.2.1 2) y1.toNatClampNeg).toInt ≤ 57))) (ex5 : x5 = y1 - k0) (tx5 : x5.toInt = y1.toInt - k0.toInt) (hr6 : (y1.toInt < (σ.1 1).toInt ∧ r6.toInt = ((σ.2.1 2) y1.toNatClampNeg).toInt) ∨ ((σ.1 1).toInt ≤ y1.toInt ∧ r6.toInt = 0)) (c7 : r6.toInt = 46) (ex17 : x17 = y1 + (1 : Int32)) (tx17 : x17.toInt = y1.toInt + 1) (hr18_0 : x17.toInt < (σ.1 1).toInt) (hr18_1 : 48 ≤ ((σ.2.1 2) x17.toNatClampNeg).toInt) (hr18_2 : ((σ.2.1 2) x17.toNatClampNeg).toInt ≤ 57) (ex29 : x29 = y1 + (1 : Int32)) (tx29 : x29.toInt = y1.toInt + 1) (hi66_0 : k0.toInt < y30.toInt) (hi66_1 : y30.toInt ≤ (σ.1 1).toInt) (hi66_2 : 0 ≤ y32.toInt) (hi66_3 : y32.toInt ≤ y30.toInt) (hr33 : ¬ ((y30.toInt < (σ.1 1).toInt ∧ 48 ≤ ((σ.2.1 2) y30.toNatClampNeg).toInt ∧ ((σ.2.1 2) y30.toNatClampNeg).toInt ≤ 57))) (c35 : x5.toInt ≤ 6) (c39 : y32.toInt ≤ 3) (c40 : 0 < y32.toInt) (hr44 : n45.toInt = (σ.1 3).toInt + 1) (ex46 : x46 = n45 - (1 : Int32)) (tx46 : x46.toInt = n45.toInt - 1) : k0.toInt < y30.toInt ∧ y30.toInt ≤ (σ.1 1).toInt ∧ 0 ≤ n45.toInt ∧ n45.toInt ≤ y30.toInt ∧ TKok (upd (σ.2.1 4) (σ.1 3).toNatClampNeg (2 : Int32)) (vp_updL (σ.2.2.1 6) (σ.1 3).toNatClampNeg y31) (upd (upd (σ.2.1 7) (σ.1 3).toNatClampNeg (0 : Int32)) x46.toNatClampNeg y32) n45.toInt := by
  have q0 : (0 : Int32).toInt = 0 := by decide +kernel
  have q1 : (1 : Int32).toInt = 1 := by decide +kernel
  have q2 : (2 : Int32).toInt = 2 := by decide +kernel
  have hc : y1.toInt ≠ k0.toInt := by
    intro h; have h := (Int32.toInt_inj.mp h : y1 = k0); subst h; omega
  have hz := hpre_5
  and_intros <;> first | exact hz | exact tk_add hz (by omega) (clampZ (by omega)) (by omega) (by omega) (by omega) | exact tk_add2 hz (by omega) (clampZ (by omega)) ((clampZ (by omega)).trans (by omega)) (by omega) (by omega) (by omega) | omega
-- post @120
theorem v_number_29 (σ : RS) (k0 : Int32) (y1 : Int32) (x5 : Int32) (r6 : Int32) (x17 : Int32) (x29 : Int32) (y30 : Int32) (y32 : Int32) (hpre_0 : 0 ≤ (σ.1 1).toInt) (hpre_1 : (σ.1 1).toInt ≤ 40) (hpre_2 : 0 ≤ (σ.1 3).toInt) (hpre_3 : (σ.1 3).toInt ≤ k0.toInt) (hpre_4 : k0.toInt < (σ.1 1).toInt) (hpre_5 : TKok (σ.2.1 4) (σ.2.2.1 6) (σ.2.1 7) (σ.1 3).toInt) (hpre_6 : k0.toInt < (σ.1 1).toInt) (hpre_7 : 48 ≤ ((σ.2.1 2) k0.toNatClampNeg).toInt) (hpre_8 : ((σ.2.1 2) k0.toNatClampNeg).toInt ≤ 57) (hi4_0 : k0.toInt ≤ y1.toInt) (hi4_1 : y1.toInt ≤ (σ.1 1).toInt) (hr3 : ¬ ((y1.toInt < (σ.1 1).toInt ∧ 48 ≤ ((σ.2.1 2) y1.toNatClampNeg).toInt ∧ ((σ.2.1 2) y1.toNatClampNeg).toInt ≤ 57))) (ex5 : x5 = y1 - k0) (tx5 : x5.toInt = y1.toInt - k0.toInt) (hr6 : (y1.toInt < (σ.1 1).toInt ∧ r6.toInt = ((σ.2.1 2) y1.toNatClampNeg).toInt) ∨ ((σ.1 1).toInt ≤ y1.toInt ∧ r6.toInt = 0)) (c7 : r6.toInt = 46) (ex17 : x17 = y1 + (1 : Int32)) (tx17 : x17.toInt = y1.toInt + 1) (hr18_0 : x17.toInt < (σ.1 1).toInt) (hr18_1 : 48 ≤ ((σ.2.1 2) x17.toNatClampNeg).toInt) (hr18_2 : ((σ.2.1 2) x17.toNatClampNeg).toInt ≤ 57) (ex29 : x29 = y1 + (1 : Int32)) (tx29 : x29.toInt = y1.toInt + 1) (hi66_0 : k0.toInt < y30.toInt) (hi66_1 : y30.toInt ≤ (σ.1 1).toInt) (hi66_2 : 0 ≤ y32.toInt) (hi66_3 : y32.toInt ≤ y30.toInt) (hr33 : ¬ ((y30.toInt < (σ.1 1).toInt ∧ 48 ≤ ((σ.2.1 2) y30.toNatClampNeg).toInt ∧ ((σ.2.1 2) y30.toNatClampNeg).toInt ≤ 57))) (c35 : x5.toInt ≤ 6) (c39 : 3 < y32.toInt) : k0.toInt < y30.toInt ∧ y30.toInt ≤ (σ.1 1).toInt ∧ 0 ≤ (σ.1 3).toInt ∧ (σ.1 3).toInt ≤ y30.toInt ∧ TKok (σ.2.1 4) (σ.2.2.1 6) (σ.2.1 7) (σ.1 3).toInt := by
  have q1 : (1 : Int32).toInt = 1 := by decide +kernel
  have hc : y1.toInt ≠ k0.toInt := by
    intro h; have h := (Int32.toInt_inj.mp h : y1 = k0); subst h; omega
  have hz := hpre_5
  and_intros <;> first | exact hz | exact tk_add hz (by omega) (clampZ (by omega)) (by omega) (by omega) (by omega) | exact tk_add2 hz (by omega) (clampZ (by omega)) ((clampZ (by omega)).trans (by omega)) (by omega) (by omega) (by omega) | omega
-- pre:at@81 @81
theorem v_number_30 (σ : RS) (k0 : Int32) (y1 : Int32) (x5 : Int32) (r6 : Int32) (x17 : Int32) (x29 : Int32) (y30 : Int32) (y32 : Int32) (hpre_0 : 0 ≤ (σ.1 1).toInt) (hpre_1 : (σ.1 1).toInt ≤ 40) (hpre_2 : 0 ≤ (σ.1 3).toInt) (hpre_3 : (σ.1 3).toInt ≤ k0.toInt) (hpre_4 : k0.toInt < (σ.1 1).toInt) (hpre_5 : TKok (σ.2.1 4) (σ.2.2.1 6) (σ.2.1 7) (σ.1 3).toInt) (hpre_6 : k0.toInt < (σ.1 1).toInt) (hpre_7 : 48 ≤ ((σ.2.1 2) k0.toNatClampNeg).toInt) (hpre_8 : ((σ.2.1 2) k0.toNatClampNeg).toInt ≤ 57) (hi4_0 : k0.toInt ≤ y1.toInt) (hi4_1 : y1.toInt ≤ (σ.1 1).toInt) (hr3 : ¬ ((y1.toInt < (σ.1 1).toInt ∧ 48 ≤ ((σ.2.1 2) y1.toNatClampNeg).toInt ∧ ((σ.2.1 2) y1.toNatClampNeg).toInt ≤ 57))) (ex5 : x5 = y1 - k0) (tx5 : x5.toInt = y1.toInt - k0.toInt) (hr6 : (y1.toInt < (σ.1 1).toInt ∧ r6.toInt = ((σ.2.1 2) y1.toNatClampNeg).toInt) ∨ ((σ.1 1).toInt ≤ y1.toInt ∧ r6.toInt = 0)) (c7 : r6.toInt = 46) (ex17 : x17 = y1 + (1 : Int32)) (tx17 : x17.toInt = y1.toInt + 1) (hr18_0 : x17.toInt < (σ.1 1).toInt) (hr18_1 : 48 ≤ ((σ.2.1 2) x17.toNatClampNeg).toInt) (hr18_2 : ((σ.2.1 2) x17.toNatClampNeg).toInt ≤ 57) (ex29 : x29 = y1 + (1 : Int32)) (tx29 : x29.toInt = y1.toInt + 1) (hi66_0 : k0.toInt < y30.toInt) (hi66_1 : y30.toInt ≤ (σ.1 1).toInt) (hi66_2 : 0 ≤ y32.toInt) (hi66_3 : y32.toInt ≤ y30.toInt) (hr33_0 : y30.toInt < (σ.1 1).toInt) (hr33_1 : 48 ≤ ((σ.2.1 2) y30.toNatClampNeg).toInt) (hr33_2 : ((σ.2.1 2) y30.toNatClampNeg).toInt ≤ 57) : 0 ≤ (σ.1 1).toInt ∧ (σ.1 1).toInt ≤ 40 ∧ 0 ≤ y30.toInt := by
  have q1 : (1 : Int32).toInt = 1 := by decide +kernel
  ((try and_intros) <;> first | assumption | omega | (subst_vars; omega) | trivial)
-- nw@91 @91
theorem v_number_31 (σ : RS) (k0 : Int32) (y1 : Int32) (x5 : Int32) (r6 : Int32) (x17 : Int32) (x29 : Int32) (y30 : Int32) (y31 : Int64) (y32 : Int32) (x50 : Int64) (r51 : Int32) (x52 : Int64) (x53 : Int64) (x54 : Int64) (x55 : Int32) (hpre_0 : 0 ≤ (σ.1 1).toInt) (hpre_1 : (σ.1 1).toInt ≤ 40) (hpre_2 : 0 ≤ (σ.1 3).toInt) (hpre_3 : (σ.1 3).toInt ≤ k0.toInt) (hpre_4 : k0.toInt < (σ.1 1).toInt) (hpre_5 : TKok (σ.2.1 4) (σ.2.2.1 6) (σ.2.1 7) (σ.1 3).toInt) (hpre_6 : k0.toInt < (σ.1 1).toInt) (hpre_7 : 48 ≤ ((σ.2.1 2) k0.toNatClampNeg).toInt) (hpre_8 : ((σ.2.1 2) k0.toNatClampNeg).toInt ≤ 57) (hi4_0 : k0.toInt ≤ y1.toInt) (hi4_1 : y1.toInt ≤ (σ.1 1).toInt) (hr3 : ¬ ((y1.toInt < (σ.1 1).toInt ∧ 48 ≤ ((σ.2.1 2) y1.toNatClampNeg).toInt ∧ ((σ.2.1 2) y1.toNatClampNeg).toInt ≤ 57))) (ex5 : x5 = y1 - k0) (tx5 : x5.toInt = y1.toInt - k0.toInt) (hr6 : (y1.toInt < (σ.1 1).toInt ∧ r6.toInt = ((σ.2.1 2) y1.toNatClampNeg).toInt) ∨ ((σ.1 1).toInt ≤ y1.toInt ∧ r6.toInt = 0)) (c7 : r6.toInt = 46) (ex17 : x17 = y1 + (1 : Int32)) (tx17 : x17.toInt = y1.toInt + 1) (hr18_0 : x17.toInt < (σ.1 1).toInt) (hr18_1 : 48 ≤ ((σ.2.1 2) x17.toNatClampNeg).toInt) (hr18_2 : ((σ.2.1 2) x17.toNatClampNeg).toInt ≤ 57) (ex29 : x29 = y1 + (1 : Int32)) (tx29 : x29.toInt = y1.toInt + 1) (hi66_0 : k0.toInt < y30.toInt) (hi66_1 : y30.toInt ≤ (σ.1 1).toInt) (hi66_2 : 0 ≤ y32.toInt) (hi66_3 : y32.toInt ≤ y30.toInt) (hr33_0 : y30.toInt < (σ.1 1).toInt) (hr33_1 : 48 ≤ ((σ.2.1 2) y30.toNatClampNeg).toInt) (hr33_2 : ((σ.2.1 2) y30.toNatClampNeg).toInt ≤ 57) (ex50 : x50 = y31 * (10 : Int64)) (hr51 : (y30.toInt < (σ.1 1).toInt ∧ r51.toInt = ((σ.2.1 2) y30.toNatClampNeg).toInt) ∨ ((σ.1 1).toInt ≤ y30.toInt ∧ r51.toInt = 0)) (ex52 : x52 = Int32.toInt64 r51) (tx52 : x52.toInt = r51.toInt) (ex53 : x53 = x50 + x52) (ex54 : x54 = x53 - (48 : Int64)) (ex55 : x55 = y30 + (1 : Int32)) : x55.toInt = y30.toInt + 1 := by
  have q1 : (1 : Int32).toInt = 1 := by decide +kernel
  have ql10 : (10 : Int64).toInt = 10 := by decide +kernel
  have ql48 : (48 : Int64).toInt = 48 := by decide +kernel
  have z9 : (1 : Int32).toInt = 1 := by decide +kernel
  rw [ex55, z_add (by omega) (by omega)]; first | done | omega
-- nw@94 @94
theorem v_number_32 (σ : RS) (k0 : Int32) (y1 : Int32) (x5 : Int32) (x17 : Int32) (x29 : Int32) (y30 : Int32) (y31 : Int64) (y32 : Int32) (x50 : Int64) (r51 : Int32) (x52 : Int64) (x53 : Int64) (x54 : Int64) (x55 : Int32) (x56 : Int32) (hpre_0 : 0 ≤ (σ.1 1).toInt) (hpre_1 : (σ.1 1).toInt ≤ 40) (hpre_2 : 0 ≤ (σ.1 3).toInt) (hpre_3 : (σ.1 3).toInt ≤ k0.toInt) (hpre_4 : k0.toInt < (σ.1 1).toInt) (hpre_5 : TKok (σ.2.1 4) (σ.2.2.1 6) (σ.2.1 7) (σ.1 3).toInt) (hpre_6 : k0.toInt < (σ.1 1).toInt) (hpre_7 : 48 ≤ ((σ.2.1 2) k0.toNatClampNeg).toInt) (hpre_8 : ((σ.2.1 2) k0.toNatClampNeg).toInt ≤ 57) (hi4_0 : k0.toInt ≤ y1.toInt) (hi4_1 : y1.toInt ≤ (σ.1 1).toInt) (ex5 : x5 = y1 - k0) (tx5 : x5.toInt = y1.toInt - k0.toInt) (ex17 : x17 = y1 + (1 : Int32)) (tx17 : x17.toInt = y1.toInt + 1) (hr18_0 : x17.toInt < (σ.1 1).toInt) (hr18_1 : 48 ≤ ((σ.2.1 2) x17.toNatClampNeg).toInt) (hr18_2 : ((σ.2.1 2) x17.toNatClampNeg).toInt ≤ 57) (ex29 : x29 = y1 + (1 : Int32)) (tx29 : x29.toInt = y1.toInt + 1) (hi66_0 : k0.toInt < y30.toInt) (hi66_1 : y30.toInt ≤ (σ.1 1).toInt) (hi66_2 : 0 ≤ y32.toInt) (hi66_3 : y32.toInt ≤ y30.toInt) (hr33_0 : y30.toInt < (σ.1 1).toInt) (hr33_1 : 48 ≤ ((σ.2.1 2) y30.toNatClampNeg).toInt) (hr33_2 : ((σ.2.1 2) y30.toNatClampNeg).toInt ≤ 57) (ex50 : x50 = y31 * (10 : Int64)) (hr51 : (y30.toInt < (σ.1 1).toInt ∧ r51.toInt = ((σ.2.1 2) y30.toNatClampNeg).toInt) ∨ ((σ.1 1).toInt ≤ y30.toInt ∧ r51.toInt = 0)) (ex52 : x52 = Int32.toInt64 r51) (tx52 : x52.toInt = r51.toInt) (ex53 : x53 = x50 + x52) (ex54 : x54 = x53 - (48 : Int64)) (ex55 : x55 = y30 + (1 : Int32)) (tx55 : x55.toInt = y30.toInt + 1) (ex56 : x56 = y32 + (1 : Int32)) : x56.toInt = y32.toInt + 1 := by
  have q1 : (1 : Int32).toInt = 1 := by decide +kernel
  have ql10 : (10 : Int64).toInt = 10 := by decide +kernel
  have ql48 : (48 : Int64).toInt = 48 := by decide +kernel
  have z9 : (1 : Int32).toInt = 1 := by decide +kernel
  rw [ex56, z_add (by omega) (by omega)]; first | done | omega
-- inv@66 @66
theorem v_number_33 (σ : RS) (k0 : Int32) (y1 : Int32) (x5 : Int32) (r6 : Int32) (x17 : Int32) (x29 : Int32) (y30 : Int32) (y31 : Int64) (y32 : Int32) (x50 : Int64) (r51 : Int32) (x52 : Int64) (x53 : Int64) (x54 : Int64) (x55 : Int32) (x56 : Int32) (hpre_0 : 0 ≤ (σ.1 1).toInt) (hpre_1 : (σ.1 1).toInt ≤ 40) (hpre_2 : 0 ≤ (σ.1 3).toInt) (hpre_3 : (σ.1 3).toInt ≤ k0.toInt) (hpre_4 : k0.toInt < (σ.1 1).toInt) (hpre_5 : TKok (σ.2.1 4) (σ.2.2.1 6) (σ.2.1 7) (σ.1 3).toInt) (hpre_6 : k0.toInt < (σ.1 1).toInt) (hpre_7 : 48 ≤ ((σ.2.1 2) k0.toNatClampNeg).toInt) (hpre_8 : ((σ.2.1 2) k0.toNatClampNeg).toInt ≤ 57) (hi4_0 : k0.toInt ≤ y1.toInt) (hi4_1 : y1.toInt ≤ (σ.1 1).toInt) (hr3 : ¬ ((y1.toInt < (σ.1 1).toInt ∧ 48 ≤ ((σ.2.1 2) y1.toNatClampNeg).toInt ∧ ((σ.2.1 2) y1.toNatClampNeg).toInt ≤ 57))) (ex5 : x5 = y1 - k0) (tx5 : x5.toInt = y1.toInt - k0.toInt) (hr6 : (y1.toInt < (σ.1 1).toInt ∧ r6.toInt = ((σ.2.1 2) y1.toNatClampNeg).toInt) ∨ ((σ.1 1).toInt ≤ y1.toInt ∧ r6.toInt = 0)) (c7 : r6.toInt = 46) (ex17 : x17 = y1 + (1 : Int32)) (tx17 : x17.toInt = y1.toInt + 1) (hr18_0 : x17.toInt < (σ.1 1).toInt) (hr18_1 : 48 ≤ ((σ.2.1 2) x17.toNatClampNeg).toInt) (hr18_2 : ((σ.2.1 2) x17.toNatClampNeg).toInt ≤ 57) (ex29 : x29 = y1 + (1 : Int32)) (tx29 : x29.toInt = y1.toInt + 1) (hi66_0 : k0.toInt < y30.toInt) (hi66_1 : y30.toInt ≤ (σ.1 1).toInt) (hi66_2 : 0 ≤ y32.toInt) (hi66_3 : y32.toInt ≤ y30.toInt) (hr33_0 : y30.toInt < (σ.1 1).toInt) (hr33_1 : 48 ≤ ((σ.2.1 2) y30.toNatClampNeg).toInt) (hr33_2 : ((σ.2.1 2) y30.toNatClampNeg).toInt ≤ 57) (ex50 : x50 = y31 * (10 : Int64)) (hr51 : (y30.toInt < (σ.1 1).toInt ∧ r51.toInt = ((σ.2.1 2) y30.toNatClampNeg).toInt) ∨ ((σ.1 1).toInt ≤ y30.toInt ∧ r51.toInt = 0)) (ex52 : x52 = Int32.toInt64 r51) (tx52 : x52.toInt = r51.toInt) (ex53 : x53 = x50 + x52) (ex54 : x54 = x53 - (48 : Int64)) (ex55 : x55 = y30 + (1 : Int32)) (tx55 : x55.toInt = y30.toInt + 1) (ex56 : x56 = y32 + (1 : Int32)) (tx56 : x56.toInt = y32.toInt + 1) : k0.toInt < x55.toInt ∧ x55.toInt ≤ (σ.1 1).toInt ∧ 0 ≤ x56.toInt ∧ x56.toInt ≤ x55.toInt := by
  have q1 : (1 : Int32).toInt = 1 := by decide +kernel
  have ql10 : (10 : Int64).toInt = 10 := by decide +kernel
  have ql48 : (48 : Int64).toInt = 48 := by decide +kernel
  ((try and_intros) <;> first | assumption | omega | (subst_vars; omega) | trivial)
-- meas@66 @66
theorem v_number_34 (σ : RS) (k0 : Int32) (y1 : Int32) (x5 : Int32) (r6 : Int32) (x17 : Int32) (x29 : Int32) (y30 : Int32) (y31 : Int64) (y32 : Int32) (x50 : Int64) (r51 : Int32) (x52 : Int64) (x53 : Int64) (x54 : Int64) (x55 : Int32) (x56 : Int32) (hpre_0 : 0 ≤ (σ.1 1).toInt) (hpre_1 : (σ.1 1).toInt ≤ 40) (hpre_2 : 0 ≤ (σ.1 3).toInt) (hpre_3 : (σ.1 3).toInt ≤ k0.toInt) (hpre_4 : k0.toInt < (σ.1 1).toInt) (hpre_5 : TKok (σ.2.1 4) (σ.2.2.1 6) (σ.2.1 7) (σ.1 3).toInt) (hpre_6 : k0.toInt < (σ.1 1).toInt) (hpre_7 : 48 ≤ ((σ.2.1 2) k0.toNatClampNeg).toInt) (hpre_8 : ((σ.2.1 2) k0.toNatClampNeg).toInt ≤ 57) (hi4_0 : k0.toInt ≤ y1.toInt) (hi4_1 : y1.toInt ≤ (σ.1 1).toInt) (hr3 : ¬ ((y1.toInt < (σ.1 1).toInt ∧ 48 ≤ ((σ.2.1 2) y1.toNatClampNeg).toInt ∧ ((σ.2.1 2) y1.toNatClampNeg).toInt ≤ 57))) (ex5 : x5 = y1 - k0) (tx5 : x5.toInt = y1.toInt - k0.toInt) (hr6 : (y1.toInt < (σ.1 1).toInt ∧ r6.toInt = ((σ.2.1 2) y1.toNatClampNeg).toInt) ∨ ((σ.1 1).toInt ≤ y1.toInt ∧ r6.toInt = 0)) (c7 : r6.toInt = 46) (ex17 : x17 = y1 + (1 : Int32)) (tx17 : x17.toInt = y1.toInt + 1) (hr18_0 : x17.toInt < (σ.1 1).toInt) (hr18_1 : 48 ≤ ((σ.2.1 2) x17.toNatClampNeg).toInt) (hr18_2 : ((σ.2.1 2) x17.toNatClampNeg).toInt ≤ 57) (ex29 : x29 = y1 + (1 : Int32)) (tx29 : x29.toInt = y1.toInt + 1) (hi66_0 : k0.toInt < y30.toInt) (hi66_1 : y30.toInt ≤ (σ.1 1).toInt) (hi66_2 : 0 ≤ y32.toInt) (hi66_3 : y32.toInt ≤ y30.toInt) (hr33_0 : y30.toInt < (σ.1 1).toInt) (hr33_1 : 48 ≤ ((σ.2.1 2) y30.toNatClampNeg).toInt) (hr33_2 : ((σ.2.1 2) y30.toNatClampNeg).toInt ≤ 57) (ex50 : x50 = y31 * (10 : Int64)) (hr51 : (y30.toInt < (σ.1 1).toInt ∧ r51.toInt = ((σ.2.1 2) y30.toNatClampNeg).toInt) ∨ ((σ.1 1).toInt ≤ y30.toInt ∧ r51.toInt = 0)) (ex52 : x52 = Int32.toInt64 r51) (tx52 : x52.toInt = r51.toInt) (ex53 : x53 = x50 + x52) (ex54 : x54 = x53 - (48 : Int64)) (ex55 : x55 = y30 + (1 : Int32)) (tx55 : x55.toInt = y30.toInt + 1) (ex56 : x56 = y32 + (1 : Int32)) (tx56 : x56.toInt = y32.toInt + 1) : ((σ.1 1).toInt - x55.toInt).toNat < ((σ.1 1).toInt - y30.toInt).toNat := by
  have q1 : (1 : Int32).toInt = 1 := by decide +kernel
  have ql10 : (10 : Int64).toInt = 10 := by decide +kernel
  have ql48 : (48 : Int64).toInt = 48 := by decide +kernel
  ((try and_intros) <;> first | assumption | omega | (subst_vars; omega) | trivial)
-- pre:at@19 @19
theorem v_number_35 (σ : RS) (k0 : Int32) (y1 : Int32) (hpre_0 : 0 ≤ (σ.1 1).toInt) (hpre_1 : (σ.1 1).toInt ≤ 40) (hpre_2 : 0 ≤ (σ.1 3).toInt) (hpre_3 : (σ.1 3).toInt ≤ k0.toInt) (hpre_4 : k0.toInt < (σ.1 1).toInt) (hpre_5 : TKok (σ.2.1 4) (σ.2.2.1 6) (σ.2.1 7) (σ.1 3).toInt) (hpre_6 : k0.toInt < (σ.1 1).toInt) (hpre_7 : 48 ≤ ((σ.2.1 2) k0.toNatClampNeg).toInt) (hpre_8 : ((σ.2.1 2) k0.toNatClampNeg).toInt ≤ 57) (hi4_0 : k0.toInt ≤ y1.toInt) (hi4_1 : y1.toInt ≤ (σ.1 1).toInt) (hr3_0 : y1.toInt < (σ.1 1).toInt) (hr3_1 : 48 ≤ ((σ.2.1 2) y1.toNatClampNeg).toInt) (hr3_2 : ((σ.2.1 2) y1.toNatClampNeg).toInt ≤ 57) : 0 ≤ (σ.1 1).toInt ∧ (σ.1 1).toInt ≤ 40 ∧ 0 ≤ y1.toInt := by
  ((try and_intros) <;> first | assumption | omega | (subst_vars; omega) | trivial)
-- nw@29 @29
theorem v_number_36 (σ : RS) (k0 : Int32) (y1 : Int32) (y2 : Int64) (x57 : Int64) (r58 : Int32) (x59 : Int64) (x60 : Int64) (x61 : Int64) (x62 : Int32) (hpre_0 : 0 ≤ (σ.1 1).toInt) (hpre_1 : (σ.1 1).toInt ≤ 40) (hpre_2 : 0 ≤ (σ.1 3).toInt) (hpre_3 : (σ.1 3).toInt ≤ k0.toInt) (hpre_4 : k0.toInt < (σ.1 1).toInt) (hpre_5 : TKok (σ.2.1 4) (σ.2.2.1 6) (σ.2.1 7) (σ.1 3).toInt) (hpre_6 : k0.toInt < (σ.1 1).toInt) (hpre_7 : 48 ≤ ((σ.2.1 2) k0.toNatClampNeg).toInt) (hpre_8 : ((σ.2.1 2) k0.toNatClampNeg).toInt ≤ 57) (hi4_0 : k0.toInt ≤ y1.toInt) (hi4_1 : y1.toInt ≤ (σ.1 1).toInt) (hr3_0 : y1.toInt < (σ.1 1).toInt) (hr3_1 : 48 ≤ ((σ.2.1 2) y1.toNatClampNeg).toInt) (hr3_2 : ((σ.2.1 2) y1.toNatClampNeg).toInt ≤ 57) (ex57 : x57 = y2 * (10 : Int64)) (hr58 : (y1.toInt < (σ.1 1).toInt ∧ r58.toInt = ((σ.2.1 2) y1.toNatClampNeg).toInt) ∨ ((σ.1 1).toInt ≤ y1.toInt ∧ r58.toInt = 0)) (ex59 : x59 = Int32.toInt64 r58) (tx59 : x59.toInt = r58.toInt) (ex60 : x60 = x57 + x59) (ex61 : x61 = x60 - (48 : Int64)) (ex62 : x62 = y1 + (1 : Int32)) : x62.toInt = y1.toInt + 1 := by
  have q1 : (1 : Int32).toInt = 1 := by decide +kernel
  have ql10 : (10 : Int64).toInt = 10 := by decide +kernel
  have ql48 : (48 : Int64).toInt = 48 := by decide +kernel
  have z9 : (1 : Int32).toInt = 1 := by decide +kernel
  rw [ex62, z_add (by omega) (by omega)]; first | done | omega
-- inv@4 @4
theorem v_number_37 (σ : RS) (k0 : Int32) (y1 : Int32) (y2 : Int64) (x57 : Int64) (r58 : Int32) (x59 : Int64) (x60 : Int64) (x61 : Int64) (x62 : Int32) (hpre_0 : 0 ≤ (σ.1 1).toInt) (hpre_1 : (σ.1 1).toInt ≤ 40) (hpre_2 : 0 ≤ (σ.1 3).toInt) (hpre_3 : (σ.1 3).toInt ≤ k0.toInt) (hpre_4 : k0.toInt < (σ.1 1).toInt) (hpre_5 : TKok (σ.2.1 4) (σ.2.2.1 6) (σ.2.1 7) (σ.1 3).toInt) (hpre_6 : k0.toInt < (σ.1 1).toInt) (hpre_7 : 48 ≤ ((σ.2.1 2) k0.toNatClampNeg).toInt) (hpre_8 : ((σ.2.1 2) k0.toNatClampNeg).toInt ≤ 57) (hi4_0 : k0.toInt ≤ y1.toInt) (hi4_1 : y1.toInt ≤ (σ.1 1).toInt) (hr3_0 : y1.toInt < (σ.1 1).toInt) (hr3_1 : 48 ≤ ((σ.2.1 2) y1.toNatClampNeg).toInt) (hr3_2 : ((σ.2.1 2) y1.toNatClampNeg).toInt ≤ 57) (ex57 : x57 = y2 * (10 : Int64)) (hr58 : (y1.toInt < (σ.1 1).toInt ∧ r58.toInt = ((σ.2.1 2) y1.toNatClampNeg).toInt) ∨ ((σ.1 1).toInt ≤ y1.toInt ∧ r58.toInt = 0)) (ex59 : x59 = Int32.toInt64 r58) (tx59 : x59.toInt = r58.toInt) (ex60 : x60 = x57 + x59) (ex61 : x61 = x60 - (48 : Int64)) (ex62 : x62 = y1 + (1 : Int32)) (tx62 : x62.toInt = y1.toInt + 1) : k0.toInt ≤ x62.toInt ∧ x62.toInt ≤ (σ.1 1).toInt := by
  have q1 : (1 : Int32).toInt = 1 := by decide +kernel
  have ql10 : (10 : Int64).toInt = 10 := by decide +kernel
  have ql48 : (48 : Int64).toInt = 48 := by decide +kernel
  ((try and_intros) <;> first | assumption | omega | (subst_vars; omega) | trivial)
-- meas@4 @4
theorem v_number_38 (σ : RS) (k0 : Int32) (y1 : Int32) (y2 : Int64) (x57 : Int64) (r58 : Int32) (x59 : Int64) (x60 : Int64) (x61 : Int64) (x62 : Int32) (hpre_0 : 0 ≤ (σ.1 1).toInt) (hpre_1 : (σ.1 1).toInt ≤ 40) (hpre_2 : 0 ≤ (σ.1 3).toInt) (hpre_3 : (σ.1 3).toInt ≤ k0.toInt) (hpre_4 : k0.toInt < (σ.1 1).toInt) (hpre_5 : TKok (σ.2.1 4) (σ.2.2.1 6) (σ.2.1 7) (σ.1 3).toInt) (hpre_6 : k0.toInt < (σ.1 1).toInt) (hpre_7 : 48 ≤ ((σ.2.1 2) k0.toNatClampNeg).toInt) (hpre_8 : ((σ.2.1 2) k0.toNatClampNeg).toInt ≤ 57) (hi4_0 : k0.toInt ≤ y1.toInt) (hi4_1 : y1.toInt ≤ (σ.1 1).toInt) (hr3_0 : y1.toInt < (σ.1 1).toInt) (hr3_1 : 48 ≤ ((σ.2.1 2) y1.toNatClampNeg).toInt) (hr3_2 : ((σ.2.1 2) y1.toNatClampNeg).toInt ≤ 57) (ex57 : x57 = y2 * (10 : Int64)) (hr58 : (y1.toInt < (σ.1 1).toInt ∧ r58.toInt = ((σ.2.1 2) y1.toNatClampNeg).toInt) ∨ ((σ.1 1).toInt ≤ y1.toInt ∧ r58.toInt = 0)) (ex59 : x59 = Int32.toInt64 r58) (tx59 : x59.toInt = r58.toInt) (ex60 : x60 = x57 + x59) (ex61 : x61 = x60 - (48 : Int64)) (ex62 : x62 = y1 + (1 : Int32)) (tx62 : x62.toInt = y1.toInt + 1) : ((σ.1 1).toInt - x62.toInt).toNat < ((σ.1 1).toInt - y1.toInt).toNat := by
  have q1 : (1 : Int32).toInt = 1 := by decide +kernel
  have ql10 : (10 : Int64).toInt = 10 := by decide +kernel
  have ql48 : (48 : Int64).toInt = 48 := by decide +kernel
  ((try and_intros) <;> first | assumption | omega | (subst_vars; omega) | trivial)
set_option maxHeartbeats 4000000 in
set_option maxRecDepth 100000 in
theorem L_number_66_2 {p : Program} {e : Env} {s : State} {m : MethodId} {below : List Frame} {meth : Method} {c : Code} (l : Launch) (D : va_G) (cy : Nat → ClassId) (sz0 : Nat) (sa : Nat → Nat) (ad : Nat → Nat) (sz : Nat) (σ : RS) (k0 : Int32) (y1 : Int32) (y2 : Int64) (r3 : Int32) (x5 : Int32) (r6 : Int32) (x17 : Int32) (r18 : Int32) (x29 : Int32) (C : RC p s m #[.ref (ad 0), .int k0] meth c cX12_number 7 (some .int) D cy sz0 sa ad (AR cy ad sz)) (hpre_0 : 0 ≤ (σ.1 1).toInt) (hpre_1 : (σ.1 1).toInt ≤ 40) (hpre_2 : 0 ≤ (σ.1 3).toInt) (hpre_3 : (σ.1 3).toInt ≤ k0.toInt) (hpre_4 : k0.toInt < (σ.1 1).toInt) (hpre_5 : TKok (σ.2.1 4) (σ.2.2.1 6) (σ.2.1 7) (σ.1 3).toInt) (hpre_6 : k0.toInt < (σ.1 1).toInt) (hpre_7 : 48 ≤ ((σ.2.1 2) k0.toNatClampNeg).toInt) (hpre_8 : ((σ.2.1 2) k0.toNatClampNeg).toInt ≤ 57) (hi4_0 : k0.toInt ≤ y1.toInt) (hi4_1 : y1.toInt ≤ (σ.1 1).toInt) (hr3 : ¬ ((y1.toInt < (σ.1 1).toInt ∧ 48 ≤ ((σ.2.1 2) y1.toNatClampNeg).toInt ∧ ((σ.2.1 2) y1.toNatClampNeg).toInt ≤ 57))) (c4 : r3.toInt = 0) (ex5 : x5 = y1 - k0) (tx5 : x5.toInt = y1.toInt - k0.toInt) (hr6 : (y1.toInt < (σ.1 1).toInt ∧ r6.toInt = ((σ.2.1 2) y1.toNatClampNeg).toInt) ∨ ((σ.1 1).toInt ≤ y1.toInt ∧ r6.toInt = 0)) (c7 : r6.toInt = 46) (ex17 : x17 = y1 + (1 : Int32)) (tx17 : x17.toInt = y1.toInt + 1) (hr18_0 : x17.toInt < (σ.1 1).toInt) (hr18_1 : 48 ≤ ((σ.2.1 2) x17.toNatClampNeg).toInt) (hr18_2 : ((σ.2.1 2) x17.toNatClampNeg).toInt ≤ 57) (c19 : ¬ r18.toInt = 0) (ex29 : x29 = y1 + (1 : Int32)) (tx29 : x29.toInt = y1.toInt + 1) : ∀ (n : Nat) (y30 : Int32) (y31 : Int64) (y32 : Int32) (H : Heap) (locs : List Loc) (ls : Array Slot), ((σ.1 1).toInt - y30.toInt).toNat < n → (k0.toInt < y30.toInt ∧ y30.toInt ≤ (σ.1 1).toInt ∧ 0 ≤ y32.toInt ∧ y32.toInt ≤ y30.toInt) → RP D cy ad σ H → va_S (AR cy ad sz) s.heap H locs → lv_has ls 7 [(2, .int y30), (6, .int y32), (5, .int x5), (3, .long y31), (0, .ref (ad 0)), (1, .int k0)] → W p l e (headSpec (Cond.code yX12_number cX12_number 7 (some .int) :: GWm) ({ frames := 2, cells := 0, slots := 0, locals := 42 })).room s m #[.ref (ad 0), .int k0] below meth c H locs 0 0 (MQ below (va_Qi (fun (r : Int32) (u : Int32 × (Nat → Int32) × (Nat → Int32) × (Nat → Int64) × (Nat → Int32) × Int32 × Int32) => k0.toInt < r.toInt ∧ r.toInt ≤ (σ.1 1).toInt ∧ 0 ≤ u.1.toInt ∧ u.1.toInt ≤ r.toInt ∧ TKok u.2.1 u.2.2.2.1 u.2.2.2.2.1 u.1.toInt) (fun (u : Int32 × (Nat → Int32) × (Nat → Int32) × (Nat → Int64) × (Nat → Int32) × Int32 × Int32) (t : State) => RP D cy ad (rS (rS (rA (rJ (rA (rA (rS σ 3 u.1) 4 u.2.1) 5 u.2.2.1) 6 u.2.2.2.1) 7 u.2.2.2.2.1) 8 u.2.2.2.2.2.1) 9 u.2.2.2.2.2.2) t.heap) (AR cy ad sz)) #[.ref (ad 0), .int k0] s 0 0 (AR cy ad sz)) (F0 m 66 ls []) := by
  have hx := C.1
  have hb := C.2.1
  have hown := C.2.2.2.2.1
  have hw := C.2.2.2.2.2.1
  intro n
  induction n with
  | zero => intro y30 y31 y32 H locs ls hn; exact absurd hn (Nat.not_lt_zero _)
  | succ n ih66 =>
    intro y30 y31 y32 H locs ls hn66 hi66 hP hS hl
    obtain ⟨hi66_0, hi66_1, hi66_2, hi66_3⟩ := hi66
    refine lv_aload_n hx hb dX12_number_66 rfl (lv_at hl 4 rfl) ?_
    refine lv_iload_n hx hb dX12_number_67 rfl (lv_at hl 0 rfl) ?_
    refine r_callVi (As := [.int y30]) (rest := []) C hP hS hl.1 ⟨Nat.zero_le _, Nat.zero_le _⟩ (M_digit l D cy sz0 sa ad σ H.size y30 (v_number_19 σ k0 y1 x5 r6 x17 x29 y30 y32 hpre_0 hpre_1 hpre_2 hpre_3 hpre_4 hpre_5 hpre_6 hpre_7 hpre_8 hi4_0 hi4_1 hr3 ex5 tx5 hr6 c7 ex17 tx17 hr18_0 hr18_1 hr18_2 ex29 tx29 hi66_0 hi66_1 hi66_2 hi66_3)) (n := 1) ⟨wm_24, wm_6, by decide +kernel⟩ ⟨wm_25, wm_26, wm_10⟩ rfl rfl (lv_room (Nat.le_of_ble_eq_true rfl)) ⟨Nat.le_of_ble_eq_true rfl, Nat.le_of_ble_eq_true rfl⟩ dX12_number_68 (fun r33 u H locs hr33 hP hS => ?_)
    have hr33 : (r33.toInt = 0 ∧ ¬ ((y30.toInt < (σ.1 1).toInt ∧ 48 ≤ ((σ.2.1 2) y30.toNatClampNeg).toInt ∧ ((σ.2.1 2) y30.toNatClampNeg).toInt ≤ 57))) ∨ (r33.toInt = 1 ∧ ((y30.toInt < (σ.1 1).toInt ∧ 48 ≤ ((σ.2.1 2) y30.toNatClampNeg).toInt ∧ ((σ.2.1 2) y30.toNatClampNeg).toInt ≤ 57))) := hr33
    refine lv_if_eq (tgt := 100) hx hb dX12_number_71 (by decide) (fun c34 => ?_) (fun c34 => ?_)
    · have c34 : r33.toInt = 0 := by have h := z_eq c34; rw [show (0 : Int32).toInt = 0 from by decide +kernel] at h; exact h
      have hr33 : ¬ ((y30.toInt < (σ.1 1).toInt ∧ 48 ≤ ((σ.2.1 2) y30.toNatClampNeg).toInt ∧ ((σ.2.1 2) y30.toNatClampNeg).toInt ≤ 57)) := bq_f hr33 c34
      refine lv_iload hx hb dX12_number_100 (lv_at hl 2 rfl) ?_
      refine lv_bipush (v := 6) hx hb dX12_number_102 (by decide +kernel) ?_
      refine lv_icmp_gt (tgt := 113) hx hb dX12_number_104 (by decide) (fun c35 => ?_) (fun c35 => ?_)
      · have c35 : 6 < x5.toInt := by have h := z_lt c35; rw [show (6 : Int32).toInt = 6 from by decide +kernel] at h; exact h
        refine lv_aload_n hx hb dX12_number_113 rfl (lv_at hl 4 rfl) ?_
        refine lv_iconst (v := 1) hx hb dX12_number_114 (by decide +kernel) ?_
        refine lv_iload_n hx hb dX12_number_115 rfl (lv_at hl 5 rfl) ?_
        refine r_callVv (As := [.int 1, .int k0]) (rest := []) C hP hS hl.1 ⟨Nat.zero_le _, Nat.zero_le _⟩ (M_wrong l D cy sz0 sa ad σ H.size (1 : Int32) k0 trivial) (n := 2) ⟨wm_27, wm_12, by decide +kernel⟩ ⟨wm_28, wm_29, wm_10⟩ rfl rfl (lv_room (Nat.le_of_ble_eq_true rfl)) ⟨Nat.le_of_ble_eq_true rfl, Nat.le_of_ble_eq_true rfl⟩ dX12_number_116 (fun u H locs hr36 hP hS => ?_)
        obtain ⟨n37, n38⟩ := u
        have hr36 : ((σ.1 8).toInt = 0 → n37 = (1 : Int32)) ∧ (¬ (σ.1 8).toInt = 0 → n37 = (σ.1 8) ∧ n38 = (σ.1 9)) := hr36
        obtain ⟨hr36_0, hr36_1⟩ := hr36
        have hP : RP D cy ad (rS (rS σ 8 n37) 9 n38) H := hP
        refine lv_iload_n hx hb dX12_number_119 rfl (lv_at hl 0 rfl) ?_
        have hP : RP D cy ad (rS (rS (rA (rJ (rA (rA (rS σ 3 (σ.1 3)) 4 (σ.2.1 4)) 5 (σ.2.1 5)) 6 (σ.2.2.1 6)) 7 (σ.2.1 7)) 8 n37) 9 n38) H := hP
        exact r_reti C ⟨(σ.1 3), (σ.2.1 4), (σ.2.1 5), (σ.2.2.1 6), (σ.2.1 7), n37, n38⟩ (v_number_20 σ k0 y1 x5 r6 x17 x29 y30 y32 hpre_0 hpre_1 hpre_2 hpre_3 hpre_4 hpre_5 hpre_6 hpre_7 hpre_8 hi4_0 hi4_1 hr3 ex5 tx5 hr6 c7 ex17 tx17 hr18_0 hr18_1 hr18_2 ex29 tx29 hi66_0 hi66_1 hi66_2 hi66_3 hr33 c35) hP hS dX12_number_120
      · have c35 : x5.toInt ≤ 6 := by have h := z_nlt c35; rw [show (6 : Int32).toInt = 6 from by decide +kernel] at h; exact h
        refine lv_iload hx hb dX12_number_107 (lv_at hl 1 rfl) ?_
        refine lv_iconst (v := 3) hx hb dX12_number_109 (by decide +kernel) ?_
        refine lv_icmp_le (tgt := 121) hx hb dX12_number_110 (by decide) (fun c39 => ?_) (fun c39 => ?_)
        · have c39 : y32.toInt ≤ 3 := by have h := z_le c39; rw [show (3 : Int32).toInt = 3 from by decide +kernel] at h; exact h
          refine lv_aload_n hx hb dX12_number_121 rfl (lv_at hl 4 rfl) ?_
          refine lv_iload hx hb dX12_number_122 (lv_at hl 1 rfl) ?_
          refine lv_if_le (tgt := 131) hx hb dX12_number_124 (by decide) (fun c40 => ?_) (fun c40 => ?_)
          · have c40 : y32.toInt ≤ 0 := by have h := z_le c40; rw [show (0 : Int32).toInt = 0 from by decide +kernel] at h; exact h
            refine lv_iconst (v := 1) hx hb dX12_number_131 (by decide +kernel) ?_
            refine lv_iload_n hx hb dX12_number_132 rfl (lv_at hl 5 rfl) ?_
            refine lv_lload_n hx hb dX12_number_133 rfl (lv_at hl 3 rfl) ?_
            refine r_callVv (As := [.int 1, .int k0, .long y31]) (rest := []) C hP hS hl.1 ⟨Nat.zero_le _, Nat.zero_le _⟩ (M_add l D cy sz0 sa ad σ H.size (1 : Int32) k0 y31 (v_number_21 σ k0 y1 x5 x17 x29 y30 y32 hpre_0 hpre_1 hpre_2 hpre_3 hpre_4 hpre_5 hpre_6 hpre_7 hpre_8 hi4_0 hi4_1 ex5 tx5 ex17 tx17 hr18_0 hr18_1 hr18_2 ex29 tx29 hi66_0 hi66_1 hi66_2 hi66_3 c35 c39 c40)) (n := 3) ⟨wm_30, wm_15, by decide +kernel⟩ ⟨wm_31, wm_32, wm_10⟩ rfl rfl (lv_room (Nat.le_of_ble_eq_true rfl)) ⟨Nat.le_of_ble_eq_true rfl, Nat.le_of_ble_eq_true rfl⟩ dX12_number_134 (fun u H locs hr41 hP hS => ?_)
            obtain ⟨n42, rfl⟩ : ∃ z, z = u := ⟨_, rfl⟩
            have hr41 : n42.toInt = (σ.1 3).toInt + 1 := hr41
            have hP : RP D cy ad (rS (rA (rJ (rA (rA σ 4 (upd (σ.2.1 4) (σ.1 3).toNatClampNeg (1 : Int32))) 5 (upd (σ.2.1 5) (σ.1 3).toNatClampNeg k0)) 6 (vp_updL (σ.2.2.1 6) (σ.1 3).toNatClampNeg y31)) 7 (upd (σ.2.1 7) (σ.1 3).toNatClampNeg (0 : Int32))) 3 n42) H := hP
            refine lv_aload_n hx hb dX12_number_137 rfl (lv_at hl 4 rfl) ?_
            refine rg_7 C hP wm_20 dX12_number_138 ?_
            refine lv_aload_n hx hb dX12_number_141 rfl (lv_at hl 4 rfl) ?_
            refine rg_3 (v := n42) C hP rfl wm_17 dX12_number_142 ?_
            refine lv_iconst (v := 1) hx hb dX12_number_145 (by decide +kernel) ?_
            refine lv_isub hx hb dX12_number_146 ?_
            refine lv_topi (fun x43 ex43 => ?_)
            have tx43 : x43.toInt = n42.toInt - 1 := (v_number_22 σ k0 y1 x5 x17 x29 y30 y32 n42 x43 hpre_0 hpre_1 hpre_2 hpre_3 hpre_4 hpre_5 hpre_6 hpre_7 hpre_8 hi4_0 hi4_1 ex5 tx5 ex17 tx17 hr18_0 hr18_1 hr18_2 ex29 tx29 hi66_0 hi66_1 hi66_2 hi66_3 c35 c39 c40 hr41 ex43)
            refine lv_iload hx hb dX12_number_147 (lv_at hl 1 rfl) ?_
            refine rw_7 (f := (upd (σ.2.1 7) (σ.1 3).toNatClampNeg (0 : Int32))) C hP hS rfl (v_number_23 σ k0 y1 x5 x17 x29 y30 y32 n42 x43 hpre_0 hpre_1 hpre_2 hpre_3 hpre_4 hpre_5 hpre_6 hpre_7 hpre_8 hi4_0 hi4_1 ex5 tx5 ex17 tx17 hr18_0 hr18_1 hr18_2 ex29 tx29 hi66_0 hi66_1 hi66_2 hi66_3 c35 c39 c40 hr41 ex43 tx43) dX12_number_149 (fun H locs hP hS => ?_)
            refine lv_iload_n hx hb dX12_number_150 rfl (lv_at hl 0 rfl) ?_
            have hP : RP D cy ad (rS (rS (rA (rJ (rA (rA (rS σ 3 n42) 4 (upd (σ.2.1 4) (σ.1 3).toNatClampNeg (1 : Int32))) 5 (upd (σ.2.1 5) (σ.1 3).toNatClampNeg k0)) 6 (vp_updL (σ.2.2.1 6) (σ.1 3).toNatClampNeg y31)) 7 (upd (upd (σ.2.1 7) (σ.1 3).toNatClampNeg (0 : Int32)) x43.toNatClampNeg y32)) 8 (σ.1 8)) 9 (σ.1 9)) H := hP
            exact r_reti C ⟨n42, (upd (σ.2.1 4) (σ.1 3).toNatClampNeg (1 : Int32)), (upd (σ.2.1 5) (σ.1 3).toNatClampNeg k0), (vp_updL (σ.2.2.1 6) (σ.1 3).toNatClampNeg y31), (upd (upd (σ.2.1 7) (σ.1 3).toNatClampNeg (0 : Int32)) x43.toNatClampNeg y32), (σ.1 8), (σ.1 9)⟩ (v_number_24 σ k0 y1 x5 r6 x17 x29 y30 y31 y32 n42 x43 hpre_0 hpre_1 hpre_2 hpre_3 hpre_4 hpre_5 hpre_6 hpre_7 hpre_8 hi4_0 hi4_1 hr3 ex5 tx5 hr6 c7 ex17 tx17 hr18_0 hr18_1 hr18_2 ex29 tx29 hi66_0 hi66_1 hi66_2 hi66_3 hr33 c35 c39 c40 hr41 ex43 tx43) hP hS dX12_number_151
          · have c40 : 0 < y32.toInt := by have h := z_nle c40; rw [show (0 : Int32).toInt = 0 from by decide +kernel] at h; exact h
            refine lv_iconst (v := 2) hx hb dX12_number_127 (by decide +kernel) ?_
            refine lv_goto (tgt := 132) hx hb dX12_number_128 (by decide) ?_
            refine lv_iload_n hx hb dX12_number_132 rfl (lv_at hl 5 rfl) ?_
            refine lv_lload_n hx hb dX12_number_133 rfl (lv_at hl 3 rfl) ?_
            refine r_callVv (As := [.int 2, .int k0, .long y31]) (rest := []) C hP hS hl.1 ⟨Nat.zero_le _, Nat.zero_le _⟩ (M_add l D cy sz0 sa ad σ H.size (2 : Int32) k0 y31 (v_number_25 σ k0 y1 x5 x17 x29 y30 y32 hpre_0 hpre_1 hpre_2 hpre_3 hpre_4 hpre_5 hpre_6 hpre_7 hpre_8 hi4_0 hi4_1 ex5 tx5 ex17 tx17 hr18_0 hr18_1 hr18_2 ex29 tx29 hi66_0 hi66_1 hi66_2 hi66_3 c35 c39 c40)) (n := 3) ⟨wm_30, wm_15, by decide +kernel⟩ ⟨wm_31, wm_32, wm_10⟩ rfl rfl (lv_room (Nat.le_of_ble_eq_true rfl)) ⟨Nat.le_of_ble_eq_true rfl, Nat.le_of_ble_eq_true rfl⟩ dX12_number_134 (fun u H locs hr44 hP hS => ?_)
            obtain ⟨n45, rfl⟩ : ∃ z, z = u := ⟨_, rfl⟩
            have hr44 : n45.toInt = (σ.1 3).toInt + 1 := hr44
            have hP : RP D cy ad (rS (rA (rJ (rA (rA σ 4 (upd (σ.2.1 4) (σ.1 3).toNatClampNeg (2 : Int32))) 5 (upd (σ.2.1 5) (σ.1 3).toNatClampNeg k0)) 6 (vp_updL (σ.2.2.1 6) (σ.1 3).toNatClampNeg y31)) 7 (upd (σ.2.1 7) (σ.1 3).toNatClampNeg (0 : Int32))) 3 n45) H := hP
            refine lv_aload_n hx hb dX12_number_137 rfl (lv_at hl 4 rfl) ?_
            refine rg_7 C hP wm_20 dX12_number_138 ?_
            refine lv_aload_n hx hb dX12_number_141 rfl (lv_at hl 4 rfl) ?_
            refine rg_3 (v := n45) C hP rfl wm_17 dX12_number_142 ?_
            refine lv_iconst (v := 1) hx hb dX12_number_145 (by decide +kernel) ?_
            refine lv_isub hx hb dX12_number_146 ?_
            refine lv_topi (fun x46 ex46 => ?_)
            have tx46 : x46.toInt = n45.toInt - 1 := (v_number_26 σ k0 y1 x5 x17 x29 y30 y32 n45 x46 hpre_0 hpre_1 hpre_2 hpre_3 hpre_4 hpre_5 hpre_6 hpre_7 hpre_8 hi4_0 hi4_1 ex5 tx5 ex17 tx17 hr18_0 hr18_1 hr18_2 ex29 tx29 hi66_0 hi66_1 hi66_2 hi66_3 c35 c39 c40 hr44 ex46)
            refine lv_iload hx hb dX12_number_147 (lv_at hl 1 rfl) ?_
            refine rw_7 (f := (upd (σ.2.1 7) (σ.1 3).toNatClampNeg (0 : Int32))) C hP hS rfl (v_number_27 σ k0 y1 x5 x17 x29 y30 y32 n45 x46 hpre_0 hpre_1 hpre_2 hpre_3 hpre_4 hpre_5 hpre_6 hpre_7 hpre_8 hi4_0 hi4_1 ex5 tx5 ex17 tx17 hr18_0 hr18_1 hr18_2 ex29 tx29 hi66_0 hi66_1 hi66_2 hi66_3 c35 c39 c40 hr44 ex46 tx46) dX12_number_149 (fun H locs hP hS => ?_)
            refine lv_iload_n hx hb dX12_number_150 rfl (lv_at hl 0 rfl) ?_
            have hP : RP D cy ad (rS (rS (rA (rJ (rA (rA (rS σ 3 n45) 4 (upd (σ.2.1 4) (σ.1 3).toNatClampNeg (2 : Int32))) 5 (upd (σ.2.1 5) (σ.1 3).toNatClampNeg k0)) 6 (vp_updL (σ.2.2.1 6) (σ.1 3).toNatClampNeg y31)) 7 (upd (upd (σ.2.1 7) (σ.1 3).toNatClampNeg (0 : Int32)) x46.toNatClampNeg y32)) 8 (σ.1 8)) 9 (σ.1 9)) H := hP
            exact r_reti C ⟨n45, (upd (σ.2.1 4) (σ.1 3).toNatClampNeg (2 : Int32)), (upd (σ.2.1 5) (σ.1 3).toNatClampNeg k0), (vp_updL (σ.2.2.1 6) (σ.1 3).toNatClampNeg y31), (upd (upd (σ.2.1 7) (σ.1 3).toNatClampNeg (0 : Int32)) x46.toNatClampNeg y32), (σ.1 8), (σ.1 9)⟩ (v_number_28 σ k0 y1 x5 r6 x17 x29 y30 y31 y32 n45 x46 hpre_0 hpre_1 hpre_2 hpre_3 hpre_4 hpre_5 hpre_6 hpre_7 hpre_8 hi4_0 hi4_1 hr3 ex5 tx5 hr6 c7 ex17 tx17 hr18_0 hr18_1 hr18_2 ex29 tx29 hi66_0 hi66_1 hi66_2 hi66_3 hr33 c35 c39 c40 hr44 ex46 tx46) hP hS dX12_number_151
        · have c39 : 3 < y32.toInt := by have h := z_nle c39; rw [show (3 : Int32).toInt = 3 from by decide +kernel] at h; exact h
          refine lv_aload_n hx hb dX12_number_113 rfl (lv_at hl 4 rfl) ?_
          refine lv_iconst (v := 1) hx hb dX12_number_114 (by decide +kernel) ?_
          refine lv_iload_n hx hb dX12_number_115 rfl (lv_at hl 5 rfl) ?_
          refine r_callVv (As := [.int 1, .int k0]) (rest := []) C hP hS hl.1 ⟨Nat.zero_le _, Nat.zero_le _⟩ (M_wrong l D cy sz0 sa ad σ H.size (1 : Int32) k0 trivial) (n := 2) ⟨wm_27, wm_12, by decide +kernel⟩ ⟨wm_28, wm_29, wm_10⟩ rfl rfl (lv_room (Nat.le_of_ble_eq_true rfl)) ⟨Nat.le_of_ble_eq_true rfl, Nat.le_of_ble_eq_true rfl⟩ dX12_number_116 (fun u H locs hr47 hP hS => ?_)
          obtain ⟨n48, n49⟩ := u
          have hr47 : ((σ.1 8).toInt = 0 → n48 = (1 : Int32)) ∧ (¬ (σ.1 8).toInt = 0 → n48 = (σ.1 8) ∧ n49 = (σ.1 9)) := hr47
          obtain ⟨hr47_0, hr47_1⟩ := hr47
          have hP : RP D cy ad (rS (rS σ 8 n48) 9 n49) H := hP
          refine lv_iload_n hx hb dX12_number_119 rfl (lv_at hl 0 rfl) ?_
          have hP : RP D cy ad (rS (rS (rA (rJ (rA (rA (rS σ 3 (σ.1 3)) 4 (σ.2.1 4)) 5 (σ.2.1 5)) 6 (σ.2.2.1 6)) 7 (σ.2.1 7)) 8 n48) 9 n49) H := hP
          exact r_reti C ⟨(σ.1 3), (σ.2.1 4), (σ.2.1 5), (σ.2.2.1 6), (σ.2.1 7), n48, n49⟩ (v_number_29 σ k0 y1 x5 r6 x17 x29 y30 y32 hpre_0 hpre_1 hpre_2 hpre_3 hpre_4 hpre_5 hpre_6 hpre_7 hpre_8 hi4_0 hi4_1 hr3 ex5 tx5 hr6 c7 ex17 tx17 hr18_0 hr18_1 hr18_2 ex29 tx29 hi66_0 hi66_1 hi66_2 hi66_3 hr33 c35 c39) hP hS dX12_number_120
    · have c34 : ¬ r33.toInt = 0 := by have h := z_ne c34; rw [show (0 : Int32).toInt = 0 from by decide +kernel] at h; exact h
      have hr33 : (y30.toInt < (σ.1 1).toInt ∧ 48 ≤ ((σ.2.1 2) y30.toNatClampNeg).toInt ∧ ((σ.2.1 2) y30.toNatClampNeg).toInt ≤ 57) := bq_t hr33 c34
      obtain ⟨hr33_0, hr33_1, hr33_2⟩ := hr33
      refine lv_lload_n hx hb dX12_number_74 rfl (lv_at hl 3 rfl) ?_
      refine lv_ldc2 (v := 10) hx hb hown (hw _ wm_22) dX12_number_75 ?_
      refine lv_lmul hx hb dX12_number_78 ?_
      refine lv_topl (fun x50 ex50 => ?_)
      refine lv_aload_n hx hb dX12_number_79 rfl (lv_at hl 4 rfl) ?_
      refine lv_iload_n hx hb dX12_number_80 rfl (lv_at hl 0 rfl) ?_
      refine r_callVi (As := [.int y30]) (rest := [.long x50]) C hP hS hl.1 ⟨Nat.zero_le _, Nat.zero_le _⟩ (M_at l D cy sz0 sa ad σ H.size y30 (v_number_30 σ k0 y1 x5 r6 x17 x29 y30 y32 hpre_0 hpre_1 hpre_2 hpre_3 hpre_4 hpre_5 hpre_6 hpre_7 hpre_8 hi4_0 hi4_1 hr3 ex5 tx5 hr6 c7 ex17 tx17 hr18_0 hr18_1 hr18_2 ex29 tx29 hi66_0 hi66_1 hi66_2 hi66_3 hr33_0 hr33_1 hr33_2)) (n := 1) ⟨wm_7, wm_5, by decide +kernel⟩ ⟨wm_8, wm_9, wm_10⟩ rfl rfl (lv_room (Nat.le_of_ble_eq_true rfl)) ⟨Nat.le_of_ble_eq_true rfl, Nat.le_of_ble_eq_true rfl⟩ dX12_number_81 (fun r51 u H locs hr51 hP hS => ?_)
      have hr51 : (y30.toInt < (σ.1 1).toInt ∧ r51.toInt = ((σ.2.1 2) y30.toNatClampNeg).toInt) ∨ ((σ.1 1).toInt ≤ y30.toInt ∧ r51.toInt = 0) := hr51
      refine lv_i2l hx hb dX12_number_84 rfl ?_
      refine lv_topl (fun x52 ex52 => ?_)
      have tx52 : x52.toInt = r51.toInt := by rw [ex52]; exact Int32.toInt_toInt64 _
      refine lv_ladd hx hb dX12_number_85 ?_
      refine lv_topl (fun x53 ex53 => ?_)
      refine lv_ldc2 (v := 48) hx hb hown (hw _ wm_23) dX12_number_86 ?_
      refine lv_lsub hx hb dX12_number_89 ?_
      refine lv_topl (fun x54 ex54 => ?_)
      refine lv_lstore_n (lv' := [(3, .long x54), (2, .int y30), (6, .int y32), (5, .int x5), (0, .ref (ad 0)), (1, .int k0)]) hx hb dX12_number_90 rfl hl (by decide) rfl (fun ls hl => ?_)
      obtain ⟨x55, ex55⟩ : ∃ y : Int32, y = y30 + (1 : Int32) := ⟨_, rfl⟩
      have tx55 : x55.toInt = y30.toInt + 1 := (v_number_31 σ k0 y1 x5 r6 x17 x29 y30 y31 y32 x50 r51 x52 x53 x54 x55 hpre_0 hpre_1 hpre_2 hpre_3 hpre_4 hpre_5 hpre_6 hpre_7 hpre_8 hi4_0 hi4_1 hr3 ex5 tx5 hr6 c7 ex17 tx17 hr18_0 hr18_1 hr18_2 ex29 tx29 hi66_0 hi66_1 hi66_2 hi66_3 hr33_0 hr33_1 hr33_2 ex50 hr51 ex52 tx52 ex53 ex54 ex55)
      refine lv_iinc (v := x55) (lv' := [(2, .int x55), (3, .long x54), (6, .int y32), (5, .int x5), (0, .ref (ad 0)), (1, .int k0)]) hx hb dX12_number_91 hl (k := 1) rfl (by rw [ex55]; rfl) (by decide) rfl (fun ls hl => ?_)
      obtain ⟨x56, ex56⟩ : ∃ y : Int32, y = y32 + (1 : Int32) := ⟨_, rfl⟩
      have tx56 : x56.toInt = y32.toInt + 1 := (v_number_32 σ k0 y1 x5 x17 x29 y30 y31 y32 x50 r51 x52 x53 x54 x55 x56 hpre_0 hpre_1 hpre_2 hpre_3 hpre_4 hpre_5 hpre_6 hpre_7 hpre_8 hi4_0 hi4_1 ex5 tx5 ex17 tx17 hr18_0 hr18_1 hr18_2 ex29 tx29 hi66_0 hi66_1 hi66_2 hi66_3 hr33_0 hr33_1 hr33_2 ex50 hr51 ex52 tx52 ex53 ex54 ex55 tx55 ex56)
      refine lv_iinc (v := x56) (lv' := [(6, .int x56), (2, .int x55), (3, .long x54), (5, .int x5), (0, .ref (ad 0)), (1, .int k0)]) hx hb dX12_number_94 hl (k := 2) rfl (by rw [ex56]; rfl) (by decide) rfl (fun ls hl => ?_)
      refine lv_goto (tgt := 66) hx hb dX12_number_97 (by decide) ?_
      exact ih66 x55 x54 x56 _ _ _ (Nat.lt_of_lt_of_le (v_number_34 σ k0 y1 x5 r6 x17 x29 y30 y31 y32 x50 r51 x52 x53 x54 x55 x56 hpre_0 hpre_1 hpre_2 hpre_3 hpre_4 hpre_5 hpre_6 hpre_7 hpre_8 hi4_0 hi4_1 hr3 ex5 tx5 hr6 c7 ex17 tx17 hr18_0 hr18_1 hr18_2 ex29 tx29 hi66_0 hi66_1 hi66_2 hi66_3 hr33_0 hr33_1 hr33_2 ex50 hr51 ex52 tx52 ex53 ex54 ex55 tx55 ex56 tx56) (Nat.le_of_lt_succ hn66)) (v_number_33 σ k0 y1 x5 r6 x17 x29 y30 y31 y32 x50 r51 x52 x53 x54 x55 x56 hpre_0 hpre_1 hpre_2 hpre_3 hpre_4 hpre_5 hpre_6 hpre_7 hpre_8 hi4_0 hi4_1 hr3 ex5 tx5 hr6 c7 ex17 tx17 hr18_0 hr18_1 hr18_2 ex29 tx29 hi66_0 hi66_1 hi66_2 hi66_3 hr33_0 hr33_1 hr33_2 ex50 hr51 ex52 tx52 ex53 ex54 ex55 tx55 ex56 tx56) hP hS (lv_sub hl [1, 0, 3, 2, 4, 5] rfl)
set_option maxHeartbeats 4000000 in
set_option maxRecDepth 100000 in
theorem L_number_4_1 {p : Program} {e : Env} {s : State} {m : MethodId} {below : List Frame} {meth : Method} {c : Code} (l : Launch) (D : va_G) (cy : Nat → ClassId) (sz0 : Nat) (sa : Nat → Nat) (ad : Nat → Nat) (sz : Nat) (σ : RS) (k0 : Int32) (C : RC p s m #[.ref (ad 0), .int k0] meth c cX12_number 7 (some .int) D cy sz0 sa ad (AR cy ad sz)) (hpre_0 : 0 ≤ (σ.1 1).toInt) (hpre_1 : (σ.1 1).toInt ≤ 40) (hpre_2 : 0 ≤ (σ.1 3).toInt) (hpre_3 : (σ.1 3).toInt ≤ k0.toInt) (hpre_4 : k0.toInt < (σ.1 1).toInt) (hpre_5 : TKok (σ.2.1 4) (σ.2.2.1 6) (σ.2.1 7) (σ.1 3).toInt) (hpre_6 : k0.toInt < (σ.1 1).toInt) (hpre_7 : 48 ≤ ((σ.2.1 2) k0.toNatClampNeg).toInt) (hpre_8 : ((σ.2.1 2) k0.toNatClampNeg).toInt ≤ 57) : ∀ (n : Nat) (y1 : Int32) (y2 : Int64) (H : Heap) (locs : List Loc) (ls : Array Slot), ((σ.1 1).toInt - y1.toInt).toNat < n → (k0.toInt ≤ y1.toInt ∧ y1.toInt ≤ (σ.1 1).toInt) → RP D cy ad σ H → va_S (AR cy ad sz) s.heap H locs → lv_has ls 7 [(3, .long y2), (2, .int y1), (0, .ref (ad 0)), (1, .int k0)] → W p l e (headSpec (Cond.code yX12_number cX12_number 7 (some .int) :: GWm) ({ frames := 2, cells := 0, slots := 0, locals := 42 })).room s m #[.ref (ad 0), .int k0] below meth c H locs 0 0 (MQ below (va_Qi (fun (r : Int32) (u : Int32 × (Nat → Int32) × (Nat → Int32) × (Nat → Int64) × (Nat → Int32) × Int32 × Int32) => k0.toInt < r.toInt ∧ r.toInt ≤ (σ.1 1).toInt ∧ 0 ≤ u.1.toInt ∧ u.1.toInt ≤ r.toInt ∧ TKok u.2.1 u.2.2.2.1 u.2.2.2.2.1 u.1.toInt) (fun (u : Int32 × (Nat → Int32) × (Nat → Int32) × (Nat → Int64) × (Nat → Int32) × Int32 × Int32) (t : State) => RP D cy ad (rS (rS (rA (rJ (rA (rA (rS σ 3 u.1) 4 u.2.1) 5 u.2.2.1) 6 u.2.2.2.1) 7 u.2.2.2.2.1) 8 u.2.2.2.2.2.1) 9 u.2.2.2.2.2.2) t.heap) (AR cy ad sz)) #[.ref (ad 0), .int k0] s 0 0 (AR cy ad sz)) (F0 m 4 ls []) := by
  have hx := C.1
  have hb := C.2.1
  have hown := C.2.2.2.2.1
  have hw := C.2.2.2.2.2.1
  intro n
  induction n with
  | zero => intro y1 y2 H locs ls hn; exact absurd hn (Nat.not_lt_zero _)
  | succ n ih4 =>
    intro y1 y2 H locs ls hn4 hi4 hP hS hl
    obtain ⟨hi4_0, hi4_1⟩ := hi4
    refine lv_aload_n hx hb dX12_number_4 rfl (lv_at hl 2 rfl) ?_
    refine lv_iload_n hx hb dX12_number_5 rfl (lv_at hl 1 rfl) ?_
    refine r_callVi (As := [.int y1]) (rest := []) C hP hS hl.1 ⟨Nat.zero_le _, Nat.zero_le _⟩ (M_digit l D cy sz0 sa ad σ H.size y1 (v_number_2 σ k0 y1 hpre_0 hpre_1 hpre_2 hpre_3 hpre_4 hpre_5 hpre_6 hpre_7 hpre_8 hi4_0 hi4_1)) (n := 1) ⟨wm_24, wm_6, by decide +kernel⟩ ⟨wm_25, wm_26, wm_10⟩ rfl rfl (lv_room (Nat.le_of_ble_eq_true rfl)) ⟨Nat.le_of_ble_eq_true rfl, Nat.le_of_ble_eq_true rfl⟩ dX12_number_6 (fun r3 u H locs hr3 hP hS => ?_)
    have hr3 : (r3.toInt = 0 ∧ ¬ ((y1.toInt < (σ.1 1).toInt ∧ 48 ≤ ((σ.2.1 2) y1.toNatClampNeg).toInt ∧ ((σ.2.1 2) y1.toNatClampNeg).toInt ≤ 57))) ∨ (r3.toInt = 1 ∧ ((y1.toInt < (σ.1 1).toInt ∧ 48 ≤ ((σ.2.1 2) y1.toNatClampNeg).toInt ∧ ((σ.2.1 2) y1.toNatClampNeg).toInt ≤ 57))) := hr3
    refine lv_if_eq (tgt := 35) hx hb dX12_number_9 (by decide) (fun c4 => ?_) (fun c4 => ?_)
    · have c4 : r3.toInt = 0 := by have h := z_eq c4; rw [show (0 : Int32).toInt = 0 from by decide +kernel] at h; exact h
      have hr3 : ¬ ((y1.toInt < (σ.1 1).toInt ∧ 48 ≤ ((σ.2.1 2) y1.toNatClampNeg).toInt ∧ ((σ.2.1 2) y1.toNatClampNeg).toInt ≤ 57)) := bq_f hr3 c4
      refine lv_iload_n hx hb dX12_number_35 rfl (lv_at hl 1 rfl) ?_
      refine lv_iload_n hx hb dX12_number_36 rfl (lv_at hl 3 rfl) ?_
      refine lv_isub hx hb dX12_number_37 ?_
      refine lv_topi (fun x5 ex5 => ?_)
      have tx5 : x5.toInt = y1.toInt - k0.toInt := (v_number_3 σ k0 y1 x5 hpre_0 hpre_1 hpre_2 hpre_3 hpre_4 hpre_5 hpre_6 hpre_7 hpre_8 hi4_0 hi4_1 hr3 ex5)
      refine lv_istore (lv' := [(5, .int x5), (3, .long y2), (2, .int y1), (0, .ref (ad 0)), (1, .int k0)]) hx hb dX12_number_38 hl (by decide) rfl (fun ls hl => ?_)
      refine lv_iconst (v := 0) hx hb dX12_number_40 (by decide +kernel) ?_
      refine lv_istore (lv' := [(6, .int 0), (5, .int x5), (3, .long y2), (2, .int y1), (0, .ref (ad 0)), (1, .int k0)]) hx hb dX12_number_41 hl (by decide) rfl (fun ls hl => ?_)
      refine lv_aload_n hx hb dX12_number_43 rfl (lv_at hl 4 rfl) ?_
      refine lv_iload_n hx hb dX12_number_44 rfl (lv_at hl 3 rfl) ?_
      refine r_callVi (As := [.int y1]) (rest := []) C hP hS hl.1 ⟨Nat.zero_le _, Nat.zero_le _⟩ (M_at l D cy sz0 sa ad σ H.size y1 (v_number_4 σ k0 y1 x5 hpre_0 hpre_1 hpre_2 hpre_3 hpre_4 hpre_5 hpre_6 hpre_7 hpre_8 hi4_0 hi4_1 hr3 ex5 tx5)) (n := 1) ⟨wm_7, wm_5, by decide +kernel⟩ ⟨wm_8, wm_9, wm_10⟩ rfl rfl (lv_room (Nat.le_of_ble_eq_true rfl)) ⟨Nat.le_of_ble_eq_true rfl, Nat.le_of_ble_eq_true rfl⟩ dX12_number_45 (fun r6 u H locs hr6 hP hS => ?_)
      have hr6 : (y1.toInt < (σ.1 1).toInt ∧ r6.toInt = ((σ.2.1 2) y1.toNatClampNeg).toInt) ∨ ((σ.1 1).toInt ≤ y1.toInt ∧ r6.toInt = 0) := hr6
      refine lv_bipush (v := 46) hx hb dX12_number_48 (by decide +kernel) ?_
      refine lv_icmp_ne (tgt := 100) hx hb dX12_number_50 (by decide) (fun c7 => ?_) (fun c7 => ?_)
      · have c7 : ¬ r6.toInt = 46 := by have h := z_ne c7; rw [show (46 : Int32).toInt = 46 from by decide +kernel] at h; exact h
        refine lv_iload hx hb dX12_number_100 (lv_at hl 1 rfl) ?_
        refine lv_bipush (v := 6) hx hb dX12_number_102 (by decide +kernel) ?_
        refine lv_icmp_gt (tgt := 113) hx hb dX12_number_104 (by decide) (fun c8 => ?_) (fun c8 => ?_)
        · have c8 : 6 < x5.toInt := by have h := z_lt c8; rw [show (6 : Int32).toInt = 6 from by decide +kernel] at h; exact h
          refine lv_aload_n hx hb dX12_number_113 rfl (lv_at hl 4 rfl) ?_
          refine lv_iconst (v := 1) hx hb dX12_number_114 (by decide +kernel) ?_
          refine lv_iload_n hx hb dX12_number_115 rfl (lv_at hl 5 rfl) ?_
          refine r_callVv (As := [.int 1, .int k0]) (rest := []) C hP hS hl.1 ⟨Nat.zero_le _, Nat.zero_le _⟩ (M_wrong l D cy sz0 sa ad σ H.size (1 : Int32) k0 trivial) (n := 2) ⟨wm_27, wm_12, by decide +kernel⟩ ⟨wm_28, wm_29, wm_10⟩ rfl rfl (lv_room (Nat.le_of_ble_eq_true rfl)) ⟨Nat.le_of_ble_eq_true rfl, Nat.le_of_ble_eq_true rfl⟩ dX12_number_116 (fun u H locs hr9 hP hS => ?_)
          obtain ⟨n10, n11⟩ := u
          have hr9 : ((σ.1 8).toInt = 0 → n10 = (1 : Int32)) ∧ (¬ (σ.1 8).toInt = 0 → n10 = (σ.1 8) ∧ n11 = (σ.1 9)) := hr9
          obtain ⟨hr9_0, hr9_1⟩ := hr9
          have hP : RP D cy ad (rS (rS σ 8 n10) 9 n11) H := hP
          refine lv_iload_n hx hb dX12_number_119 rfl (lv_at hl 3 rfl) ?_
          have hP : RP D cy ad (rS (rS (rA (rJ (rA (rA (rS σ 3 (σ.1 3)) 4 (σ.2.1 4)) 5 (σ.2.1 5)) 6 (σ.2.2.1 6)) 7 (σ.2.1 7)) 8 n10) 9 n11) H := hP
          exact r_reti C ⟨(σ.1 3), (σ.2.1 4), (σ.2.1 5), (σ.2.2.1 6), (σ.2.1 7), n10, n11⟩ (v_number_5 σ k0 y1 x5 r6 hpre_0 hpre_1 hpre_2 hpre_3 hpre_4 hpre_5 hpre_6 hpre_7 hpre_8 hi4_0 hi4_1 hr3 ex5 tx5 hr6 c7 c8) hP hS dX12_number_120
        · have c8 : x5.toInt ≤ 6 := by have h := z_nlt c8; rw [show (6 : Int32).toInt = 6 from by decide +kernel] at h; exact h
          refine lv_iload hx hb dX12_number_107 (lv_at hl 0 rfl) ?_
          refine lv_iconst (v := 3) hx hb dX12_number_109 (by decide +kernel) ?_
          refine lv_icmp_le (tgt := 121) hx hb dX12_number_110 (by decide) (fun _ => ?_) (fun c12 => absurd (by decide +kernel) c12)
          refine lv_aload_n hx hb dX12_number_121 rfl (lv_at hl 4 rfl) ?_
          refine lv_iload hx hb dX12_number_122 (lv_at hl 0 rfl) ?_
          refine lv_if_le (tgt := 131) hx hb dX12_number_124 (by decide) (fun _ => ?_) (fun c13 => absurd (by decide +kernel) c13)
          refine lv_iconst (v := 1) hx hb dX12_number_131 (by decide +kernel) ?_
          refine lv_iload_n hx hb dX12_number_132 rfl (lv_at hl 5 rfl) ?_
          refine lv_lload_n hx hb dX12_number_133 rfl (lv_at hl 2 rfl) ?_
          refine r_callVv (As := [.int 1, .int k0, .long y2]) (rest := []) C hP hS hl.1 ⟨Nat.zero_le _, Nat.zero_le _⟩ (M_add l D cy sz0 sa ad σ H.size (1 : Int32) k0 y2 (v_number_6 σ k0 y1 x5 hpre_0 hpre_1 hpre_2 hpre_3 hpre_4 hpre_5 hpre_6 hpre_7 hpre_8 hi4_0 hi4_1 ex5 tx5 c8)) (n := 3) ⟨wm_30, wm_15, by decide +kernel⟩ ⟨wm_31, wm_32, wm_10⟩ rfl rfl (lv_room (Nat.le_of_ble_eq_true rfl)) ⟨Nat.le_of_ble_eq_true rfl, Nat.le_of_ble_eq_true rfl⟩ dX12_number_134 (fun u H locs hr14 hP hS => ?_)
          obtain ⟨n15, rfl⟩ : ∃ z, z = u := ⟨_, rfl⟩
          have hr14 : n15.toInt = (σ.1 3).toInt + 1 := hr14
          have hP : RP D cy ad (rS (rA (rJ (rA (rA σ 4 (upd (σ.2.1 4) (σ.1 3).toNatClampNeg (1 : Int32))) 5 (upd (σ.2.1 5) (σ.1 3).toNatClampNeg k0)) 6 (vp_updL (σ.2.2.1 6) (σ.1 3).toNatClampNeg y2)) 7 (upd (σ.2.1 7) (σ.1 3).toNatClampNeg (0 : Int32))) 3 n15) H := hP
          refine lv_aload_n hx hb dX12_number_137 rfl (lv_at hl 4 rfl) ?_
          refine rg_7 C hP wm_20 dX12_number_138 ?_
          refine lv_aload_n hx hb dX12_number_141 rfl (lv_at hl 4 rfl) ?_
          refine rg_3 (v := n15) C hP rfl wm_17 dX12_number_142 ?_
          refine lv_iconst (v := 1) hx hb dX12_number_145 (by decide +kernel) ?_
          refine lv_isub hx hb dX12_number_146 ?_
          refine lv_topi (fun x16 ex16 => ?_)
          have tx16 : x16.toInt = n15.toInt - 1 := (v_number_7 σ k0 y1 x5 n15 x16 hpre_0 hpre_1 hpre_2 hpre_3 hpre_4 hpre_5 hpre_6 hpre_7 hpre_8 hi4_0 hi4_1 ex5 tx5 c8 hr14 ex16)
          refine lv_iload hx hb dX12_number_147 (lv_at hl 0 rfl) ?_
          refine rw_7 (f := (upd (σ.2.1 7) (σ.1 3).toNatClampNeg (0 : Int32))) C hP hS rfl (v_number_8 σ k0 y1 x5 n15 x16 hpre_0 hpre_1 hpre_2 hpre_3 hpre_4 hpre_5 hpre_6 hpre_7 hpre_8 hi4_0 hi4_1 ex5 tx5 c8 hr14 ex16 tx16) dX12_number_149 (fun H locs hP hS => ?_)
          refine lv_iload_n hx hb dX12_number_150 rfl (lv_at hl 3 rfl) ?_
          have hP : RP D cy ad (rS (rS (rA (rJ (rA (rA (rS σ 3 n15) 4 (upd (σ.2.1 4) (σ.1 3).toNatClampNeg (1 : Int32))) 5 (upd (σ.2.1 5) (σ.1 3).toNatClampNeg k0)) 6 (vp_updL (σ.2.2.1 6) (σ.1 3).toNatClampNeg y2)) 7 (upd (upd (σ.2.1 7) (σ.1 3).toNatClampNeg (0 : Int32)) x16.toNatClampNeg (0 : Int32))) 8 (σ.1 8)) 9 (σ.1 9)) H := hP
          exact r_reti C ⟨n15, (upd (σ.2.1 4) (σ.1 3).toNatClampNeg (1 : Int32)), (upd (σ.2.1 5) (σ.1 3).toNatClampNeg k0), (vp_updL (σ.2.2.1 6) (σ.1 3).toNatClampNeg y2), (upd (upd (σ.2.1 7) (σ.1 3).toNatClampNeg (0 : Int32)) x16.toNatClampNeg (0 : Int32)), (σ.1 8), (σ.1 9)⟩ (v_number_9 σ k0 y1 y2 x5 r6 n15 x16 hpre_0 hpre_1 hpre_2 hpre_3 hpre_4 hpre_5 hpre_6 hpre_7 hpre_8 hi4_0 hi4_1 hr3 ex5 tx5 hr6 c7 c8 hr14 ex16 tx16) hP hS dX12_number_151
      · have c7 : r6.toInt = 46 := by have h := z_eq c7; rw [show (46 : Int32).toInt = 46 from by decide +kernel] at h; exact h
        refine lv_aload_n hx hb dX12_number_53 rfl (lv_at hl 4 rfl) ?_
        refine lv_iload_n hx hb dX12_number_54 rfl (lv_at hl 3 rfl) ?_
        refine lv_iconst (v := 1) hx hb dX12_number_55 (by decide +kernel) ?_
        refine lv_iadd hx hb dX12_number_56 ?_
        refine lv_topi (fun x17 ex17 => ?_)
        have tx17 : x17.toInt = y1.toInt + 1 := (v_number_10 σ k0 y1 x5 r6 x17 hpre_0 hpre_1 hpre_2 hpre_3 hpre_4 hpre_5 hpre_6 hpre_7 hpre_8 hi4_0 hi4_1 hr3 ex5 tx5 hr6 c7 ex17)
        refine r_callVi (As := [.int x17]) (rest := []) C hP hS hl.1 ⟨Nat.zero_le _, Nat.zero_le _⟩ (M_digit l D cy sz0 sa ad σ H.size x17 (v_number_11 σ k0 y1 x5 r6 x17 hpre_0 hpre_1 hpre_2 hpre_3 hpre_4 hpre_5 hpre_6 hpre_7 hpre_8 hi4_0 hi4_1 hr3 ex5 tx5 hr6 c7 ex17 tx17)) (n := 1) ⟨wm_24, wm_6, by decide +kernel⟩ ⟨wm_25, wm_26, wm_10⟩ rfl rfl (lv_room (Nat.le_of_ble_eq_true rfl)) ⟨Nat.le_of_ble_eq_true rfl, Nat.le_of_ble_eq_true rfl⟩ dX12_number_57 (fun r18 u H locs hr18 hP hS => ?_)
        have hr18 : (r18.toInt = 0 ∧ ¬ ((x17.toInt < (σ.1 1).toInt ∧ 48 ≤ ((σ.2.1 2) x17.toNatClampNeg).toInt ∧ ((σ.2.1 2) x17.toNatClampNeg).toInt ≤ 57))) ∨ (r18.toInt = 1 ∧ ((x17.toInt < (σ.1 1).toInt ∧ 48 ≤ ((σ.2.1 2) x17.toNatClampNeg).toInt ∧ ((σ.2.1 2) x17.toNatClampNeg).toInt ≤ 57))) := hr18
        refine lv_if_eq (tgt := 100) hx hb dX12_number_60 (by decide) (fun c19 => ?_) (fun c19 => ?_)
        · have c19 : r18.toInt = 0 := by have h := z_eq c19; rw [show (0 : Int32).toInt = 0 from by decide +kernel] at h; exact h
          have hr18 : ¬ ((x17.toInt < (σ.1 1).toInt ∧ 48 ≤ ((σ.2.1 2) x17.toNatClampNeg).toInt ∧ ((σ.2.1 2) x17.toNatClampNeg).toInt ≤ 57)) := bq_f hr18 c19
          refine lv_iload hx hb dX12_number_100 (lv_at hl 1 rfl) ?_
          refine lv_bipush (v := 6) hx hb dX12_number_102 (by decide +kernel) ?_
          refine lv_icmp_gt (tgt := 113) hx hb dX12_number_104 (by decide) (fun c20 => ?_) (fun c20 => ?_)
          · have c20 : 6 < x5.toInt := by have h := z_lt c20; rw [show (6 : Int32).toInt = 6 from by decide +kernel] at h; exact h
            refine lv_aload_n hx hb dX12_number_113 rfl (lv_at hl 4 rfl) ?_
            refine lv_iconst (v := 1) hx hb dX12_number_114 (by decide +kernel) ?_
            refine lv_iload_n hx hb dX12_number_115 rfl (lv_at hl 5 rfl) ?_
            refine r_callVv (As := [.int 1, .int k0]) (rest := []) C hP hS hl.1 ⟨Nat.zero_le _, Nat.zero_le _⟩ (M_wrong l D cy sz0 sa ad σ H.size (1 : Int32) k0 trivial) (n := 2) ⟨wm_27, wm_12, by decide +kernel⟩ ⟨wm_28, wm_29, wm_10⟩ rfl rfl (lv_room (Nat.le_of_ble_eq_true rfl)) ⟨Nat.le_of_ble_eq_true rfl, Nat.le_of_ble_eq_true rfl⟩ dX12_number_116 (fun u H locs hr21 hP hS => ?_)
            obtain ⟨n22, n23⟩ := u
            have hr21 : ((σ.1 8).toInt = 0 → n22 = (1 : Int32)) ∧ (¬ (σ.1 8).toInt = 0 → n22 = (σ.1 8) ∧ n23 = (σ.1 9)) := hr21
            obtain ⟨hr21_0, hr21_1⟩ := hr21
            have hP : RP D cy ad (rS (rS σ 8 n22) 9 n23) H := hP
            refine lv_iload_n hx hb dX12_number_119 rfl (lv_at hl 3 rfl) ?_
            have hP : RP D cy ad (rS (rS (rA (rJ (rA (rA (rS σ 3 (σ.1 3)) 4 (σ.2.1 4)) 5 (σ.2.1 5)) 6 (σ.2.2.1 6)) 7 (σ.2.1 7)) 8 n22) 9 n23) H := hP
            exact r_reti C ⟨(σ.1 3), (σ.2.1 4), (σ.2.1 5), (σ.2.2.1 6), (σ.2.1 7), n22, n23⟩ (v_number_12 σ k0 y1 x5 r6 x17 hpre_0 hpre_1 hpre_2 hpre_3 hpre_4 hpre_5 hpre_6 hpre_7 hpre_8 hi4_0 hi4_1 hr3 ex5 tx5 hr6 c7 ex17 tx17 hr18 c20) hP hS dX12_number_120
          · have c20 : x5.toInt ≤ 6 := by have h := z_nlt c20; rw [show (6 : Int32).toInt = 6 from by decide +kernel] at h; exact h
            refine lv_iload hx hb dX12_number_107 (lv_at hl 0 rfl) ?_
            refine lv_iconst (v := 3) hx hb dX12_number_109 (by decide +kernel) ?_
            refine lv_icmp_le (tgt := 121) hx hb dX12_number_110 (by decide) (fun _ => ?_) (fun c24 => absurd (by decide +kernel) c24)
            refine lv_aload_n hx hb dX12_number_121 rfl (lv_at hl 4 rfl) ?_
            refine lv_iload hx hb dX12_number_122 (lv_at hl 0 rfl) ?_
            refine lv_if_le (tgt := 131) hx hb dX12_number_124 (by decide) (fun _ => ?_) (fun c25 => absurd (by decide +kernel) c25)
            refine lv_iconst (v := 1) hx hb dX12_number_131 (by decide +kernel) ?_
            refine lv_iload_n hx hb dX12_number_132 rfl (lv_at hl 5 rfl) ?_
            refine lv_lload_n hx hb dX12_number_133 rfl (lv_at hl 2 rfl) ?_
            refine r_callVv (As := [.int 1, .int k0, .long y2]) (rest := []) C hP hS hl.1 ⟨Nat.zero_le _, Nat.zero_le _⟩ (M_add l D cy sz0 sa ad σ H.size (1 : Int32) k0 y2 (v_number_13 σ k0 y1 x5 x17 hpre_0 hpre_1 hpre_2 hpre_3 hpre_4 hpre_5 hpre_6 hpre_7 hpre_8 hi4_0 hi4_1 ex5 tx5 ex17 tx17 c20)) (n := 3) ⟨wm_30, wm_15, by decide +kernel⟩ ⟨wm_31, wm_32, wm_10⟩ rfl rfl (lv_room (Nat.le_of_ble_eq_true rfl)) ⟨Nat.le_of_ble_eq_true rfl, Nat.le_of_ble_eq_true rfl⟩ dX12_number_134 (fun u H locs hr26 hP hS => ?_)
            obtain ⟨n27, rfl⟩ : ∃ z, z = u := ⟨_, rfl⟩
            have hr26 : n27.toInt = (σ.1 3).toInt + 1 := hr26
            have hP : RP D cy ad (rS (rA (rJ (rA (rA σ 4 (upd (σ.2.1 4) (σ.1 3).toNatClampNeg (1 : Int32))) 5 (upd (σ.2.1 5) (σ.1 3).toNatClampNeg k0)) 6 (vp_updL (σ.2.2.1 6) (σ.1 3).toNatClampNeg y2)) 7 (upd (σ.2.1 7) (σ.1 3).toNatClampNeg (0 : Int32))) 3 n27) H := hP
            refine lv_aload_n hx hb dX12_number_137 rfl (lv_at hl 4 rfl) ?_
            refine rg_7 C hP wm_20 dX12_number_138 ?_
            refine lv_aload_n hx hb dX12_number_141 rfl (lv_at hl 4 rfl) ?_
            refine rg_3 (v := n27) C hP rfl wm_17 dX12_number_142 ?_
            refine lv_iconst (v := 1) hx hb dX12_number_145 (by decide +kernel) ?_
            refine lv_isub hx hb dX12_number_146 ?_
            refine lv_topi (fun x28 ex28 => ?_)
            have tx28 : x28.toInt = n27.toInt - 1 := (v_number_14 σ k0 y1 x5 x17 n27 x28 hpre_0 hpre_1 hpre_2 hpre_3 hpre_4 hpre_5 hpre_6 hpre_7 hpre_8 hi4_0 hi4_1 ex5 tx5 ex17 tx17 c20 hr26 ex28)
            refine lv_iload hx hb dX12_number_147 (lv_at hl 0 rfl) ?_
            refine rw_7 (f := (upd (σ.2.1 7) (σ.1 3).toNatClampNeg (0 : Int32))) C hP hS rfl (v_number_15 σ k0 y1 x5 x17 n27 x28 hpre_0 hpre_1 hpre_2 hpre_3 hpre_4 hpre_5 hpre_6 hpre_7 hpre_8 hi4_0 hi4_1 ex5 tx5 ex17 tx17 c20 hr26 ex28 tx28) dX12_number_149 (fun H locs hP hS => ?_)
            refine lv_iload_n hx hb dX12_number_150 rfl (lv_at hl 3 rfl) ?_
            have hP : RP D cy ad (rS (rS (rA (rJ (rA (rA (rS σ 3 n27) 4 (upd (σ.2.1 4) (σ.1 3).toNatClampNeg (1 : Int32))) 5 (upd (σ.2.1 5) (σ.1 3).toNatClampNeg k0)) 6 (vp_updL (σ.2.2.1 6) (σ.1 3).toNatClampNeg y2)) 7 (upd (upd (σ.2.1 7) (σ.1 3).toNatClampNeg (0 : Int32)) x28.toNatClampNeg (0 : Int32))) 8 (σ.1 8)) 9 (σ.1 9)) H := hP
            exact r_reti C ⟨n27, (upd (σ.2.1 4) (σ.1 3).toNatClampNeg (1 : Int32)), (upd (σ.2.1 5) (σ.1 3).toNatClampNeg k0), (vp_updL (σ.2.2.1 6) (σ.1 3).toNatClampNeg y2), (upd (upd (σ.2.1 7) (σ.1 3).toNatClampNeg (0 : Int32)) x28.toNatClampNeg (0 : Int32)), (σ.1 8), (σ.1 9)⟩ (v_number_16 σ k0 y1 y2 x5 r6 x17 n27 x28 hpre_0 hpre_1 hpre_2 hpre_3 hpre_4 hpre_5 hpre_6 hpre_7 hpre_8 hi4_0 hi4_1 hr3 ex5 tx5 hr6 c7 ex17 tx17 hr18 c20 hr26 ex28 tx28) hP hS dX12_number_151
        · have c19 : ¬ r18.toInt = 0 := by have h := z_ne c19; rw [show (0 : Int32).toInt = 0 from by decide +kernel] at h; exact h
          have hr18 : (x17.toInt < (σ.1 1).toInt ∧ 48 ≤ ((σ.2.1 2) x17.toNatClampNeg).toInt ∧ ((σ.2.1 2) x17.toNatClampNeg).toInt ≤ 57) := bq_t hr18 c19
          obtain ⟨hr18_0, hr18_1, hr18_2⟩ := hr18
          obtain ⟨x29, ex29⟩ : ∃ y : Int32, y = y1 + (1 : Int32) := ⟨_, rfl⟩
          have tx29 : x29.toInt = y1.toInt + 1 := (v_number_17 σ k0 y1 x5 r6 x17 x29 hpre_0 hpre_1 hpre_2 hpre_3 hpre_4 hpre_5 hpre_6 hpre_7 hpre_8 hi4_0 hi4_1 hr3 ex5 tx5 hr6 c7 ex17 tx17 hr18_0 hr18_1 hr18_2 ex29)
          refine lv_iinc (v := x29) (lv' := [(2, .int x29), (6, .int 0), (5, .int x5), (3, .long y2), (0, .ref (ad 0)), (1, .int k0)]) hx hb dX12_number_63 hl (k := 3) rfl (by rw [ex29]; rfl) (by decide) rfl (fun ls hl => ?_)
          exact L_number_66_2 l D cy sz0 sa ad sz σ k0 y1 y2 r3 x5 r6 x17 r18 x29 C hpre_0 hpre_1 hpre_2 hpre_3 hpre_4 hpre_5 hpre_6 hpre_7 hpre_8 hi4_0 hi4_1 hr3 c4 ex5 tx5 hr6 c7 ex17 tx17 hr18_0 hr18_1 hr18_2 c19 ex29 tx29 (((σ.1 1).toInt - x29.toInt).toNat + 1) x29 y2 (0 : Int32) _ _ _ (Nat.lt_succ_self _) (v_number_18 σ k0 y1 x5 r6 x17 x29 hpre_0 hpre_1 hpre_2 hpre_3 hpre_4 hpre_5 hpre_6 hpre_7 hpre_8 hi4_0 hi4_1 hr3 ex5 tx5 hr6 c7 ex17 tx17 hr18_0 hr18_1 hr18_2 ex29 tx29) hP hS (lv_sub hl [0, 1, 2, 3, 4, 5] rfl)
    · have c4 : ¬ r3.toInt = 0 := by have h := z_ne c4; rw [show (0 : Int32).toInt = 0 from by decide +kernel] at h; exact h
      have hr3 : (y1.toInt < (σ.1 1).toInt ∧ 48 ≤ ((σ.2.1 2) y1.toNatClampNeg).toInt ∧ ((σ.2.1 2) y1.toNatClampNeg).toInt ≤ 57) := bq_t hr3 c4
      obtain ⟨hr3_0, hr3_1, hr3_2⟩ := hr3
      refine lv_lload_n hx hb dX12_number_12 rfl (lv_at hl 0 rfl) ?_
      refine lv_ldc2 (v := 10) hx hb hown (hw _ wm_22) dX12_number_13 ?_
      refine lv_lmul hx hb dX12_number_16 ?_
      refine lv_topl (fun x57 ex57 => ?_)
      refine lv_aload_n hx hb dX12_number_17 rfl (lv_at hl 2 rfl) ?_
      refine lv_iload_n hx hb dX12_number_18 rfl (lv_at hl 1 rfl) ?_
      refine r_callVi (As := [.int y1]) (rest := [.long x57]) C hP hS hl.1 ⟨Nat.zero_le _, Nat.zero_le _⟩ (M_at l D cy sz0 sa ad σ H.size y1 (v_number_35 σ k0 y1 hpre_0 hpre_1 hpre_2 hpre_3 hpre_4 hpre_5 hpre_6 hpre_7 hpre_8 hi4_0 hi4_1 hr3_0 hr3_1 hr3_2)) (n := 1) ⟨wm_7, wm_5, by decide +kernel⟩ ⟨wm_8, wm_9, wm_10⟩ rfl rfl (lv_room (Nat.le_of_ble_eq_true rfl)) ⟨Nat.le_of_ble_eq_true rfl, Nat.le_of_ble_eq_true rfl⟩ dX12_number_19 (fun r58 u H locs hr58 hP hS => ?_)
      have hr58 : (y1.toInt < (σ.1 1).toInt ∧ r58.toInt = ((σ.2.1 2) y1.toNatClampNeg).toInt) ∨ ((σ.1 1).toInt ≤ y1.toInt ∧ r58.toInt = 0) := hr58
      refine lv_i2l hx hb dX12_number_22 rfl ?_
      refine lv_topl (fun x59 ex59 => ?_)
      have tx59 : x59.toInt = r58.toInt := by rw [ex59]; exact Int32.toInt_toInt64 _
      refine lv_ladd hx hb dX12_number_23 ?_
      refine lv_topl (fun x60 ex60 => ?_)
      refine lv_ldc2 (v := 48) hx hb hown (hw _ wm_23) dX12_number_24 ?_
      refine lv_lsub hx hb dX12_number_27 ?_
      refine lv_topl (fun x61 ex61 => ?_)
      refine lv_lstore_n (lv' := [(3, .long x61), (2, .int y1), (0, .ref (ad 0)), (1, .int k0)]) hx hb dX12_number_28 rfl hl (by decide) rfl (fun ls hl => ?_)
      obtain ⟨x62, ex62⟩ : ∃ y : Int32, y = y1 + (1 : Int32) := ⟨_, rfl⟩
      have tx62 : x62.toInt = y1.toInt + 1 := (v_number_36 σ k0 y1 y2 x57 r58 x59 x60 x61 x62 hpre_0 hpre_1 hpre_2 hpre_3 hpre_4 hpre_5 hpre_6 hpre_7 hpre_8 hi4_0 hi4_1 hr3_0 hr3_1 hr3_2 ex57 hr58 ex59 tx59 ex60 ex61 ex62)
      refine lv_iinc (v := x62) (lv' := [(2, .int x62), (3, .long x61), (0, .ref (ad 0)), (1, .int k0)]) hx hb dX12_number_29 hl (k := 1) rfl (by rw [ex62]; rfl) (by decide) rfl (fun ls hl => ?_)
      refine lv_goto (tgt := 4) hx hb dX12_number_32 (by decide) ?_
      exact ih4 x62 x61 _ _ _ (Nat.lt_of_lt_of_le (v_number_38 σ k0 y1 y2 x57 r58 x59 x60 x61 x62 hpre_0 hpre_1 hpre_2 hpre_3 hpre_4 hpre_5 hpre_6 hpre_7 hpre_8 hi4_0 hi4_1 hr3_0 hr3_1 hr3_2 ex57 hr58 ex59 tx59 ex60 ex61 ex62 tx62) (Nat.le_of_lt_succ hn4)) (v_number_37 σ k0 y1 y2 x57 r58 x59 x60 x61 x62 hpre_0 hpre_1 hpre_2 hpre_3 hpre_4 hpre_5 hpre_6 hpre_7 hpre_8 hi4_0 hi4_1 hr3_0 hr3_1 hr3_2 ex57 hr58 ex59 tx59 ex60 ex61 ex62 tx62) hP hS (lv_sub hl [1, 0, 2, 3] rfl)
set_option maxHeartbeats 4000000 in
set_option maxRecDepth 100000 in
theorem M_number (l : Launch) (D : va_G) (cy : Nat → ClassId) (sz0 : Nat) (sa : Nat → Nat) (ad : Nat → Nat) (σ : RS) (sz : Nat) (k0 : Int32) (hpre : 0 ≤ (σ.1 1).toInt ∧ (σ.1 1).toInt ≤ 40 ∧ 0 ≤ (σ.1 3).toInt ∧ (σ.1 3).toInt ≤ k0.toInt ∧ k0.toInt < (σ.1 1).toInt ∧ TKok (σ.2.1 4) (σ.2.2.1 6) (σ.2.1 7) (σ.1 3).toInt ∧ (k0.toInt < (σ.1 1).toInt ∧ 48 ≤ ((σ.2.1 2) k0.toNatClampNeg).toInt ∧ ((σ.2.1 2) k0.toNatClampNeg).toInt ≤ 57)) : Met l yX12_number (Cond.code yX12_number cX12_number 7 (some .int) :: GWm) ({ frames := 2, cells := 0, slots := 0, locals := 42 }) (PcR D cy sz0 sa ad [.ref (ad 0), .int k0] σ sz) (va_Qi (fun (r : Int32) (u : Int32 × (Nat → Int32) × (Nat → Int32) × (Nat → Int64) × (Nat → Int32) × Int32 × Int32) => k0.toInt < r.toInt ∧ r.toInt ≤ (σ.1 1).toInt ∧ 0 ≤ u.1.toInt ∧ u.1.toInt ≤ r.toInt ∧ TKok u.2.1 u.2.2.2.1 u.2.2.2.2.1 u.1.toInt) (fun (u : Int32 × (Nat → Int32) × (Nat → Int32) × (Nat → Int64) × (Nat → Int32) × Int32 × Int32) (t : State) => RP D cy ad (rS (rS (rA (rJ (rA (rA (rS σ 3 u.1) 4 u.2.1) 5 u.2.2.1) 6 u.2.2.2.1) 7 u.2.2.2.2.1) 8 u.2.2.2.2.2.1) 9 u.2.2.2.2.2.2) t.heap) (AR cy ad sz)) 0 0 (AR cy ad sz) := by
  refine RM_of (loc0 := [(0, .ref (ad 0)), (1, .int k0)]) (by decide) rfl rfl (Nat.le_of_ble_eq_true rfl) ?_
  intro p e s m below meth c ls hsz C hP hS hl
  have hx := C.1
  have hb := C.2.1
  have hown := C.2.2.2.2.1
  have hw := C.2.2.2.2.2.1
  clear hsz
  obtain ⟨hpre_0, hpre_1, hpre_2, hpre_3, hpre_4, hpre_5, ⟨hpre_6, hpre_7, hpre_8⟩⟩ := hpre
  refine lv_iload_n hx hb dX12_number_0 rfl (lv_at hl 1 rfl) ?_
  refine lv_istore_n (lv' := [(2, .int k0), (0, .ref (ad 0)), (1, .int k0)]) hx hb dX12_number_1 rfl hl (by decide) rfl (fun ls hl => ?_)
  refine lv_lconst (v := 0) hx hb dX12_number_2 rfl ?_
  refine lv_lstore_n (lv' := [(3, .long 0), (2, .int k0), (0, .ref (ad 0)), (1, .int k0)]) hx hb dX12_number_3 rfl hl (by decide) rfl (fun ls hl => ?_)
  exact L_number_4_1 l D cy sz0 sa ad sz σ k0 C hpre_0 hpre_1 hpre_2 hpre_3 hpre_4 hpre_5 hpre_6 hpre_7 hpre_8 (((σ.1 1).toInt - k0.toInt).toNat + 1) k0 (0 : Int64) _ _ _ (Nat.lt_succ_self _) (v_number_1 σ k0 hpre_0 hpre_1 hpre_2 hpre_3 hpre_4 hpre_5 hpre_6 hpre_7 hpre_8) hP hS (lv_sub hl [0, 1, 2, 3] rfl)
