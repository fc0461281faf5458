-- nw@2 @2
theorem v_quoted_1 (σ : RS) (k0 : Int32) (x1 : Int32) (hpre_0 : 0 ≤ (σ.1 1).toInt) (hpre_1 : (σ.1 1).toInt ≤ 40) (hpre_2 : 0 ≤ (σ.1 3).toInt) (hpre_3 : (σ.1 3).toInt ≤ k0.toInt) (hpre_4 : k0.toInt < (σ.1 1).toInt) (hpre_5 : TKok (σ.2.1 4) (σ.2.2.1 6) (σ.2.1 7) (σ.1 3).toInt) (ex1 : x1 = k0 + (1 : Int32)) : x1.toInt = k0.toInt + 1 := by
  have q1 : (1 : Int32).toInt = 1 := by decide +kernel
  have w1 : (1 : Int32).toInt = 1 := by decide +kernel
  rw [ex1, z_add (by omega) (by omega)]; first | done | omega
-- init@6 @6
theorem v_quoted_2 (σ : RS) (k0 : Int32) (x1 : Int32) (hpre_0 : 0 ≤ (σ.1 1).toInt) (hpre_1 : (σ.1 1).toInt ≤ 40) (hpre_2 : 0 ≤ (σ.1 3).toInt) (hpre_3 : (σ.1 3).toInt ≤ k0.toInt) (hpre_4 : k0.toInt < (σ.1 1).toInt) (hpre_5 : TKok (σ.2.1 4) (σ.2.2.1 6) (σ.2.1 7) (σ.1 3).toInt) (ex1 : x1 = k0 + (1 : Int32)) (tx1 : x1.toInt = k0.toInt + 1) : k0.toInt < x1.toInt ∧ x1.toInt ≤ (σ.1 1).toInt := by
  have q1 : (1 : Int32).toInt = 1 := by decide +kernel
  refine ⟨?_, ?_⟩ <;> first | assumption | omega | (subst_vars; omega) | trivial
-- init2@6 @6
theorem v_quoted_3 (σ : RS) (k0 : Int32) (x1 : Int32) (hpre_0 : 0 ≤ (σ.1 1).toInt) (hpre_1 : (σ.1 1).toInt ≤ 40) (hpre_2 : 0 ≤ (σ.1 3).toInt) (hpre_3 : (σ.1 3).toInt ≤ k0.toInt) (hpre_4 : k0.toInt < (σ.1 1).toInt) (hpre_5 : TKok (σ.2.1 4) (σ.2.2.1 6) (σ.2.1 7) (σ.1 3).toInt) (hpre_6 : 0 ≤ (σ.1 8).toInt) (hpre_7 : (σ.1 8).toInt ≤ 3) (ex1 : x1 = k0 + (1 : Int32)) (tx1 : x1.toInt = k0.toInt + 1) : RT qt (tx (σ.2.1 2) (σ.1 1)) (k0.toInt + 1) x1.toInt ∧ x1.toInt - k0.toInt ≤ 9 := by
  have q1 : (1 : Int32).toInt = 1 := by decide +kernel
  exact ⟨RT.at (by omega), by omega⟩
-- pre:at@58 @58
theorem v_quoted_4 (σ : RS) (k0 : Int32) (x1 : Int32) (y2 : Int32) (hpre_0 : 0 ≤ (σ.1 1).toInt) (hpre_1 : (σ.1 1).toInt ≤ 40) (hpre_2 : 0 ≤ (σ.1 3).toInt) (hpre_3 : (σ.1 3).toInt ≤ k0.toInt) (hpre_4 : k0.toInt < (σ.1 1).toInt) (hpre_5 : TKok (σ.2.1 4) (σ.2.2.1 6) (σ.2.1 7) (σ.1 3).toInt) (ex1 : x1 = k0 + (1 : Int32)) (tx1 : x1.toInt = k0.toInt + 1) (hi6_0 : k0.toInt < y2.toInt) (hi6_1 : y2.toInt ≤ (σ.1 1).toInt) (c4 : (σ.1 1).toInt ≤ y2.toInt) : 0 ≤ (σ.1 1).toInt ∧ (σ.1 1).toInt ≤ 40 ∧ 0 ≤ y2.toInt := by
  have q1 : (1 : Int32).toInt = 1 := by decide +kernel
  refine ⟨?_, ?_, ?_⟩ <;> first | assumption | omega | (subst_vars; omega) | trivial
-- nw@83 @83
theorem v_quoted_5 (σ : RS) (k0 : Int32) (x1 : Int32) (y2 : Int32) (r5 : Int32) (x7 : Int32) (hpre_0 : 0 ≤ (σ.1 1).toInt) (hpre_1 : (σ.1 1).toInt ≤ 40) (hpre_2 : 0 ≤ (σ.1 3).toInt) (hpre_3 : (σ.1 3).toInt ≤ k0.toInt) (hpre_4 : k0.toInt < (σ.1 1).toInt) (hpre_5 : TKok (σ.2.1 4) (σ.2.2.1 6) (σ.2.1 7) (σ.1 3).toInt) (ex1 : x1 = k0 + (1 : Int32)) (tx1 : x1.toInt = k0.toInt + 1) (hi6_0 : k0.toInt < y2.toInt) (hi6_1 : y2.toInt ≤ (σ.1 1).toInt) (c4 : (σ.1 1).toInt ≤ y2.toInt) (hr5 : (y2.toInt < (σ.1 1).toInt ∧ r5.toInt = ((σ.2.1 2) y2.toNatClampNeg).toInt) ∨ ((σ.1 1).toInt ≤ y2.toInt ∧ r5.toInt = 0)) (c6 : r5.toInt = 39) (ex7 : x7 = y2 - k0) : x7.toInt = y2.toInt - k0.toInt := by
  have q1 : (1 : Int32).toInt = 1 := by decide +kernel
  rw [ex7, z_sub (by omega) (by omega)]; first | done | omega
-- nw@85 @85
theorem v_quoted_6 (σ : RS) (k0 : Int32) (x1 : Int32) (y2 : Int32) (r5 : Int32) (x7 : Int32) (x8 : Int32) (hpre_0 : 0 ≤ (σ.1 1).toInt) (hpre_1 : (σ.1 1).toInt ≤ 40) (hpre_2 : 0 ≤ (σ.1 3).toInt) (hpre_3 : (σ.1 3).toInt ≤ k0.toInt) (hpre_4 : k0.toInt < (σ.1 1).toInt) (hpre_5 : TKok (σ.2.1 4) (σ.2.2.1 6) (σ.2.1 7) (σ.1 3).toInt) (ex1 : x1 = k0 + (1 : Int32)) (tx1 : x1.toInt = k0.toInt + 1) (hi6_0 : k0.toInt < y2.toInt) (hi6_1 : y2.toInt ≤ (σ.1 1).toInt) (c4 : (σ.1 1).toInt ≤ y2.toInt) (hr5 : (y2.toInt < (σ.1 1).toInt ∧ r5.toInt = ((σ.2.1 2) y2.toNatClampNeg).toInt) ∨ ((σ.1 1).toInt ≤ y2.toInt ∧ r5.toInt = 0)) (c6 : r5.toInt = 39) (ex7 : x7 = y2 - k0) (tx7 : x7.toInt = y2.toInt - k0.toInt) (ex8 : x8 = x7 - (1 : Int32)) : x8.toInt = x7.toInt - 1 := by
  have q1 : (1 : Int32).toInt = 1 := by decide +kernel
  have w1 : (1 : Int32).toInt = 1 := by decide +kernel
  rw [ex8, z_sub (by omega) (by omega)]; first | done | omega
-- pre:add@91 @91
theorem v_quoted_7 (σ : RS) (k0 : Int32) (x1 : Int32) (y2 : Int32) (y3 : Int64) (x7 : Int32) (x8 : Int32) (x9 : Int64) (x10 : Int64) (x11 : Int64) (hpre_0 : 0 ≤ (σ.1 1).toInt) (hpre_1 : (σ.1 1).toInt ≤ 40) (hpre_2 : 0 ≤ (σ.1 3).toInt) (hpre_3 : (σ.1 3).toInt ≤ k0.toInt) (hpre_4 : k0.toInt < (σ.1 1).toInt) (hpre_5 : TKok (σ.2.1 4) (σ.2.2.1 6) (σ.2.1 7) (σ.1 3).toInt) (ex1 : x1 = k0 + (1 : Int32)) (tx1 : x1.toInt = k0.toInt + 1) (hi6_0 : k0.toInt < y2.toInt) (hi6_1 : y2.toInt ≤ (σ.1 1).toInt) (c4 : (σ.1 1).toInt ≤ y2.toInt) (ex7 : x7 = y2 - k0) (tx7 : x7.toInt = y2.toInt - k0.toInt) (ex8 : x8 = x7 - (1 : Int32)) (tx8 : x8.toInt = x7.toInt - 1) (ex9 : x9 = Int32.toInt64 x8) (tx9 : x9.toInt = x8.toInt) (ex10 : x10 = x9 <<< (Int32.toInt64 (56 : Int32) &&& 63)) (ex11 : x11 = y3 ||| x10) : 0 ≤ (σ.1 3).toInt ∧ (σ.1 3).toInt ≤ 41 := by
  have q1 : (1 : Int32).toInt = 1 := by decide +kernel
  have q56 : (56 : Int32).toInt = 56 := by decide +kernel
  refine ⟨?_, ?_⟩ <;> first | assumption | omega | (subst_vars; omega) | trivial
-- nw@96 @96
theorem v_quoted_8 (σ : RS) (k0 : Int32) (x1 : Int32) (y2 : Int32) (y3 : Int64) (r5 : Int32) (x7 : Int32) (x8 : Int32) (x9 : Int64) (x10 : Int64) (x11 : Int64) (n13 : Int32) (x14 : Int32) (hpre_0 : 0 ≤ (σ.1 1).toInt) (hpre_1 : (σ.1 1).toInt ≤ 40) (hpre_2 : 0 ≤ (σ.1 3).toInt) (hpre_3 : (σ.1 3).toInt ≤ k0.toInt) (hpre_4 : k0.toInt < (σ.1 1).toInt) (hpre_5 : TKok (σ.2.1 4) (σ.2.2.1 6) (σ.2.1 7) (σ.1 3).toInt) (ex1 : x1 = k0 + (1 : Int32)) (tx1 : x1.toInt = k0.toInt + 1) (hi6_0 : k0.toInt < y2.toInt) (hi6_1 : y2.toInt ≤ (σ.1 1).toInt) (c4 : (σ.1 1).toInt ≤ y2.toInt) (hr5 : (y2.toInt < (σ.1 1).toInt ∧ r5.toInt = ((σ.2.1 2) y2.toNatClampNeg).toInt) ∨ ((σ.1 1).toInt ≤ y2.toInt ∧ r5.toInt = 0)) (c6 : r5.toInt = 39) (ex7 : x7 = y2 - k0) (tx7 : x7.toInt = y2.toInt - k0.toInt) (ex8 : x8 = x7 - (1 : Int32)) (tx8 : x8.toInt = x7.toInt - 1) (ex9 : x9 = Int32.toInt64 x8) (tx9 : x9.toInt = x8.toInt) (ex10 : x10 = x9 <<< (Int32.toInt64 (56 : Int32) &&& 63)) (ex11 : x11 = y3 ||| x10) (hr12 : n13.toInt = (σ.1 3).toInt + 1) (ex14 : x14 = y2 + (1 : Int32)) : x14.toInt = y2.toInt + 1 := by
  have q1 : (1 : Int32).toInt = 1 := by decide +kernel
  have q56 : (56 : Int32).toInt = 56 := by decide +kernel
  have w1 : (1 : Int32).toInt = 1 := by decide +kernel
  rw [ex14, z_add (by omega) (by omega)]; first | done | omega
-- post @97
theorem v_quoted_9 (σ : RS) (k0 : Int32) (x1 : Int32) (y2 : Int32) (y3 : Int64) (r5 : Int32) (x7 : Int32) (x8 : Int32) (x9 : Int64) (x10 : Int64) (x11 : Int64) (n13 : Int32) (x14 : Int32) (hpre_0 : 0 ≤ (σ.1 1).toInt) (hpre_1 : (σ.1 1).toInt ≤ 40) (hpre_2 : 0 ≤ (σ.1 3).toInt) (hpre_3 : (σ.1 3).toInt ≤ k0.toInt) (hpre_4 : k0.toInt < (σ.1 1).toInt) (hpre_5 : TKok (σ.2.1 4) (σ.2.2.1 6) (σ.2.1 7) (σ.1 3).toInt) (hpre_6 : 0 ≤ (σ.1 8).toInt) (hpre_7 : (σ.1 8).toInt ≤ 3) (ex1 : x1 = k0 + (1 : Int32)) (tx1 : x1.toInt = k0.toInt + 1) (hi6_0 : k0.toInt < y2.toInt) (hi6_1 : y2.toInt ≤ (σ.1 1).toInt) (c4 : (σ.1 1).toInt ≤ y2.toInt) (hr5 : (y2.toInt < (σ.1 1).toInt ∧ r5.toInt = ((σ.2.1 2) y2.toNatClampNeg).toInt) ∨ ((σ.1 1).toInt ≤ y2.toInt ∧ r5.toInt = 0)) (c6 : r5.toInt = 39) (ex7 : x7 = y2 - k0) (tx7 : x7.toInt = y2.toInt - k0.toInt) (ex8 : x8 = x7 - (1 : Int32)) (tx8 : x8.toInt = x7.toInt - 1) (ex9 : x9 = Int32.toInt64 x8) (tx9 : x9.toInt = x8.toInt) (ex10 : x10 = x9 <<< (Int32.toInt64 (56 : Int32) &&& 63)) (ex11 : x11 = y3 ||| x10) (hr12 : n13.toInt = (σ.1 3).toInt + 1) (ex14 : x14 = y2 + (1 : Int32)) (tx14 : x14.toInt = y2.toInt + 1) : k0.toInt < x14.toInt ∧ x14.toInt ≤ (σ.1 1).toInt ∧ 0 ≤ n13.toInt ∧ n13.toInt ≤ x14.toInt ∧ TKok (upd (σ.2.1 4) (σ.1 3).toNatClampNeg (4 : Int32)) (vp_updL (σ.2.2.1 6) (σ.1 3).toNatClampNeg x11) (upd (σ.2.1 7) (σ.1 3).toNatClampNeg (0 : Int32)) n13.toInt ∧ 0 ≤ (σ.1 8).toInt ∧ (σ.1 8).toInt ≤ 3 := by
  have q0 : (0 : Int32).toInt = 0 := by decide +kernel
  have q1 : (1 : Int32).toInt = 1 := by decide +kernel
  have q4 : (4 : Int32).toInt = 4 := by decide +kernel
  have q56 : (56 : Int32).toInt = 56 := by decide +kernel
  have hz := hpre_5
  and_intros <;> first | exact hz | exact tk_add hz (by omega) (clampZ (by omega)) (by omega) (by omega) (by omega) | omega
-- post2 @97
theorem v_quoted_10 (σ : RS) (k0 : Int32) (x1 : Int32) (y2 : Int32) (y3 : Int64) (r5 : Int32) (x7 : Int32) (x8 : Int32) (x9 : Int64) (x10 : Int64) (x11 : Int64) (n13 : Int32) (x14 : Int32) (hpre_0 : 0 ≤ (σ.1 1).toInt) (hpre_1 : (σ.1 1).toInt ≤ 40) (hpre_2 : 0 ≤ (σ.1 3).toInt) (hpre_3 : (σ.1 3).toInt ≤ k0.toInt) (hpre_4 : k0.toInt < (σ.1 1).toInt) (hpre_5 : TKok (σ.2.1 4) (σ.2.2.1 6) (σ.2.1 7) (σ.1 3).toInt) (hpre_6 : 0 ≤ (σ.1 8).toInt) (hpre_7 : (σ.1 8).toInt ≤ 3) (ex1 : x1 = k0 + (1 : Int32)) (tx1 : x1.toInt = k0.toInt + 1) (hi6_0 : k0.toInt < y2.toInt) (hi6_1 : y2.toInt ≤ (σ.1 1).toInt) (hi6y_0 : RT qt (tx (σ.2.1 2) (σ.1 1)) (k0.toInt + 1) y2.toInt) (hi6y_1 : y2.toInt - k0.toInt ≤ 9) (c4 : (σ.1 1).toInt ≤ y2.toInt) (hr5y : r5.toInt = tx (σ.2.1 2) (σ.1 1) y2.toInt) (hr5 : (y2.toInt < (σ.1 1).toInt ∧ r5.toInt = ((σ.2.1 2) y2.toNatClampNeg).toInt) ∨ ((σ.1 1).toInt ≤ y2.toInt ∧ r5.toInt = 0)) (c6 : r5.toInt = 39) (ex7 : x7 = y2 - k0) (tx7 : x7.toInt = y2.toInt - k0.toInt) (ex8 : x8 = x7 - (1 : Int32)) (tx8 : x8.toInt = x7.toInt - 1) (ex9 : x9 = Int32.toInt64 x8) (tx9 : x9.toInt = x8.toInt) (ex10 : x10 = x9 <<< (Int32.toInt64 (56 : Int32) &&& 63)) (ex11 : x11 = y3 ||| x10) (hr12 : n13.toInt = (σ.1 3).toInt + 1) (ex14 : x14 = y2 + (1 : Int32)) (tx14 : x14.toInt = y2.toInt + 1) : (σ.1 8).toInt = 0 → tx (σ.2.1 2) (σ.1 1) k0.toInt = 39 → ∃ r9, TokR (tx (σ.2.1 2) (σ.1 1)) ((σ.1 1).toInt) k0.toInt r9 ∧ LXo (σ.2.1 4) (σ.2.2.1 6) (σ.2.1 5) (σ.1 3) (upd (σ.2.1 4) (σ.1 3).toNatClampNeg (4 : Int32)) (vp_updL (σ.2.2.1 6) (σ.1 3).toNatClampNeg x11) (upd (σ.2.1 5) (σ.1 3).toNatClampNeg k0) n13 (σ.1 8) (σ.1 9) k0.toInt x14.toInt r9 := by
  have q1 : (1 : Int32).toInt = 1 := by decide +kernel
  have q4 : (4 : Int32).toInt = 4 := by decide +kernel
  have q56 : (56 : Int32).toInt = 56 := by decide +kernel
  intro h0 h39
  simp only [clampN] at *
  exact ⟨_, quoN (e := y2.toInt) (by assumption) rfl (by omega) (by omega) (by omega) (by omega) (by omega), LXo_add (clampZ (by omega)) (by omega) (by omega) rfl (by first | rfl | decide | (simp [TCv]; done) | (unfold TCv; omega)) (by first | rfl | decide | (simp; done) | omega) rfl (by intro _; omega)⟩
-- post @76
theorem v_quoted_11 (σ : RS) (k0 : Int32) (x1 : Int32) (y2 : Int32) (r5 : Int32) (n16 : Int32) (hpre_0 : 0 ≤ (σ.1 1).toInt) (hpre_1 : (σ.1 1).toInt ≤ 40) (hpre_2 : 0 ≤ (σ.1 3).toInt) (hpre_3 : (σ.1 3).toInt ≤ k0.toInt) (hpre_4 : k0.toInt < (σ.1 1).toInt) (hpre_5 : TKok (σ.2.1 4) (σ.2.2.1 6) (σ.2.1 7) (σ.1 3).toInt) (hpre_6 : 0 ≤ (σ.1 8).toInt) (hpre_7 : (σ.1 8).toInt ≤ 3) (ex1 : x1 = k0 + (1 : Int32)) (tx1 : x1.toInt = k0.toInt + 1) (hi6_0 : k0.toInt < y2.toInt) (hi6_1 : y2.toInt ≤ (σ.1 1).toInt) (c4 : (σ.1 1).toInt ≤ y2.toInt) (hr5 : (y2.toInt < (σ.1 1).toInt ∧ r5.toInt = ((σ.2.1 2) y2.toNatClampNeg).toInt) ∨ ((σ.1 1).toInt ≤ y2.toInt ∧ r5.toInt = 0)) (c6 : ¬ r5.toInt = 39) (hr15_0 : (σ.1 8).toInt = 0 → n16.toInt = (1 : Int32).toInt) (hr15_1 : ¬ (σ.1 8).toInt = 0 → n16.toInt = (σ.1 8).toInt) : k0.toInt < (σ.1 1).toInt ∧ (σ.1 1).toInt ≤ (σ.1 1).toInt ∧ 0 ≤ (σ.1 3).toInt ∧ (σ.1 3).toInt ≤ (σ.1 1).toInt ∧ TKok (σ.2.1 4) (σ.2.2.1 6) (σ.2.1 7) (σ.1 3).toInt ∧ 0 ≤ n16.toInt ∧ n16.toInt ≤ 3 := by
  have q1 : (1 : Int32).toInt = 1 := by decide +kernel
  have hz := hpre_5
  and_intros <;> first | exact hz | exact tk_add hz (by omega) (clampZ (by omega)) (by omega) (by omega) (by omega) | omega
-- post2 @76
theorem v_quoted_12 (σ : RS) (k0 : Int32) (x1 : Int32) (y2 : Int32) (r5 : Int32) (n16 : Int32) (n17 : Int32) (hpre_0 : 0 ≤ (σ.1 1).toInt) (hpre_1 : (σ.1 1).toInt ≤ 40) (hpre_2 : 0 ≤ (σ.1 3).toInt) (hpre_3 : (σ.1 3).toInt ≤ k0.toInt) (hpre_4 : k0.toInt < (σ.1 1).toInt) (hpre_5 : TKok (σ.2.1 4) (σ.2.2.1 6) (σ.2.1 7) (σ.1 3).toInt) (hpre_6 : 0 ≤ (σ.1 8).toInt) (hpre_7 : (σ.1 8).toInt ≤ 3) (ex1 : x1 = k0 + (1 : Int32)) (tx1 : x1.toInt = k0.toInt + 1) (hi6_0 : k0.toInt < y2.toInt) (hi6_1 : y2.toInt ≤ (σ.1 1).toInt) (hi6y_0 : RT qt (tx (σ.2.1 2) (σ.1 1)) (k0.toInt + 1) y2.toInt) (hi6y_1 : y2.toInt - k0.toInt ≤ 9) (c4 : (σ.1 1).toInt ≤ y2.toInt) (hr5y : r5.toInt = tx (σ.2.1 2) (σ.1 1) y2.toInt) (hr5 : (y2.toInt < (σ.1 1).toInt ∧ r5.toInt = ((σ.2.1 2) y2.toNatClampNeg).toInt) ∨ ((σ.1 1).toInt ≤ y2.toInt ∧ r5.toInt = 0)) (c6 : ¬ r5.toInt = 39) (hr15y_0 : (σ.1 8).toInt = 0 → n17.toInt = k0.toInt) (hr15y_1 : ¬ (σ.1 8).toInt = 0 → n17.toInt = (σ.1 9).toInt) (hr15_0 : (σ.1 8).toInt = 0 → n16.toInt = (1 : Int32).toInt) (hr15_1 : ¬ (σ.1 8).toInt = 0 → n16.toInt = (σ.1 8).toInt) : (σ.1 8).toInt = 0 → tx (σ.2.1 2) (σ.1 1) k0.toInt = 39 → ∃ r9, TokR (tx (σ.2.1 2) (σ.1 1)) ((σ.1 1).toInt) k0.toInt r9 ∧ LXo (σ.2.1 4) (σ.2.2.1 6) (σ.2.1 5) (σ.1 3) (σ.2.1 4) (σ.2.2.1 6) (σ.2.1 5) (σ.1 3) n16 n17 k0.toInt (σ.1 1).toInt r9 := by
  have q1 : (1 : Int32).toInt = 1 := by decide +kernel
  intro h0 h39
  simp only [clampN] at *
  first
  | exact ⟨none, quoX (e := y2.toInt) (by assumption) rfl (by omega) (by omega) (by omega) (by omega), LXo_err (by omega) (by omega) rfl⟩
  | exact ⟨none, quoL (e := y2.toInt) (by assumption) rfl (by omega) (by omega) (by omega) (by omega), LXo_err (by omega) (by omega) rfl⟩
-- pre:at@16 @16
theorem v_quoted_13 (σ : RS) (k0 : Int32) (x1 : Int32) (y2 : Int32) (hpre_0 : 0 ≤ (σ.1 1).toInt) (hpre_1 : (σ.1 1).toInt ≤ 40) (hpre_2 : 0 ≤ (σ.1 3).toInt) (hpre_3 : (σ.1 3).toInt ≤ k0.toInt) (hpre_4 : k0.toInt < (σ.1 1).toInt) (hpre_5 : TKok (σ.2.1 4) (σ.2.2.1 6) (σ.2.1 7) (σ.1 3).toInt) (ex1 : x1 = k0 + (1 : Int32)) (tx1 : x1.toInt = k0.toInt + 1) (hi6_0 : k0.toInt < y2.toInt) (hi6_1 : y2.toInt ≤ (σ.1 1).toInt) (c4 : y2.toInt < (σ.1 1).toInt) : 0 ≤ (σ.1 1).toInt ∧ (σ.1 1).toInt ≤ 40 ∧ 0 ≤ y2.toInt := by
  have q1 : (1 : Int32).toInt = 1 := by decide +kernel
  refine ⟨?_, ?_, ?_⟩ <;> first | assumption | omega | (subst_vars; omega) | trivial
-- pre:at@58 @58
theorem v_quoted_14 (σ : RS) (k0 : Int32) (x1 : Int32) (y2 : Int32) (r18 : Int32) (hpre_0 : 0 ≤ (σ.1 1).toInt) (hpre_1 : (σ.1 1).toInt ≤ 40) (hpre_2 : 0 ≤ (σ.1 3).toInt) (hpre_3 : (σ.1 3).toInt ≤ k0.toInt) (hpre_4 : k0.toInt < (σ.1 1).toInt) (hpre_5 : TKok (σ.2.1 4) (σ.2.2.1 6) (σ.2.1 7) (σ.1 3).toInt) (ex1 : x1 = k0 + (1 : Int32)) (tx1 : x1.toInt = k0.toInt + 1) (hi6_0 : k0.toInt < y2.toInt) (hi6_1 : y2.toInt ≤ (σ.1 1).toInt) (c4 : y2.toInt < (σ.1 1).toInt) (hr18 : (y2.toInt < (σ.1 1).toInt ∧ r18.toInt = ((σ.2.1 2) y2.toNatClampNeg).toInt) ∨ ((σ.1 1).toInt ≤ y2.toInt ∧ r18.toInt = 0)) (c19 : r18.toInt = 39) : 0 ≤ (σ.1 1).toInt ∧ (σ.1 1).toInt ≤ 40 ∧ 0 ≤ y2.toInt := by
  have q1 : (1 : Int32).toInt = 1 := by decide +kernel
  refine ⟨?_, ?_, ?_⟩ <;> first | assumption | omega | (subst_vars; omega) | trivial
-- nw@83 @83
theorem v_quoted_15 (σ : RS) (k0 : Int32) (x1 : Int32) (y2 : Int32) (r18 : Int32) (r20 : Int32) (x22 : Int32) (hpre_0 : 0 ≤ (σ.1 1).toInt) (hpre_1 : (σ.1 1).toInt ≤ 40) (hpre_2 : 0 ≤ (σ.1 3).toInt) (hpre_3 : (σ.1 3).toInt ≤ k0.toInt) (hpre_4 : k0.toInt < (σ.1 1).toInt) (hpre_5 : TKok (σ.2.1 4) (σ.2.2.1 6) (σ.2.1 7) (σ.1 3).toInt) (ex1 : x1 = k0 + (1 : Int32)) (tx1 : x1.toInt = k0.toInt + 1) (hi6_0 : k0.toInt < y2.toInt) (hi6_1 : y2.toInt ≤ (σ.1 1).toInt) (c4 : y2.toInt < (σ.1 1).toInt) (hr18 : (y2.toInt < (σ.1 1).toInt ∧ r18.toInt = ((σ.2.1 2) y2.toNatClampNeg).toInt) ∨ ((σ.1 1).toInt ≤ y2.toInt ∧ r18.toInt = 0)) (c19 : r18.toInt = 39) (hr20 : (y2.toInt < (σ.1 1).toInt ∧ r20.toInt = ((σ.2.1 2) y2.toNatClampNeg).toInt) ∨ ((σ.1 1).toInt ≤ y2.toInt ∧ r20.toInt = 0)) (c21 : r20.toInt = 39) (ex22 : x22 = y2 - k0) : x22.toInt = y2.toInt - k0.toInt := by
  have q1 : (1 : Int32).toInt = 1 := by decide +kernel
  rw [ex22, z_sub (by omega) (by omega)]; first | done | omega
-- nw@85 @85
theorem v_quoted_16 (σ : RS) (k0 : Int32) (x1 : Int32) (y2 : Int32) (r18 : Int32) (r20 : Int32) (x22 : Int32) (x23 : Int32) (hpre_0 : 0 ≤ (σ.1 1).toInt) (hpre_1 : (σ.1 1).toInt ≤ 40) (hpre_2 : 0 ≤ (σ.1 3).toInt) (hpre_3 : (σ.1 3).toInt ≤ k0.toInt) (hpre_4 : k0.toInt < (σ.1 1).toInt) (hpre_5 : TKok (σ.2.1 4) (σ.2.2.1 6) (σ.2.1 7) (σ.1 3).toInt) (ex1 : x1 = k0 + (1 : Int32)) (tx1 : x1.toInt = k0.toInt + 1) (hi6_0 : k0.toInt < y2.toInt) (hi6_1 : y2.toInt ≤ (σ.1 1).toInt) (c4 : y2.toInt < (σ.1 1).toInt) (hr18 : (y2.toInt < (σ.1 1).toInt ∧ r18.toInt = ((σ.2.1 2) y2.toNatClampNeg).toInt) ∨ ((σ.1 1).toInt ≤ y2.toInt ∧ r18.toInt = 0)) (c19 : r18.toInt = 39) (hr20 : (y2.toInt < (σ.1 1).toInt ∧ r20.toInt = ((σ.2.1 2) y2.toNatClampNeg).toInt) ∨ ((σ.1 1).toInt ≤ y2.toInt ∧ r20.toInt = 0)) (c21 : r20.toInt = 39) (ex22 : x22 = y2 - k0) (tx22 : x22.toInt = y2.toInt - k0.toInt) (ex23 : x23 = x22 - (1 : Int32)) : x23.toInt = x22.toInt - 1 := by
  have q1 : (1 : Int32).toInt = 1 := by decide +kernel
  have w1 : (1 : Int32).toInt = 1 := by decide +kernel
  rw [ex23, z_sub (by omega) (by omega)]; first | done | omega
-- pre:add@91 @91
theorem v_quoted_17 (σ : RS) (k0 : Int32) (x1 : Int32) (y2 : Int32) (y3 : Int64) (x22 : Int32) (x23 : Int32) (x24 : Int64) (x25 : Int64) (x26 : Int64) (hpre_0 : 0 ≤ (σ.1 1).toInt) (hpre_1 : (σ.1 1).toInt ≤ 40) (hpre_2 : 0 ≤ (σ.1 3).toInt) (hpre_3 : (σ.1 3).toInt ≤ k0.toInt) (hpre_4 : k0.toInt < (σ.1 1).toInt) (hpre_5 : TKok (σ.2.1 4) (σ.2.2.1 6) (σ.2.1 7) (σ.1 3).toInt) (ex1 : x1 = k0 + (1 : Int32)) (tx1 : x1.toInt = k0.toInt + 1) (hi6_0 : k0.toInt < y2.toInt) (hi6_1 : y2.toInt ≤ (σ.1 1).toInt) (c4 : y2.toInt < (σ.1 1).toInt) (ex22 : x22 = y2 - k0) (tx22 : x22.toInt = y2.toInt - k0.toInt) (ex23 : x23 = x22 - (1 : Int32)) (tx23 : x23.toInt = x22.toInt - 1) (ex24 : x24 = Int32.toInt64 x23) (tx24 : x24.toInt = x23.toInt) (ex25 : x25 = x24 <<< (Int32.toInt64 (56 : Int32) &&& 63)) (ex26 : x26 = y3 ||| x25) : 0 ≤ (σ.1 3).toInt ∧ (σ.1 3).toInt ≤ 41 := by
  have q1 : (1 : Int32).toInt = 1 := by decide +kernel
  have q56 : (56 : Int32).toInt = 56 := by decide +kernel
  refine ⟨?_, ?_⟩ <;> first | assumption | omega | (subst_vars; omega) | trivial
-- nw@96 @96
theorem v_quoted_18 (σ : RS) (k0 : Int32) (x1 : Int32) (y2 : Int32) (y3 : Int64) (r18 : Int32) (r20 : Int32) (x22 : Int32) (x23 : Int32) (x24 : Int64) (x25 : Int64) (x26 : Int64) (n28 : Int32) (x29 : Int32) (hpre_0 : 0 ≤ (σ.1 1).toInt) (hpre_1 : (σ.1 1).toInt ≤ 40) (hpre_2 : 0 ≤ (σ.1 3).toInt) (hpre_3 : (σ.1 3).toInt ≤ k0.toInt) (hpre_4 : k0.toInt < (σ.1 1).toInt) (hpre_5 : TKok (σ.2.1 4) (σ.2.2.1 6) (σ.2.1 7) (σ.1 3).toInt) (ex1 : x1 = k0 + (1 : Int32)) (tx1 : x1.toInt = k0.toInt + 1) (hi6_0 : k0.toInt < y2.toInt) (hi6_1 : y2.toInt ≤ (σ.1 1).toInt) (c4 : y2.toInt < (σ.1 1).toInt) (hr18 : (y2.toInt < (σ.1 1).toInt ∧ r18.toInt = ((σ.2.1 2) y2.toNatClampNeg).toInt) ∨ ((σ.1 1).toInt ≤ y2.toInt ∧ r18.toInt = 0)) (c19 : r18.toInt = 39) (hr20 : (y2.toInt < (σ.1 1).toInt ∧ r20.toInt = ((σ.2.1 2) y2.toNatClampNeg).toInt) ∨ ((σ.1 1).toInt ≤ y2.toInt ∧ r20.toInt = 0)) (c21 : r20.toInt = 39) (ex22 : x22 = y2 - k0) (tx22 : x22.toInt = y2.toInt - k0.toInt) (ex23 : x23 = x22 - (1 : Int32)) (tx23 : x23.toInt = x22.toInt - 1) (ex24 : x24 = Int32.toInt64 x23) (tx24 : x24.toInt = x23.toInt) (ex25 : x25 = x24 <<< (Int32.toInt64 (56 : Int32) &&& 63)) (ex26 : x26 = y3 ||| x25) (hr27 : n28.toInt = (σ.1 3).toInt + 1) (ex29 : x29 = y2 + (1 : Int32)) : x29.toInt = y2.toInt + 1 := by
  have q1 : (1 : Int32).toInt = 1 := by decide +kernel
  have q56 : (56 : Int32).toInt = 56 := by decide +kernel
  have w1 : (1 : Int32).toInt = 1 := by decide +kernel
  rw [ex29, z_add (by omega) (by omega)]; first | done | omega
-- post @97
theorem v_quoted_19 (σ : RS) (k0 : Int32) (x1 : Int32) (y2 : Int32) (y3 : Int64) (r18 : Int32) (r20 : Int32) (x22 : Int32) (x23 : Int32) (x24 : Int64) (x25 : Int64) (x26 : Int64) (n28 : Int32) (x29 : Int32) (hpre_0 : 0 ≤ (σ.1 1).toInt) (hpre_1 : (σ.1 1).toInt ≤ 40) (hpre_2 : 0 ≤ (σ.1 3).toInt) (hpre_3 : (σ.1 3).toInt ≤ k0.toInt) (hpre_4 : k0.toInt < (σ.1 1).toInt) (hpre_5 : TKok (σ.2.1 4) (σ.2.2.1 6) (σ.2.1 7) (σ.1 3).toInt) (hpre_6 : 0 ≤ (σ.1 8).toInt) (hpre_7 : (σ.1 8).toInt ≤ 3) (ex1 : x1 = k0 + (1 : Int32)) (tx1 : x1.toInt = k0.toInt + 1) (hi6_0 : k0.toInt < y2.toInt) (hi6_1 : y2.toInt ≤ (σ.1 1).toInt) (c4 : y2.toInt < (σ.1 1).toInt) (hr18 : (y2.toInt < (σ.1 1).toInt ∧ r18.toInt = ((σ.2.1 2) y2.toNatClampNeg).toInt) ∨ ((σ.1 1).toInt ≤ y2.toInt ∧ r18.toInt = 0)) (c19 : r18.toInt = 39) (hr20 : (y2.toInt < (σ.1 1).toInt ∧ r20.toInt = ((σ.2.1 2) y2.toNatClampNeg).toInt) ∨ ((σ.1 1).toInt ≤ y2.toInt ∧ r20.toInt = 0)) (c21 : r20.toInt = 39) (ex22 : x22 = y2 - k0) (tx22 : x22.toInt = y2.toInt - k0.toInt) (ex23 : x23 = x22 - (1 : Int32)) (tx23 : x23.toInt = x22.toInt - 1) (ex24 : x24 = Int32.toInt64 x23) (tx24 : x24.toInt = x23.toInt) (ex25 : x25 = x24 <<< (Int32.toInt64 (56 : Int32) &&& 63)) (ex26 : x26 = y3 ||| x25) (hr27 : n28.toInt = (σ.1 3).toInt + 1) (ex29 : x29 = y2 + (1 : Int32)) (tx29 : x29.toInt = y2.toInt + 1) : k0.toInt < x29.toInt ∧ x29.toInt ≤ (σ.1 1).toInt ∧ 0 ≤ n28.toInt ∧ n28.toInt ≤ x29.toInt ∧ TKok (upd (σ.2.1 4) (σ.1 3).toNatClampNeg (4 : Int32)) (vp_updL (σ.2.2.1 6) (σ.1 3).toNatClampNeg x26) (upd (σ.2.1 7) (σ.1 3).toNatClampNeg (0 : Int32)) n28.toInt ∧ 0 ≤ (σ.1 8).toInt ∧ (σ.1 8).toInt ≤ 3 := by
  have q0 : (0 : Int32).toInt = 0 := by decide +kernel
  have q1 : (1 : Int32).toInt = 1 := by decide +kernel
  have q4 : (4 : Int32).toInt = 4 := by decide +kernel
  have q56 : (56 : Int32).toInt = 56 := by decide +kernel
  have hz := hpre_5
  and_intros <;> first | exact hz | exact tk_add hz (by omega) (clampZ (by omega)) (by omega) (by omega) (by omega) | omega
-- post2 @97
theorem v_quoted_20 (σ : RS) (k0 : Int32) (x1 : Int32) (y2 : Int32) (y3 : Int64) (r18 : Int32) (r20 : Int32) (x22 : Int32) (x23 : Int32) (x24 : Int64) (x25 : Int64) (x26 : Int64) (n28 : Int32) (x29 : Int32) (hpre_0 : 0 ≤ (σ.1 1).toInt) (hpre_1 : (σ.1 1).toInt ≤ 40) (hpre_2 : 0 ≤ (σ.1 3).toInt) (hpre_3 : (σ.1 3).toInt ≤ k0.toInt) (hpre_4 : k0.toInt < (σ.1 1).toInt) (hpre_5 : TKok (σ.2.1 4) (σ.2.2.1 6) (σ.2.1 7) (σ.1 3).toInt) (hpre_6 : 0 ≤ (σ.1 8).toInt) (hpre_7 : (σ.1 8).toInt ≤ 3) (ex1 : x1 = k0 + (1 : Int32)) (tx1 : x1.toInt = k0.toInt + 1) (hi6_0 : k0.toInt < y2.toInt) (hi6_1 : y2.toInt ≤ (σ.1 1).toInt) (hi6y_0 : RT qt (tx (σ.2.1 2) (σ.1 1)) (k0.toInt + 1) y2.toInt) (hi6y_1 : y2.toInt - k0.toInt ≤ 9) (c4 : y2.toInt < (σ.1 1).toInt) (hr18y : r18.toInt = tx (σ.2.1 2) (σ.1 1) y2.toInt) (hr18 : (y2.toInt < (σ.1 1).toInt ∧ r18.toInt = ((σ.2.1 2) y2.toNatClampNeg).toInt) ∨ ((σ.1 1).toInt ≤ y2.toInt ∧ r18.toInt = 0)) (c19 : r18.toInt = 39) (hr20y : r20.toInt = tx (σ.2.1 2) (σ.1 1) y2.toInt) (hr20 : (y2.toInt < (σ.1 1).toInt ∧ r20.toInt = ((σ.2.1 2) y2.toNatClampNeg).toInt) ∨ ((σ.1 1).toInt ≤ y2.toInt ∧ r20.toInt = 0)) (c21 : r20.toInt = 39) (ex22 : x22 = y2 - k0) (tx22 : x22.toInt = y2.toInt - k0.toInt) (ex23 : x23 = x22 - (1 : Int32)) (tx23 : x23.toInt = x22.toInt - 1) (ex24 : x24 = Int32.toInt64 x23) (tx24 : x24.toInt = x23.toInt) (ex25 : x25 = x24 <<< (Int32.toInt64 (56 : Int32) &&& 63)) (ex26 : x26 = y3 ||| x25) (hr27 : n28.toInt = (σ.1 3).toInt + 1) (ex29 : x29 = y2 + (1 : Int32)) (tx29 : x29.toInt = y2.toInt + 1) : (σ.1 8).toInt = 0 → tx (σ.2.1 2) (σ.1 1) k0.toInt = 39 → ∃ r9, TokR (tx (σ.2.1 2) (σ.1 1)) ((σ.1 1).toInt) k0.toInt r9 ∧ LXo (σ.2.1 4) (σ.2.2.1 6) (σ.2.1 5) (σ.1 3) (upd (σ.2.1 4) (σ.1 3).toNatClampNeg (4 : Int32)) (vp_updL (σ.2.2.1 6) (σ.1 3).toNatClampNeg x26) (upd (σ.2.1 5) (σ.1 3).toNatClampNeg k0) n28 (σ.1 8) (σ.1 9) k0.toInt x29.toInt r9 := by
  have q1 : (1 : Int32).toInt = 1 := by decide +kernel
  have q4 : (4 : Int32).toInt = 4 := by decide +kernel
  have q56 : (56 : Int32).toInt = 56 := by decide +kernel
  intro h0 h39
  simp only [clampN] at *
  exact ⟨_, quoN (e := y2.toInt) (by assumption) rfl (by omega) (by omega) (by omega) (by omega) (by omega), LXo_add (clampZ (by omega)) (by omega) (by omega) rfl (by first | rfl | decide | (simp [TCv]; done) | (unfold TCv; omega)) (by first | rfl | decide | (simp; done) | omega) rfl (by intro _; omega)⟩
-- post @76
theorem v_quoted_21 (σ : RS) (k0 : Int32) (x1 : Int32) (y2 : Int32) (r18 : Int32) (r20 : Int32) (n31 : Int32) (hpre_0 : 0 ≤ (σ.1 1).toInt) (hpre_1 : (σ.1 1).toInt ≤ 40) (hpre_2 : 0 ≤ (σ.1 3).toInt) (hpre_3 : (σ.1 3).toInt ≤ k0.toInt) (hpre_4 : k0.toInt < (σ.1 1).toInt) (hpre_5 : TKok (σ.2.1 4) (σ.2.2.1 6) (σ.2.1 7) (σ.1 3).toInt) (hpre_6 : 0 ≤ (σ.1 8).toInt) (hpre_7 : (σ.1 8).toInt ≤ 3) (ex1 : x1 = k0 + (1 : Int32)) (tx1 : x1.toInt = k0.toInt + 1) (hi6_0 : k0.toInt < y2.toInt) (hi6_1 : y2.toInt ≤ (σ.1 1).toInt) (c4 : y2.toInt < (σ.1 1).toInt) (hr18 : (y2.toInt < (σ.1 1).toInt ∧ r18.toInt = ((σ.2.1 2) y2.toNatClampNeg).toInt) ∨ ((σ.1 1).toInt ≤ y2.toInt ∧ r18.toInt = 0)) (c19 : r18.toInt = 39) (hr20 : (y2.toInt < (σ.1 1).toInt ∧ r20.toInt = ((σ.2.1 2) y2.toNatClampNeg).toInt) ∨ ((σ.1 1).toInt ≤ y2.toInt ∧ r20.toInt = 0)) (c21 : ¬ r20.toInt = 39) (hr30_0 : (σ.1 8).toInt = 0 → n31.toInt = (1 : Int32).toInt) (hr30_1 : ¬ (σ.1 8).toInt = 0 → n31.toInt = (σ.1 8).toInt) : k0.toInt < (σ.1 1).toInt ∧ (σ.1 1).toInt ≤ (σ.1 1).toInt ∧ 0 ≤ (σ.1 3).toInt ∧ (σ.1 3).toInt ≤ (σ.1 1).toInt ∧ TKok (σ.2.1 4) (σ.2.2.1 6) (σ.2.1 7) (σ.1 3).toInt ∧ 0 ≤ n31.toInt ∧ n31.toInt ≤ 3 := by
  have q1 : (1 : Int32).toInt = 1 := by decide +kernel
  have hz := hpre_5
  and_intros <;> first | exact hz | exact tk_add hz (by omega) (clampZ (by omega)) (by omega) (by omega) (by omega) | omega
-- post2 @76
theorem v_quoted_22 (σ : RS) (k0 : Int32) (x1 : Int32) (y2 : Int32) (r18 : Int32) (r20 : Int32) (n31 : Int32) (n32 : Int32) (hpre_0 : 0 ≤ (σ.1 1).toInt) (hpre_1 : (σ.1 1).toInt ≤ 40) (hpre_2 : 0 ≤ (σ.1 3).toInt) (hpre_3 : (σ.1 3).toInt ≤ k0.toInt) (hpre_4 : k0.toInt < (σ.1 1).toInt) (hpre_5 : TKok (σ.2.1 4) (σ.2.2.1 6) (σ.2.1 7) (σ.1 3).toInt) (hpre_6 : 0 ≤ (σ.1 8).toInt) (hpre_7 : (σ.1 8).toInt ≤ 3) (ex1 : x1 = k0 + (1 : Int32)) (tx1 : x1.toInt = k0.toInt + 1) (hi6_0 : k0.toInt < y2.toInt) (hi6_1 : y2.toInt ≤ (σ.1 1).toInt) (hi6y_0 : RT qt (tx (σ.2.1 2) (σ.1 1)) (k0.toInt + 1) y2.toInt) (hi6y_1 : y2.toInt - k0.toInt ≤ 9) (c4 : y2.toInt < (σ.1 1).toInt) (hr18y : r18.toInt = tx (σ.2.1 2) (σ.1 1) y2.toInt) (hr18 : (y2.toInt < (σ.1 1).toInt ∧ r18.toInt = ((σ.2.1 2) y2.toNatClampNeg).toInt) ∨ ((σ.1 1).toInt ≤ y2.toInt ∧ r18.toInt = 0)) (c19 : r18.toInt = 39) (hr20y : r20.toInt = tx (σ.2.1 2) (σ.1 1) y2.toInt) (hr20 : (y2.toInt < (σ.1 1).toInt ∧ r20.toInt = ((σ.2.1 2) y2.toNatClampNeg).toInt) ∨ ((σ.1 1).toInt ≤ y2.toInt ∧ r20.toInt = 0)) (c21 : ¬ r20.toInt = 39) (hr30y_0 : (σ.1 8).toInt = 0 → n32.toInt = k0.toInt) (hr30y_1 : ¬ (σ.1 8).toInt = 0 → n32.toInt = (σ.1 9).toInt) (hr30_0 : (σ.1 8).toInt = 0 → n31.toInt = (1 : Int32).toInt) (hr30_1 : ¬ (σ.1 8).toInt = 0 → n31.toInt = (σ.1 8).toInt) : (σ.1 8).toInt = 0 → tx (σ.2.1 2) (σ.1 1) k0.toInt = 39 → ∃ r9, TokR (tx (σ.2.1 2) (σ.1 1)) ((σ.1 1).toInt) k0.toInt r9 ∧ LXo (σ.2.1 4) (σ.2.2.1 6) (σ.2.1 5) (σ.1 3) (σ.2.1 4) (σ.2.2.1 6) (σ.2.1 5) (σ.1 3) n31 n32 k0.toInt (σ.1 1).toInt r9 := by
  have q1 : (1 : Int32).toInt = 1 := by decide +kernel
  intro h0 h39
  simp only [clampN] at *
  first
  | exact ⟨none, quoX (e := y2.toInt) (by assumption) rfl (by omega) (by omega) (by omega) (by omega), LXo_err (by omega) (by omega) rfl⟩
  | exact ⟨none, quoL (e := y2.toInt) (by assumption) rfl (by omega) (by omega) (by omega) (by omega), LXo_err (by omega) (by omega) rfl⟩
-- nw@26 @26
theorem v_quoted_23 (σ : RS) (k0 : Int32) (x1 : Int32) (y2 : Int32) (r18 : Int32) (x33 : Int32) (hpre_0 : 0 ≤ (σ.1 1).toInt) (hpre_1 : (σ.1 1).toInt ≤ 40) (hpre_2 : 0 ≤ (σ.1 3).toInt) (hpre_3 : (σ.1 3).toInt ≤ k0.toInt) (hpre_4 : k0.toInt < (σ.1 1).toInt) (hpre_5 : TKok (σ.2.1 4) (σ.2.2.1 6) (σ.2.1 7) (σ.1 3).toInt) (ex1 : x1 = k0 + (1 : Int32)) (tx1 : x1.toInt = k0.toInt + 1) (hi6_0 : k0.toInt < y2.toInt) (hi6_1 : y2.toInt ≤ (σ.1 1).toInt) (c4 : y2.toInt < (σ.1 1).toInt) (hr18 : (y2.toInt < (σ.1 1).toInt ∧ r18.toInt = ((σ.2.1 2) y2.toNatClampNeg).toInt) ∨ ((σ.1 1).toInt ≤ y2.toInt ∧ r18.toInt = 0)) (c19 : ¬ r18.toInt = 39) (ex33 : x33 = y2 - k0) : x33.toInt = y2.toInt - k0.toInt := by
  have q1 : (1 : Int32).toInt = 1 := by decide +kernel
  rw [ex33, z_sub (by omega) (by omega)]; first | done | omega
-- pre:at@58 @58
theorem v_quoted_24 (σ : RS) (k0 : Int32) (x1 : Int32) (y2 : Int32) (r18 : Int32) (x33 : Int32) (hpre_0 : 0 ≤ (σ.1 1).toInt) (hpre_1 : (σ.1 1).toInt ≤ 40) (hpre_2 : 0 ≤ (σ.1 3).toInt) (hpre_3 : (σ.1 3).toInt ≤ k0.toInt) (hpre_4 : k0.toInt < (σ.1 1).toInt) (hpre_5 : TKok (σ.2.1 4) (σ.2.2.1 6) (σ.2.1 7) (σ.1 3).toInt) (ex1 : x1 = k0 + (1 : Int32)) (tx1 : x1.toInt = k0.toInt + 1) (hi6_0 : k0.toInt < y2.toInt) (hi6_1 : y2.toInt ≤ (σ.1 1).toInt) (c4 : y2.toInt < (σ.1 1).toInt) (hr18 : (y2.toInt < (σ.1 1).toInt ∧ r18.toInt = ((σ.2.1 2) y2.toNatClampNeg).toInt) ∨ ((σ.1 1).toInt ≤ y2.toInt ∧ r18.toInt = 0)) (c19 : ¬ r18.toInt = 39) (ex33 : x33 = y2 - k0) (tx33 : x33.toInt = y2.toInt - k0.toInt) (c34 : 8 < x33.toInt) : 0 ≤ (σ.1 1).toInt ∧ (σ.1 1).toInt ≤ 40 ∧ 0 ≤ y2.toInt := by
  have q1 : (1 : Int32).toInt = 1 := by decide +kernel
  refine ⟨?_, ?_, ?_⟩ <;> first | assumption | omega | (subst_vars; omega) | trivial
-- nw@83 @83
theorem v_quoted_25 (σ : RS) (k0 : Int32) (x1 : Int32) (y2 : Int32) (r18 : Int32) (x33 : Int32) (r35 : Int32) (x37 : Int32) (hpre_0 : 0 ≤ (σ.1 1).toInt) (hpre_1 : (σ.1 1).toInt ≤ 40) (hpre_2 : 0 ≤ (σ.1 3).toInt) (hpre_3 : (σ.1 3).toInt ≤ k0.toInt) (hpre_4 : k0.toInt < (σ.1 1).toInt) (hpre_5 : TKok (σ.2.1 4) (σ.2.2.1 6) (σ.2.1 7) (σ.1 3).toInt) (ex1 : x1 = k0 + (1 : Int32)) (tx1 : x1.toInt = k0.toInt + 1) (hi6_0 : k0.toInt < y2.toInt) (hi6_1 : y2.toInt ≤ (σ.1 1).toInt) (c4 : y2.toInt < (σ.1 1).toInt) (hr18 : (y2.toInt < (σ.1 1).toInt ∧ r18.toInt = ((σ.2.1 2) y2.toNatClampNeg).toInt) ∨ ((σ.1 1).toInt ≤ y2.toInt ∧ r18.toInt = 0)) (c19 : ¬ r18.toInt = 39) (ex33 : x33 = y2 - k0) (tx33 : x33.toInt = y2.toInt - k0.toInt) (c34 : 8 < x33.toInt) (hr35 : (y2.toInt < (σ.1 1).toInt ∧ r35.toInt = ((σ.2.1 2) y2.toNatClampNeg).toInt) ∨ ((σ.1 1).toInt ≤ y2.toInt ∧ r35.toInt = 0)) (c36 : r35.toInt = 39) (ex37 : x37 = y2 - k0) : x37.toInt = y2.toInt - k0.toInt := by
  have q1 : (1 : Int32).toInt = 1 := by decide +kernel
  rw [ex37, z_sub (by omega) (by omega)]; first | done | omega
-- nw@85 @85
theorem v_quoted_26 (σ : RS) (k0 : Int32) (x1 : Int32) (y2 : Int32) (r18 : Int32) (x33 : Int32) (r35 : Int32) (x37 : Int32) (x38 : Int32) (hpre_0 : 0 ≤ (σ.1 1).toInt) (hpre_1 : (σ.1 1).toInt ≤ 40) (hpre_2 : 0 ≤ (σ.1 3).toInt) (hpre_3 : (σ.1 3).toInt ≤ k0.toInt) (hpre_4 : k0.toInt < (σ.1 1).toInt) (hpre_5 : TKok (σ.2.1 4) (σ.2.2.1 6) (σ.2.1 7) (σ.1 3).toInt) (ex1 : x1 = k0 + (1 : Int32)) (tx1 : x1.toInt = k0.toInt + 1) (hi6_0 : k0.toInt < y2.toInt) (hi6_1 : y2.toInt ≤ (σ.1 1).toInt) (c4 : y2.toInt < (σ.1 1).toInt) (hr18 : (y2.toInt < (σ.1 1).toInt ∧ r18.toInt = ((σ.2.1 2) y2.toNatClampNeg).toInt) ∨ ((σ.1 1).toInt ≤ y2.toInt ∧ r18.toInt = 0)) (c19 : ¬ r18.toInt = 39) (ex33 : x33 = y2 - k0) (tx33 : x33.toInt = y2.toInt - k0.toInt) (c34 : 8 < x33.toInt) (hr35 : (y2.toInt < (σ.1 1).toInt ∧ r35.toInt = ((σ.2.1 2) y2.toNatClampNeg).toInt) ∨ ((σ.1 1).toInt ≤ y2.toInt ∧ r35.toInt = 0)) (c36 : r35.toInt = 39) (ex37 : x37 = y2 - k0) (tx37 : x37.toInt = y2.toInt - k0.toInt) (ex38 : x38 = x37 - (1 : Int32)) : x38.toInt = x37.toInt - 1 := by
  have q1 : (1 : Int32).toInt = 1 := by decide +kernel
  have w1 : (1 : Int32).toInt = 1 := by decide +kernel
  rw [ex38, z_sub (by omega) (by omega)]; first | done | omega
-- pre:add@91 @91
theorem v_quoted_27 (σ : RS) (k0 : Int32) (x1 : Int32) (y2 : Int32) (y3 : Int64) (x33 : Int32) (x37 : Int32) (x38 : Int32) (x39 : Int64) (x40 : Int64) (x41 : Int64) (hpre_0 : 0 ≤ (σ.1 1).toInt) (hpre_1 : (σ.1 1).toInt ≤ 40) (hpre_2 : 0 ≤ (σ.1 3).toInt) (hpre_3 : (σ.1 3).toInt ≤ k0.toInt) (hpre_4 : k0.toInt < (σ.1 1).toInt) (hpre_5 : TKok (σ.2.1 4) (σ.2.2.1 6) (σ.2.1 7) (σ.1 3).toInt) (ex1 : x1 = k0 + (1 : Int32)) (tx1 : x1.toInt = k0.toInt + 1) (hi6_0 : k0.toInt < y2.toInt) (hi6_1 : y2.toInt ≤ (σ.1 1).toInt) (c4 : y2.toInt < (σ.1 1).toInt) (ex33 : x33 = y2 - k0) (tx33 : x33.toInt = y2.toInt - k0.toInt) (c34 : 8 < x33.toInt) (ex37 : x37 = y2 - k0) (tx37 : x37.toInt = y2.toInt - k0.toInt) (ex38 : x38 = x37 - (1 : Int32)) (tx38 : x38.toInt = x37.toInt - 1) (ex39 : x39 = Int32.toInt64 x38) (tx39 : x39.toInt = x38.toInt) (ex40 : x40 = x39 <<< (Int32.toInt64 (56 : Int32) &&& 63)) (ex41 : x41 = y3 ||| x40) : 0 ≤ (σ.1 3).toInt ∧ (σ.1 3).toInt ≤ 41 := by
  have q1 : (1 : Int32).toInt = 1 := by decide +kernel
  have q56 : (56 : Int32).toInt = 56 := by decide +kernel
  refine ⟨?_, ?_⟩ <;> first | assumption | omega | (subst_vars; omega) | trivial
-- nw@96 @96
theorem v_quoted_28 (σ : RS) (k0 : Int32) (x1 : Int32) (y2 : Int32) (y3 : Int64) (r18 : Int32) (x33 : Int32) (r35 : Int32) (x37 : Int32) (x38 : Int32) (x39 : Int64) (x40 : Int64) (x41 : Int64) (n43 : Int32) (x44 : Int32) (hpre_0 : 0 ≤ (σ.1 1).toInt) (hpre_1 : (σ.1 1).toInt ≤ 40) (hpre_2 : 0 ≤ (σ.1 3).toInt) (hpre_3 : (σ.1 3).toInt ≤ k0.toInt) (hpre_4 : k0.toInt < (σ.1 1).toInt) (hpre_5 : TKok (σ.2.1 4) (σ.2.2.1 6) (σ.2.1 7) (σ.1 3).toInt) (ex1 : x1 = k0 + (1 : Int32)) (tx1 : x1.toInt = k0.toInt + 1) (hi6_0 : k0.toInt < y2.toInt) (hi6_1 : y2.toInt ≤ (σ.1 1).toInt) (c4 : y2.toInt < (σ.1 1).toInt) (hr18 : (y2.toInt < (σ.1 1).toInt ∧ r18.toInt = ((σ.2.1 2) y2.toNatClampNeg).toInt) ∨ ((σ.1 1).toInt ≤ y2.toInt ∧ r18.toInt = 0)) (c19 : ¬ r18.toInt = 39) (ex33 : x33 = y2 - k0) (tx33 : x33.toInt = y2.toInt - k0.toInt) (c34 : 8 < x33.toInt) (hr35 : (y2.toInt < (σ.1 1).toInt ∧ r35.toInt = ((σ.2.1 2) y2.toNatClampNeg).toInt) ∨ ((σ.1 1).toInt ≤ y2.toInt ∧ r35.toInt = 0)) (c36 : r35.toInt = 39) (ex37 : x37 = y2 - k0) (tx37 : x37.toInt = y2.toInt - k0.toInt) (ex38 : x38 = x37 - (1 : Int32)) (tx38 : x38.toInt = x37.toInt - 1) (ex39 : x39 = Int32.toInt64 x38) (tx39 : x39.toInt = x38.toInt) (ex40 : x40 = x39 <<< (Int32.toInt64 (56 : Int32) &&& 63)) (ex41 : x41 = y3 ||| x40) (hr42 : n43.toInt = (σ.1 3).toInt + 1) (ex44 : x44 = y2 + (1 : Int32)) : x44.toInt = y2.toInt + 1 := by
  have q1 : (1 : Int32).toInt = 1 := by decide +kernel
  have q56 : (56 : Int32).toInt = 56 := by decide +kernel
  have w1 : (1 : Int32).toInt = 1 := by decide +kernel
  rw [ex44, z_add (by omega) (by omega)]; first | done | omega
-- post @97
theorem v_quoted_29 (σ : RS) (k0 : Int32) (x1 : Int32) (y2 : Int32) (y3 : Int64) (r18 : Int32) (x33 : Int32) (r35 : Int32) (x37 : Int32) (x38 : Int32) (x39 : Int64) (x40 : Int64) (x41 : Int64) (n43 : Int32) (x44 : Int32) (hpre_0 : 0 ≤ (σ.1 1).toInt) (hpre_1 : (σ.1 1).toInt ≤ 40) (hpre_2 : 0 ≤ (σ.1 3).toInt) (hpre_3 : (σ.1 3).toInt ≤ k0.toInt) (hpre_4 : k0.toInt < (σ.1 1).toInt) (hpre_5 : TKok (σ.2.1 4) (σ.2.2.1 6) (σ.2.1 7) (σ.1 3).toInt) (hpre_6 : 0 ≤ (σ.1 8).toInt) (hpre_7 : (σ.1 8).toInt ≤ 3) (ex1 : x1 = k0 + (1 : Int32)) (tx1 : x1.toInt = k0.toInt + 1) (hi6_0 : k0.toInt < y2.toInt) (hi6_1 : y2.toInt ≤ (σ.1 1).toInt) (c4 : y2.toInt < (σ.1 1).toInt) (hr18 : (y2.toInt < (σ.1 1).toInt ∧ r18.toInt = ((σ.2.1 2) y2.toNatClampNeg).toInt) ∨ ((σ.1 1).toInt ≤ y2.toInt ∧ r18.toInt = 0)) (c19 : ¬ r18.toInt = 39) (ex33 : x33 = y2 - k0) (tx33 : x33.toInt = y2.toInt - k0.toInt) (c34 : 8 < x33.toInt) (hr35 : (y2.toInt < (σ.1 1).toInt ∧ r35.toInt = ((σ.2.1 2) y2.toNatClampNeg).toInt) ∨ ((σ.1 1).toInt ≤ y2.toInt ∧ r35.toInt = 0)) (c36 : r35.toInt = 39) (ex37 : x37 = y2 - k0) (tx37 : x37.toInt = y2.toInt - k0.toInt) (ex38 : x38 = x37 - (1 : Int32)) (tx38 : x38.toInt = x37.toInt - 1) (ex39 : x39 = Int32.toInt64 x38) (tx39 : x39.toInt = x38.toInt) (ex40 : x40 = x39 <<< (Int32.toInt64 (56 : Int32) &&& 63)) (ex41 : x41 = y3 ||| x40) (hr42 : n43.toInt = (σ.1 3).toInt + 1) (ex44 : x44 = y2 + (1 : Int32)) (tx44 : x44.toInt = y2.toInt + 1) : k0.toInt < x44.toInt ∧ x44.toInt ≤ (σ.1 1).toInt ∧ 0 ≤ n43.toInt ∧ n43.toInt ≤ x44.toInt ∧ TKok (upd (σ.2.1 4) (σ.1 3).toNatClampNeg (4 : Int32)) (vp_updL (σ.2.2.1 6) (σ.1 3).toNatClampNeg x41) (upd (σ.2.1 7) (σ.1 3).toNatClampNeg (0 : Int32)) n43.toInt ∧ 0 ≤ (σ.1 8).toInt ∧ (σ.1 8).toInt ≤ 3 := by
  have q0 : (0 : Int32).toInt = 0 := by decide +kernel
  have q1 : (1 : Int32).toInt = 1 := by decide +kernel
  have q4 : (4 : Int32).toInt = 4 := by decide +kernel
  have q56 : (56 : Int32).toInt = 56 := by decide +kernel
  have hz := hpre_5
  and_intros <;> first | exact hz | exact tk_add hz (by omega) (clampZ (by omega)) (by omega) (by omega) (by omega) | omega
-- post2 @97
theorem v_quoted_30 (σ : RS) (k0 : Int32) (x1 : Int32) (y2 : Int32) (y3 : Int64) (r18 : Int32) (x33 : Int32) (r35 : Int32) (x37 : Int32) (x38 : Int32) (x39 : Int64) (x40 : Int64) (x41 : Int64) (n43 : Int32) (x44 : Int32) (hpre_0 : 0 ≤ (σ.1 1).toInt) (hpre_1 : (σ.1 1).toInt ≤ 40) (hpre_2 : 0 ≤ (σ.1 3).toInt) (hpre_3 : (σ.1 3).toInt ≤ k0.toInt) (hpre_4 : k0.toInt < (σ.1 1).toInt) (hpre_5 : TKok (σ.2.1 4) (σ.2.2.1 6) (σ.2.1 7) (σ.1 3).toInt) (hpre_6 : 0 ≤ (σ.1 8).toInt) (hpre_7 : (σ.1 8).toInt ≤ 3) (ex1 : x1 = k0 + (1 : Int32)) (tx1 : x1.toInt = k0.toInt + 1) (hi6_0 : k0.toInt < y2.toInt) (hi6_1 : y2.toInt ≤ (σ.1 1).toInt) (hi6y_0 : RT qt (tx (σ.2.1 2) (σ.1 1)) (k0.toInt + 1) y2.toInt) (hi6y_1 : y2.toInt - k0.toInt ≤ 9) (c4 : y2.toInt < (σ.1 1).toInt) (hr18y : r18.toInt = tx (σ.2.1 2) (σ.1 1) y2.toInt) (hr18 : (y2.toInt < (σ.1 1).toInt ∧ r18.toInt = ((σ.2.1 2) y2.toNatClampNeg).toInt) ∨ ((σ.1 1).toInt ≤ y2.toInt ∧ r18.toInt = 0)) (c19 : ¬ r18.toInt = 39) (ex33 : x33 = y2 - k0) (tx33 : x33.toInt = y2.toInt - k0.toInt) (c34 : 8 < x33.toInt) (hr35y : r35.toInt = tx (σ.2.1 2) (σ.1 1) y2.toInt) (hr35 : (y2.toInt < (σ.1 1).toInt ∧ r35.toInt = ((σ.2.1 2) y2.toNatClampNeg).toInt) ∨ ((σ.1 1).toInt ≤ y2.toInt ∧ r35.toInt = 0)) (c36 : r35.toInt = 39) (ex37 : x37 = y2 - k0) (tx37 : x37.toInt = y2.toInt - k0.toInt) (ex38 : x38 = x37 - (1 : Int32)) (tx38 : x38.toInt = x37.toInt - 1) (ex39 : x39 = Int32.toInt64 x38) (tx39 : x39.toInt = x38.toInt) (ex40 : x40 = x39 <<< (Int32.toInt64 (56 : Int32) &&& 63)) (ex41 : x41 = y3 ||| x40) (hr42 : n43.toInt = (σ.1 3).toInt + 1) (ex44 : x44 = y2 + (1 : Int32)) (tx44 : x44.toInt = y2.toInt + 1) : (σ.1 8).toInt = 0 → tx (σ.2.1 2) (σ.1 1) k0.toInt = 39 → ∃ r9, TokR (tx (σ.2.1 2) (σ.1 1)) ((σ.1 1).toInt) k0.toInt r9 ∧ LXo (σ.2.1 4) (σ.2.2.1 6) (σ.2.1 5) (σ.1 3) (upd (σ.2.1 4) (σ.1 3).toNatClampNeg (4 : Int32)) (vp_updL (σ.2.2.1 6) (σ.1 3).toNatClampNeg x41) (upd (σ.2.1 5) (σ.1 3).toNatClampNeg k0) n43 (σ.1 8) (σ.1 9) k0.toInt x44.toInt r9 := by
  have q1 : (1 : Int32).toInt = 1 := by decide +kernel
  have q4 : (4 : Int32).toInt = 4 := by decide +kernel
  have q56 : (56 : Int32).toInt = 56 := by decide +kernel
  intro h0 h39
  simp only [clampN] at *
  exact ⟨_, quoN (e := y2.toInt) (by assumption) rfl (by omega) (by omega) (by omega) (by omega) (by omega), LXo_add (clampZ (by omega)) (by omega) (by omega) rfl (by first | rfl | decide | (simp [TCv]; done) | (unfold TCv; omega)) (by first | rfl | decide | (simp; done) | omega) rfl (by intro _; omega)⟩
-- post @76
theorem v_quoted_31 (σ : RS) (k0 : Int32) (x1 : Int32) (y2 : Int32) (r18 : Int32) (x33 : Int32) (r35 : Int32) (n46 : Int32) (hpre_0 : 0 ≤ (σ.1 1).toInt) (hpre_1 : (σ.1 1).toInt ≤ 40) (hpre_2 : 0 ≤ (σ.1 3).toInt) (hpre_3 : (σ.1 3).toInt ≤ k0.toInt) (hpre_4 : k0.toInt < (σ.1 1).toInt) (hpre_5 : TKok (σ.2.1 4) (σ.2.2.1 6) (σ.2.1 7) (σ.1 3).toInt) (hpre_6 : 0 ≤ (σ.1 8).toInt) (hpre_7 : (σ.1 8).toInt ≤ 3) (ex1 : x1 = k0 + (1 : Int32)) (tx1 : x1.toInt = k0.toInt + 1) (hi6_0 : k0.toInt < y2.toInt) (hi6_1 : y2.toInt ≤ (σ.1 1).toInt) (c4 : y2.toInt < (σ.1 1).toInt) (hr18 : (y2.toInt < (σ.1 1).toInt ∧ r18.toInt = ((σ.2.1 2) y2.toNatClampNeg).toInt) ∨ ((σ.1 1).toInt ≤ y2.toInt ∧ r18.toInt = 0)) (c19 : ¬ r18.toInt = 39) (ex33 : x33 = y2 - k0) (tx33 : x33.toInt = y2.toInt - k0.toInt) (c34 : 8 < x33.toInt) (hr35 : (y2.toInt < (σ.1 1).toInt ∧ r35.toInt = ((σ.2.1 2) y2.toNatClampNeg).toInt) ∨ ((σ.1 1).toInt ≤ y2.toInt ∧ r35.toInt = 0)) (c36 : ¬ r35.toInt = 39) (hr45_0 : (σ.1 8).toInt = 0 → n46.toInt = (1 : Int32).toInt) (hr45_1 : ¬ (σ.1 8).toInt = 0 → n46.toInt = (σ.1 8).toInt) : k0.toInt < (σ.1 1).toInt ∧ (σ.1 1).toInt ≤ (σ.1 1).toInt ∧ 0 ≤ (σ.1 3).toInt ∧ (σ.1 3).toInt ≤ (σ.1 1).toInt ∧ TKok (σ.2.1 4) (σ.2.2.1 6) (σ.2.1 7) (σ.1 3).toInt ∧ 0 ≤ n46.toInt ∧ n46.toInt ≤ 3 := by
  have q1 : (1 : Int32).toInt = 1 := by decide +kernel
  have hz := hpre_5
  and_intros <;> first | exact hz | exact tk_add hz (by omega) (clampZ (by omega)) (by omega) (by omega) (by omega) | omega
-- post2 @76
theorem v_quoted_32 (σ : RS) (k0 : Int32) (x1 : Int32) (y2 : Int32) (r18 : Int32) (x33 : Int32) (r35 : Int32) (n46 : Int32) (n47 : Int32) (hpre_0 : 0 ≤ (σ.1 1).toInt) (hpre_1 : (σ.1 1).toInt ≤ 40) (hpre_2 : 0 ≤ (σ.1 3).toInt) (hpre_3 : (σ.1 3).toInt ≤ k0.toInt) (hpre_4 : k0.toInt < (σ.1 1).toInt) (hpre_5 : TKok (σ.2.1 4) (σ.2.2.1 6) (σ.2.1 7) (σ.1 3).toInt) (hpre_6 : 0 ≤ (σ.1 8).toInt) (hpre_7 : (σ.1 8).toInt ≤ 3) (ex1 : x1 = k0 + (1 : Int32)) (tx1 : x1.toInt = k0.toInt + 1) (hi6_0 : k0.toInt < y2.toInt) (hi6_1 : y2.toInt ≤ (σ.1 1).toInt) (hi6y_0 : RT qt (tx (σ.2.1 2) (σ.1 1)) (k0.toInt + 1) y2.toInt) (hi6y_1 : y2.toInt - k0.toInt ≤ 9) (c4 : y2.toInt < (σ.1 1).toInt) (hr18y : r18.toInt = tx (σ.2.1 2) (σ.1 1) y2.toInt) (hr18 : (y2.toInt < (σ.1 1).toInt ∧ r18.toInt = ((σ.2.1 2) y2.toNatClampNeg).toInt) ∨ ((σ.1 1).toInt ≤ y2.toInt ∧ r18.toInt = 0)) (c19 : ¬ r18.toInt = 39) (ex33 : x33 = y2 - k0) (tx33 : x33.toInt = y2.toInt - k0.toInt) (c34 : 8 < x33.toInt) (hr35y : r35.toInt = tx (σ.2.1 2) (σ.1 1) y2.toInt) (hr35 : (y2.toInt < (σ.1 1).toInt ∧ r35.toInt = ((σ.2.1 2) y2.toNatClampNeg).toInt) ∨ ((σ.1 1).toInt ≤ y2.toInt ∧ r35.toInt = 0)) (c36 : ¬ r35.toInt = 39) (hr45y_0 : (σ.1 8).toInt = 0 → n47.toInt = k0.toInt) (hr45y_1 : ¬ (σ.1 8).toInt = 0 → n47.toInt = (σ.1 9).toInt) (hr45_0 : (σ.1 8).toInt = 0 → n46.toInt = (1 : Int32).toInt) (hr45_1 : ¬ (σ.1 8).toInt = 0 → n46.toInt = (σ.1 8).toInt) : (σ.1 8).toInt = 0 → tx (σ.2.1 2) (σ.1 1) k0.toInt = 39 → ∃ r9, TokR (tx (σ.2.1 2) (σ.1 1)) ((σ.1 1).toInt) k0.toInt r9 ∧ LXo (σ.2.1 4) (σ.2.2.1 6) (σ.2.1 5) (σ.1 3) (σ.2.1 4) (σ.2.2.1 6) (σ.2.1 5) (σ.1 3) n46 n47 k0.toInt (σ.1 1).toInt r9 := by
  have q1 : (1 : Int32).toInt = 1 := by decide +kernel
  intro h0 h39
  simp only [clampN] at *
  first
  | exact ⟨none, quoX (e := y2.toInt) (by assumption) rfl (by omega) (by omega) (by omega) (by omega), LXo_err (by omega) (by omega) rfl⟩
  | exact ⟨none, quoL (e := y2.toInt) (by assumption) rfl (by omega) (by omega) (by omega) (by omega), LXo_err (by omega) (by omega) rfl⟩
-- pre:at@35 @35
theorem v_quoted_33 (σ : RS) (k0 : Int32) (x1 : Int32) (y2 : Int32) (r18 : Int32) (x33 : Int32) (hpre_0 : 0 ≤ (σ.1 1).toInt) (hpre_1 : (σ.1 1).toInt ≤ 40) (hpre_2 : 0 ≤ (σ.1 3).toInt) (hpre_3 : (σ.1 3).toInt ≤ k0.toInt) (hpre_4 : k0.toInt < (σ.1 1).toInt) (hpre_5 : TKok (σ.2.1 4) (σ.2.2.1 6) (σ.2.1 7) (σ.1 3).toInt) (ex1 : x1 = k0 + (1 : Int32)) (tx1 : x1.toInt = k0.toInt + 1) (hi6_0 : k0.toInt < y2.toInt) (hi6_1 : y2.toInt ≤ (σ.1 1).toInt) (c4 : y2.toInt < (σ.1 1).toInt) (hr18 : (y2.toInt < (σ.1 1).toInt ∧ r18.toInt = ((σ.2.1 2) y2.toNatClampNeg).toInt) ∨ ((σ.1 1).toInt ≤ y2.toInt ∧ r18.toInt = 0)) (c19 : ¬ r18.toInt = 39) (ex33 : x33 = y2 - k0) (tx33 : x33.toInt = y2.toInt - k0.toInt) (c34 : x33.toInt ≤ 8) : 0 ≤ (σ.1 1).toInt ∧ (σ.1 1).toInt ≤ 40 ∧ 0 ≤ y2.toInt := by
  have q1 : (1 : Int32).toInt = 1 := by decide +kernel
  refine ⟨?_, ?_, ?_⟩ <;> first | assumption | omega | (subst_vars; omega) | trivial
-- nw@43 @43
theorem v_quoted_34 (σ : RS) (k0 : Int32) (x1 : Int32) (y2 : Int32) (r18 : Int32) (x33 : Int32) (r48 : Int32) (x49 : Int64) (x50 : Int32) (hpre_0 : 0 ≤ (σ.1 1).toInt) (hpre_1 : (σ.1 1).toInt ≤ 40) (hpre_2 : 0 ≤ (σ.1 3).toInt) (hpre_3 : (σ.1 3).toInt ≤ k0.toInt) (hpre_4 : k0.toInt < (σ.1 1).toInt) (hpre_5 : TKok (σ.2.1 4) (σ.2.2.1 6) (σ.2.1 7) (σ.1 3).toInt) (ex1 : x1 = k0 + (1 : Int32)) (tx1 : x1.toInt = k0.toInt + 1) (hi6_0 : k0.toInt < y2.toInt) (hi6_1 : y2.toInt ≤ (σ.1 1).toInt) (c4 : y2.toInt < (σ.1 1).toInt) (hr18 : (y2.toInt < (σ.1 1).toInt ∧ r18.toInt = ((σ.2.1 2) y2.toNatClampNeg).toInt) ∨ ((σ.1 1).toInt ≤ y2.toInt ∧ r18.toInt = 0)) (c19 : ¬ r18.toInt = 39) (ex33 : x33 = y2 - k0) (tx33 : x33.toInt = y2.toInt - k0.toInt) (c34 : x33.toInt ≤ 8) (hr48 : (y2.toInt < (σ.1 1).toInt ∧ r48.toInt = ((σ.2.1 2) y2.toNatClampNeg).toInt) ∨ ((σ.1 1).toInt ≤ y2.toInt ∧ r48.toInt = 0)) (ex49 : x49 = Int32.toInt64 r48) (tx49 : x49.toInt = r48.toInt) (ex50 : x50 = y2 - k0) : x50.toInt = y2.toInt - k0.toInt := by
  have q1 : (1 : Int32).toInt = 1 := by decide +kernel
  rw [ex50, z_sub (by omega) (by omega)]; first | done | omega
-- nw@45 @45
theorem v_quoted_35 (σ : RS) (k0 : Int32) (x1 : Int32) (y2 : Int32) (r18 : Int32) (x33 : Int32) (r48 : Int32) (x49 : Int64) (x50 : Int32) (x51 : Int32) (hpre_0 : 0 ≤ (σ.1 1).toInt) (hpre_1 : (σ.1 1).toInt ≤ 40) (hpre_2 : 0 ≤ (σ.1 3).toInt) (hpre_3 : (σ.1 3).toInt ≤ k0.toInt) (hpre_4 : k0.toInt < (σ.1 1).toInt) (hpre_5 : TKok (σ.2.1 4) (σ.2.2.1 6) (σ.2.1 7) (σ.1 3).toInt) (ex1 : x1 = k0 + (1 : Int32)) (tx1 : x1.toInt = k0.toInt + 1) (hi6_0 : k0.toInt < y2.toInt) (hi6_1 : y2.toInt ≤ (σ.1 1).toInt) (c4 : y2.toInt < (σ.1 1).toInt) (hr18 : (y2.toInt < (σ.1 1).toInt ∧ r18.toInt = ((σ.2.1 2) y2.toNatClampNeg).toInt) ∨ ((σ.1 1).toInt ≤ y2.toInt ∧ r18.toInt = 0)) (c19 : ¬ r18.toInt = 39) (ex33 : x33 = y2 - k0) (tx33 : x33.toInt = y2.toInt - k0.toInt) (c34 : x33.toInt ≤ 8) (hr48 : (y2.toInt < (σ.1 1).toInt ∧ r48.toInt = ((σ.2.1 2) y2.toNatClampNeg).toInt) ∨ ((σ.1 1).toInt ≤ y2.toInt ∧ r48.toInt = 0)) (ex49 : x49 = Int32.toInt64 r48) (tx49 : x49.toInt = r48.toInt) (ex50 : x50 = y2 - k0) (tx50 : x50.toInt = y2.toInt - k0.toInt) (ex51 : x51 = x50 - (1 : Int32)) : x51.toInt = x50.toInt - 1 := by
  have q1 : (1 : Int32).toInt = 1 := by decide +kernel
  have w1 : (1 : Int32).toInt = 1 := by decide +kernel
  rw [ex51, z_sub (by omega) (by omega)]; first | done | omega
-- nw@46 @46
theorem v_quoted_36 (σ : RS) (k0 : Int32) (x1 : Int32) (y2 : Int32) (x33 : Int32) (x50 : Int32) (x51 : Int32) (x52 : Int32) (hpre_0 : 0 ≤ (σ.1 1).toInt) (hpre_1 : (σ.1 1).toInt ≤ 40) (hpre_2 : 0 ≤ (σ.1 3).toInt) (hpre_3 : (σ.1 3).toInt ≤ k0.toInt) (hpre_4 : k0.toInt < (σ.1 1).toInt) (hpre_5 : TKok (σ.2.1 4) (σ.2.2.1 6) (σ.2.1 7) (σ.1 3).toInt) (ex1 : x1 = k0 + (1 : Int32)) (tx1 : x1.toInt = k0.toInt + 1) (hi6_0 : k0.toInt < y2.toInt) (hi6_1 : y2.toInt ≤ (σ.1 1).toInt) (c4 : y2.toInt < (σ.1 1).toInt) (ex33 : x33 = y2 - k0) (tx33 : x33.toInt = y2.toInt - k0.toInt) (c34 : x33.toInt ≤ 8) (ex50 : x50 = y2 - k0) (tx50 : x50.toInt = y2.toInt - k0.toInt) (ex51 : x51 = x50 - (1 : Int32)) (tx51 : x51.toInt = x50.toInt - 1) (ex52 : x52 = (7 : Int32) * x51) : x52.toInt = 7 * x51.toInt := by
  have q1 : (1 : Int32).toInt = 1 := by decide +kernel
  have q7 : (7 : Int32).toInt = 7 := by decide +kernel
  have w0 : (7 : Int32).toInt = 7 := by decide +kernel
  rw [ex52, z_mulc 7 w0 (by omega) (by omega)]
-- nw@50 @50
theorem v_quoted_37 (σ : RS) (k0 : Int32) (x1 : Int32) (y2 : Int32) (y3 : Int64) (r18 : Int32) (x33 : Int32) (r48 : Int32) (x49 : Int64) (x50 : Int32) (x51 : Int32) (x52 : Int32) (x53 : Int64) (x54 : Int64) (x55 : Int32) (hpre_0 : 0 ≤ (σ.1 1).toInt) (hpre_1 : (σ.1 1).toInt ≤ 40) (hpre_2 : 0 ≤ (σ.1 3).toInt) (hpre_3 : (σ.1 3).toInt ≤ k0.toInt) (hpre_4 : k0.toInt < (σ.1 1).toInt) (hpre_5 : TKok (σ.2.1 4) (σ.2.2.1 6) (σ.2.1 7) (σ.1 3).toInt) (ex1 : x1 = k0 + (1 : Int32)) (tx1 : x1.toInt = k0.toInt + 1) (hi6_0 : k0.toInt < y2.toInt) (hi6_1 : y2.toInt ≤ (σ.1 1).toInt) (c4 : y2.toInt < (σ.1 1).toInt) (hr18 : (y2.toInt < (σ.1 1).toInt ∧ r18.toInt = ((σ.2.1 2) y2.toNatClampNeg).toInt) ∨ ((σ.1 1).toInt ≤ y2.toInt ∧ r18.toInt = 0)) (c19 : ¬ r18.toInt = 39) (ex33 : x33 = y2 - k0) (tx33 : x33.toInt = y2.toInt - k0.toInt) (c34 : x33.toInt ≤ 8) (hr48 : (y2.toInt < (σ.1 1).toInt ∧ r48.toInt = ((σ.2.1 2) y2.toNatClampNeg).toInt) ∨ ((σ.1 1).toInt ≤ y2.toInt ∧ r48.toInt = 0)) (ex49 : x49 = Int32.toInt64 r48) (tx49 : x49.toInt = r48.toInt) (ex50 : x50 = y2 - k0) (tx50 : x50.toInt = y2.toInt - k0.toInt) (ex51 : x51 = x50 - (1 : Int32)) (tx51 : x51.toInt = x50.toInt - 1) (ex52 : x52 = (7 : Int32) * x51) (tx52 : x52.toInt = 7 * x51.toInt) (ex53 : x53 = x49 <<< (Int32.toInt64 x52 &&& 63)) (ex54 : x54 = y3 ||| x53) (ex55 : x55 = y2 + (1 : Int32)) : x55.toInt = y2.toInt + 1 := by
  have q1 : (1 : Int32).toInt = 1 := by decide +kernel
  have q7 : (7 : Int32).toInt = 7 := by decide +kernel
  have z9 : (1 : Int32).toInt = 1 := by decide +kernel
  rw [ex55, z_add (by omega) (by omega)]; first | done | omega
-- inv@6 @6
theorem v_quoted_38 (σ : RS) (k0 : Int32) (x1 : Int32) (y2 : Int32) (y3 : Int64) (r18 : Int32) (x33 : Int32) (r48 : Int32) (x49 : Int64) (x50 : Int32) (x51 : Int32) (x52 : Int32) (x53 : Int64) (x54 : Int64) (x55 : Int32) (hpre_0 : 0 ≤ (σ.1 1).toInt) (hpre_1 : (σ.1 1).toInt ≤ 40) (hpre_2 : 0 ≤ (σ.1 3).toInt) (hpre_3 : (σ.1 3).toInt ≤ k0.toInt) (hpre_4 : k0.toInt < (σ.1 1).toInt) (hpre_5 : TKok (σ.2.1 4) (σ.2.2.1 6) (σ.2.1 7) (σ.1 3).toInt) (ex1 : x1 = k0 + (1 : Int32)) (tx1 : x1.toInt = k0.toInt + 1) (hi6_0 : k0.toInt < y2.toInt) (hi6_1 : y2.toInt ≤ (σ.1 1).toInt) (c4 : y2.toInt < (σ.1 1).toInt) (hr18 : (y2.toInt < (σ.1 1).toInt ∧ r18.toInt = ((σ.2.1 2) y2.toNatClampNeg).toInt) ∨ ((σ.1 1).toInt ≤ y2.toInt ∧ r18.toInt = 0)) (c19 : ¬ r18.toInt = 39) (ex33 : x33 = y2 - k0) (tx33 : x33.toInt = y2.toInt - k0.toInt) (c34 : x33.toInt ≤ 8) (hr48 : (y2.toInt < (σ.1 1).toInt ∧ r48.toInt = ((σ.2.1 2) y2.toNatClampNeg).toInt) ∨ ((σ.1 1).toInt ≤ y2.toInt ∧ r48.toInt = 0)) (ex49 : x49 = Int32.toInt64 r48) (tx49 : x49.toInt = r48.toInt) (ex50 : x50 = y2 - k0) (tx50 : x50.toInt = y2.toInt - k0.toInt) (ex51 : x51 = x50 - (1 : Int32)) (tx51 : x51.toInt = x50.toInt - 1) (ex52 : x52 = (7 : Int32) * x51) (tx52 : x52.toInt = 7 * x51.toInt) (ex53 : x53 = x49 <<< (Int32.toInt64 x52 &&& 63)) (ex54 : x54 = y3 ||| x53) (ex55 : x55 = y2 + (1 : Int32)) (tx55 : x55.toInt = y2.toInt + 1) : k0.toInt < x55.toInt ∧ x55.toInt ≤ (σ.1 1).toInt := by
  have q1 : (1 : Int32).toInt = 1 := by decide +kernel
  have q7 : (7 : Int32).toInt = 7 := by decide +kernel
  refine ⟨?_, ?_⟩ <;> first | assumption | omega | (subst_vars; omega) | trivial
-- inv2@6 @6
theorem v_quoted_39 (σ : RS) (k0 : Int32) (x1 : Int32) (y2 : Int32) (y3 : Int64) (r18 : Int32) (x33 : Int32) (r48 : Int32) (x49 : Int64) (x50 : Int32) (x51 : Int32) (x52 : Int32) (x53 : Int64) (x54 : Int64) (x55 : Int32) (hpre_0 : 0 ≤ (σ.1 1).toInt) (hpre_1 : (σ.1 1).toInt ≤ 40) (hpre_2 : 0 ≤ (σ.1 3).toInt) (hpre_3 : (σ.1 3).toInt ≤ k0.toInt) (hpre_4 : k0.toInt < (σ.1 1).toInt) (hpre_5 : TKok (σ.2.1 4) (σ.2.2.1 6) (σ.2.1 7) (σ.1 3).toInt) (hpre_6 : 0 ≤ (σ.1 8).toInt) (hpre_7 : (σ.1 8).toInt ≤ 3) (ex1 : x1 = k0 + (1 : Int32)) (tx1 : x1.toInt = k0.toInt + 1) (hi6_0 : k0.toInt < y2.toInt) (hi6_1 : y2.toInt ≤ (σ.1 1).toInt) (hi6y_0 : RT qt (tx (σ.2.1 2) (σ.1 1)) (k0.toInt + 1) y2.toInt) (hi6y_1 : y2.toInt - k0.toInt ≤ 9) (c4 : y2.toInt < (σ.1 1).toInt) (hr18y : r18.toInt = tx (σ.2.1 2) (σ.1 1) y2.toInt) (hr18 : (y2.toInt < (σ.1 1).toInt ∧ r18.toInt = ((σ.2.1 2) y2.toNatClampNeg).toInt) ∨ ((σ.1 1).toInt ≤ y2.toInt ∧ r18.toInt = 0)) (c19 : ¬ r18.toInt = 39) (ex33 : x33 = y2 - k0) (tx33 : x33.toInt = y2.toInt - k0.toInt) (c34 : x33.toInt ≤ 8) (hr48y : r48.toInt = tx (σ.2.1 2) (σ.1 1) y2.toInt) (hr48 : (y2.toInt < (σ.1 1).toInt ∧ r48.toInt = ((σ.2.1 2) y2.toNatClampNeg).toInt) ∨ ((σ.1 1).toInt ≤ y2.toInt ∧ r48.toInt = 0)) (ex49 : x49 = Int32.toInt64 r48) (tx49 : x49.toInt = r48.toInt) (ex50 : x50 = y2 - k0) (tx50 : x50.toInt = y2.toInt - k0.toInt) (ex51 : x51 = x50 - (1 : Int32)) (tx51 : x51.toInt = x50.toInt - 1) (ex52 : x52 = (7 : Int32) * x51) (tx52 : x52.toInt = 7 * x51.toInt) (ex53 : x53 = x49 <<< (Int32.toInt64 x52 &&& 63)) (ex54 : x54 = y3 ||| x53) (ex55 : x55 = y2 + (1 : Int32)) (tx55 : x55.toInt = y2.toInt + 1) : RT qt (tx (σ.2.1 2) (σ.1 1)) (k0.toInt + 1) x55.toInt ∧ x55.toInt - k0.toInt ≤ 9 := by
  have q1 : (1 : Int32).toInt = 1 := by decide +kernel
  have q7 : (7 : Int32).toInt = 7 := by decide +kernel
  refine ⟨RT.up (by assumption) ?_ ?_, ?_⟩ <;> omega
-- meas@6 @6
theorem v_quoted_40 (σ : RS) (k0 : Int32) (x1 : Int32) (y2 : Int32) (y3 : Int64) (r18 : Int32) (x33 : Int32) (r48 : Int32) (x49 : Int64) (x50 : Int32) (x51 : Int32) (x52 : Int32) (x53 : Int64) (x54 : Int64) (x55 : Int32) (hpre_0 : 0 ≤ (σ.1 1).toInt) (hpre_1 : (σ.1 1).toInt ≤ 40) (hpre_2 : 0 ≤ (σ.1 3).toInt) (hpre_3 : (σ.1 3).toInt ≤ k0.toInt) (hpre_4 : k0.toInt < (σ.1 1).toInt) (hpre_5 : TKok (σ.2.1 4) (σ.2.2.1 6) (σ.2.1 7) (σ.1 3).toInt) (ex1 : x1 = k0 + (1 : Int32)) (tx1 : x1.toInt = k0.toInt + 1) (hi6_0 : k0.toInt < y2.toInt) (hi6_1 : y2.toInt ≤ (σ.1 1).toInt) (c4 : y2.toInt < (σ.1 1).toInt) (hr18 : (y2.toInt < (σ.1 1).toInt ∧ r18.toInt = ((σ.2.1 2) y2.toNatClampNeg).toInt) ∨ ((σ.1 1).toInt ≤ y2.toInt ∧ r18.toInt = 0)) (c19 : ¬ r18.toInt = 39) (ex33 : x33 = y2 - k0) (tx33 : x33.toInt = y2.toInt - k0.toInt) (c34 : x33.toInt ≤ 8) (hr48 : (y2.toInt < (σ.1 1).toInt ∧ r48.toInt = ((σ.2.1 2) y2.toNatClampNeg).toInt) ∨ ((σ.1 1).toInt ≤ y2.toInt ∧ r48.toInt = 0)) (ex49 : x49 = Int32.toInt64 r48) (tx49 : x49.toInt = r48.toInt) (ex50 : x50 = y2 - k0) (tx50 : x50.toInt = y2.toInt - k0.toInt) (ex51 : x51 = x50 - (1 : Int32)) (tx51 : x51.toInt = x50.toInt - 1) (ex52 : x52 = (7 : Int32) * x51) (tx52 : x52.toInt = 7 * x51.toInt) (ex53 : x53 = x49 <<< (Int32.toInt64 x52 &&& 63)) (ex54 : x54 = y3 ||| x53) (ex55 : x55 = y2 + (1 : Int32)) (tx55 : x55.toInt = y2.toInt + 1) : ((σ.1 1).toInt - x55.toInt).toNat < ((σ.1 1).toInt - y2.toInt).toNat := by
  have q1 : (1 : Int32).toInt = 1 := by decide +kernel
  have q7 : (7 : Int32).toInt = 7 := by decide +kernel
  first | assumption | omega | (subst_vars; omega) | trivial
set_option maxHeartbeats 4000000 in
set_option maxRecDepth 100000 in
theorem L_quoted_6_1 {p : Program} {e : Env} {s : State} {m : MethodId} {below : List Frame} {meth : Method} {c : Code} (l : Launch) (D : va_G) (cy : Nat → ClassId) (sz0 : Nat) (sa : Nat → Nat) (ad : Nat → Nat) (sz : Nat) (σ : RS) (k0 : Int32) (x1 : Int32) (C : RC p s m #[.ref (ad 0), .int k0] meth c cX12_quoted 5 (some .int) D cy sz0 sa ad (AR cy ad sz)) (hpre_0 : 0 ≤ (σ.1 1).toInt) (hpre_1 : (σ.1 1).toInt ≤ 40) (hpre_2 : 0 ≤ (σ.1 3).toInt) (hpre_3 : (σ.1 3).toInt ≤ k0.toInt) (hpre_4 : k0.toInt < (σ.1 1).toInt) (hpre_5 : TKok (σ.2.1 4) (σ.2.2.1 6) (σ.2.1 7) (σ.1 3).toInt) (hpre_6 : 0 ≤ (σ.1 8).toInt) (hpre_7 : (σ.1 8).toInt ≤ 3) (ex1 : x1 = k0 + (1 : Int32)) (tx1 : x1.toInt = k0.toInt + 1) : ∀ (n : Nat) (y2 : Int32) (y3 : Int64) (H : Heap) (locs : List Loc) (ls : Array Slot), ((σ.1 1).toInt - y2.toInt).toNat < n → ((k0.toInt < y2.toInt ∧ y2.toInt ≤ (σ.1 1).toInt) ∧ (RT qt (tx (σ.2.1 2) (σ.1 1)) (k0.toInt + 1) y2.toInt ∧ y2.toInt - k0.toInt ≤ 9)) → RP D cy ad σ H → va_S (AR cy ad sz) s.heap H locs → lv_has ls 5 [(3, .long y3), (2, .int y2), (0, .ref (ad 0)), (1, .int k0)] → W p l e (headSpec (Cond.code yX12_quoted cX12_quoted 5 (some .int) :: GWm) ({ frames := 1, cells := 0, slots := 0, locals := 24 })).room s m #[.ref (ad 0), .int k0] below meth c H locs 0 0 (MQ below (va_Qi (fun (r : Int32) (u : Int32 × (Nat → Int32) × (Nat → Int32) × (Nat → Int64) × (Nat → Int32) × Int32 × Int32) => (k0.toInt < r.toInt ∧ r.toInt ≤ (σ.1 1).toInt ∧ 0 ≤ u.1.toInt ∧ u.1.toInt ≤ r.toInt ∧ TKok u.2.1 u.2.2.2.1 u.2.2.2.2.1 u.1.toInt ∧ 0 ≤ u.2.2.2.2.2.1.toInt ∧ u.2.2.2.2.2.1.toInt ≤ 3) ∧ ((σ.1 8).toInt = 0 → tx (σ.2.1 2) (σ.1 1) k0.toInt = 39 → ∃ r9, TokR (tx (σ.2.1 2) (σ.1 1)) ((σ.1 1).toInt) k0.toInt r9 ∧ LXo (σ.2.1 4) (σ.2.2.1 6) (σ.2.1 5) (σ.1 3) u.2.1 u.2.2.2.1 u.2.2.1 u.1 u.2.2.2.2.2.1 u.2.2.2.2.2.2 k0.toInt r.toInt r9)) (fun (u : Int32 × (Nat → Int32) × (Nat → Int32) × (Nat → Int64) × (Nat → Int32) × Int32 × Int32) (t : State) => RP D cy ad (rS (rS (rA (rJ (rA (rA (rS σ 3 u.1) 4 u.2.1) 5 u.2.2.1) 6 u.2.2.2.1) 7 u.2.2.2.2.1) 8 u.2.2.2.2.2.1) 9 u.2.2.2.2.2.2) t.heap) (AR cy ad sz)) #[.ref (ad 0), .int k0] s 0 0 (AR cy ad sz)) (F0 m 6 ls []) := by
  have hx := C.1
  have hb := C.2.1
  have hown := C.2.2.2.2.1
  have hw := C.2.2.2.2.2.1
  intro n
  induction n with
  | zero => intro y2 y3 H locs ls hn; exact absurd hn (Nat.not_lt_zero _)
  | succ n ih6 =>
    intro y2 y3 H locs ls hn6 hi6 hP hS hl
    obtain ⟨hi6, hi6y⟩ := hi6
    obtain ⟨hi6_0, hi6_1⟩ := hi6
    obtain ⟨hi6y_0, hi6y_1⟩ := hi6y
    refine lv_iload_n hx hb dX12_quoted_6 rfl (lv_at hl 1 rfl) ?_
    refine lv_aload_n hx hb dX12_quoted_7 rfl (lv_at hl 2 rfl) ?_
    refine rg_1 (v := (σ.1 1)) C hP rfl wm_3 dX12_quoted_8 ?_
    refine lv_icmp_ge (tgt := 56) hx hb dX12_quoted_11 (by decide) (fun c4 => ?_) (fun c4 => ?_)
    · have c4 : (σ.1 1).toInt ≤ y2.toInt := by have h := z_le c4; exact h
      refine lv_aload_n hx hb dX12_quoted_56 rfl (lv_at hl 2 rfl) ?_
      refine lv_iload_n hx hb dX12_quoted_57 rfl (lv_at hl 1 rfl) ?_
      refine r_callVi (As := [.int y2]) (rest := []) C hP hS hl.1 ⟨Nat.zero_le _, Nat.zero_le _⟩ (M_at l D cy sz0 sa ad σ H.size y2 (v_quoted_4 σ k0 x1 y2 hpre_0 hpre_1 hpre_2 hpre_3 hpre_4 hpre_5 ex1 tx1 hi6_0 hi6_1 c4)) (n := 1) ⟨wm_7, wm_5, by decide +kernel⟩ ⟨wm_8, wm_9, wm_10⟩ rfl rfl (lv_room (Nat.le_of_ble_eq_true rfl)) ⟨Nat.le_of_ble_eq_true rfl, Nat.le_of_ble_eq_true rfl⟩ dX12_quoted_58 (fun r5 u H locs hr5 hP hS => ?_)
      obtain ⟨hr5, hr5y⟩ := hr5
      have hr5y : r5.toInt = tx (σ.2.1 2) (σ.1 1) y2.toInt := hr5y
      have hr5 : (y2.toInt < (σ.1 1).toInt ∧ r5.toInt = ((σ.2.1 2) y2.toNatClampNeg).toInt) ∨ ((σ.1 1).toInt ≤ y2.toInt ∧ r5.toInt = 0) := hr5
      refine lv_bipush (v := 39) hx hb dX12_quoted_61 (by decide +kernel) ?_
      refine lv_icmp_eq (tgt := 77) hx hb dX12_quoted_63 (by decide) (fun c6 => ?_) (fun c6 => ?_)
      · have c6 : r5.toInt = 39 := by have h := z_eq c6; rw [show (39 : Int32).toInt = 39 from by decide +kernel] at h; exact h
        refine lv_aload_n hx hb dX12_quoted_77 rfl (lv_at hl 2 rfl) ?_
        refine lv_iconst (v := 4) hx hb dX12_quoted_78 (by decide +kernel) ?_
        refine lv_iload_n hx hb dX12_quoted_79 rfl (lv_at hl 3 rfl) ?_
        refine lv_lload_n hx hb dX12_quoted_80 rfl (lv_at hl 0 rfl) ?_
        refine lv_iload_n hx hb dX12_quoted_81 rfl (lv_at hl 1 rfl) ?_
        refine lv_iload_n hx hb dX12_quoted_82 rfl (lv_at hl 3 rfl) ?_
        refine lv_isub hx hb dX12_quoted_83 ?_
        refine lv_topi (fun x7 ex7 => ?_)
        have tx7 : x7.toInt = y2.toInt - k0.toInt := (v_quoted_5 σ k0 x1 y2 r5 x7 hpre_0 hpre_1 hpre_2 hpre_3 hpre_4 hpre_5 ex1 tx1 hi6_0 hi6_1 c4 hr5 c6 ex7)
        refine lv_iconst (v := 1) hx hb dX12_quoted_84 (by decide +kernel) ?_
        refine lv_isub hx hb dX12_quoted_85 ?_
        refine lv_topi (fun x8 ex8 => ?_)
        have tx8 : x8.toInt = x7.toInt - 1 := (v_quoted_6 σ k0 x1 y2 r5 x7 x8 hpre_0 hpre_1 hpre_2 hpre_3 hpre_4 hpre_5 ex1 tx1 hi6_0 hi6_1 c4 hr5 c6 ex7 tx7 ex8)
        refine lv_i2l hx hb dX12_quoted_86 rfl ?_
        refine lv_topl (fun x9 ex9 => ?_)
        have tx9 : x9.toInt = x8.toInt := by rw [ex9]; exact Int32.toInt_toInt64 _
        refine lv_bipush (v := 56) hx hb dX12_quoted_87 (by decide +kernel) ?_
        refine lv_lshl hx hb dX12_quoted_89 rfl ?_
        refine lv_topl (fun x10 ex10 => ?_)
        refine lv_lor hx hb dX12_quoted_90 ?_
        refine lv_topl (fun x11 ex11 => ?_)
        refine r_callVv (As := [.int 4, .int k0, .long x11]) (rest := []) C hP hS hl.1 ⟨Nat.zero_le _, Nat.zero_le _⟩ (M_add l D cy sz0 sa ad σ H.size (4 : Int32) k0 x11 (v_quoted_7 σ k0 x1 y2 y3 x7 x8 x9 x10 x11 hpre_0 hpre_1 hpre_2 hpre_3 hpre_4 hpre_5 ex1 tx1 hi6_0 hi6_1 c4 ex7 tx7 ex8 tx8 ex9 tx9 ex10 ex11)) (n := 3) ⟨wm_30, wm_15, by decide +kernel⟩ ⟨wm_31, wm_32, wm_10⟩ rfl rfl (lv_room (Nat.le_of_ble_eq_true rfl)) ⟨Nat.le_of_ble_eq_true rfl, Nat.le_of_ble_eq_true rfl⟩ dX12_quoted_91 (fun u H locs hr12 hP hS => ?_)
        obtain ⟨n13, rfl⟩ : ∃ z, z = u := ⟨_, rfl⟩
        have hr12 : n13.toInt = (σ.1 3).toInt + 1 := hr12
        have hP : RP D cy ad (rS (rA (rJ (rA (rA σ 4 (upd (σ.2.1 4) (σ.1 3).toNatClampNeg (4 : Int32))) 5 (upd (σ.2.1 5) (σ.1 3).toNatClampNeg k0)) 6 (vp_updL (σ.2.2.1 6) (σ.1 3).toNatClampNeg x11)) 7 (upd (σ.2.1 7) (σ.1 3).toNatClampNeg (0 : Int32))) 3 n13) H := hP
        refine lv_iload_n hx hb dX12_quoted_94 rfl (lv_at hl 1 rfl) ?_
        refine lv_iconst (v := 1) hx hb dX12_quoted_95 (by decide +kernel) ?_
        refine lv_iadd hx hb dX12_quoted_96 ?_
        refine lv_topi (fun x14 ex14 => ?_)
        have tx14 : x14.toInt = y2.toInt + 1 := (v_quoted_8 σ k0 x1 y2 y3 r5 x7 x8 x9 x10 x11 n13 x14 hpre_0 hpre_1 hpre_2 hpre_3 hpre_4 hpre_5 ex1 tx1 hi6_0 hi6_1 c4 hr5 c6 ex7 tx7 ex8 tx8 ex9 tx9 ex10 ex11 hr12 ex14)
        have hP : RP D cy ad (rS (rS (rA (rJ (rA (rA (rS σ 3 n13) 4 (upd (σ.2.1 4) (σ.1 3).toNatClampNeg (4 : Int32))) 5 (upd (σ.2.1 5) (σ.1 3).toNatClampNeg k0)) 6 (vp_updL (σ.2.2.1 6) (σ.1 3).toNatClampNeg x11)) 7 (upd (σ.2.1 7) (σ.1 3).toNatClampNeg (0 : Int32))) 8 (σ.1 8)) 9 (σ.1 9)) H := RP.cong hP (Eq.trans (b := (σ.1 0)) rfl rfl) (Eq.trans (b := (σ.1 1)) rfl rfl) (Eq.trans (b := (σ.2.1 2)) rfl rfl) (Eq.trans (b := n13) rfl rfl) (Eq.trans (b := (upd (σ.2.1 4) (σ.1 3).toNatClampNeg (4 : Int32))) rfl rfl) (Eq.trans (b := (upd (σ.2.1 5) (σ.1 3).toNatClampNeg k0)) rfl rfl) (Eq.trans (b := (vp_updL (σ.2.2.1 6) (σ.1 3).toNatClampNeg x11)) rfl rfl) (Eq.trans (b := (upd (σ.2.1 7) (σ.1 3).toNatClampNeg (0 : Int32))) rfl rfl) (Eq.trans (b := (σ.1 8)) rfl rfl) (Eq.trans (b := (σ.1 9)) rfl rfl) (Eq.trans (b := (σ.1 10)) rfl rfl) (Eq.trans (b := (σ.2.1 11)) rfl rfl) (Eq.trans (b := (σ.2.2.1 12)) rfl rfl) (Eq.trans (b := (σ.2.1 13)) rfl rfl) (Eq.trans (b := (σ.1 14)) rfl rfl) (Eq.trans (b := (σ.1 15)) rfl rfl) (Eq.trans (b := (σ.1 16)) rfl rfl) (Eq.trans (b := (σ.1 17)) rfl rfl) (Eq.trans (b := (σ.1 18)) rfl rfl) (Eq.trans (b := (σ.1 19)) rfl rfl) (Eq.trans (b := (σ.2.1 20)) rfl rfl) (Eq.trans (b := (σ.2.1 21)) rfl rfl) (Eq.trans (b := (σ.2.1 22)) rfl rfl) (Eq.trans (b := (σ.2.1 23)) rfl rfl) (Eq.trans (b := (σ.2.1 24)) rfl rfl) (Eq.trans (b := (σ.2.1 25)) rfl rfl) (Eq.trans (b := (σ.2.1 26)) rfl rfl) (Eq.trans (b := (σ.2.1 27)) rfl rfl) (Eq.trans (b := (σ.2.1 28)) rfl rfl) (Eq.trans (b := (σ.1 29)) rfl rfl) (Eq.trans (b := (σ.2.1 30)) rfl rfl) (Eq.trans (b := (σ.2.1 31)) rfl rfl) (Eq.trans (b := (σ.2.1 32)) rfl rfl) (Eq.trans (b := (σ.1 33)) rfl rfl) (Eq.trans (b := (σ.1 34)) rfl rfl) (Eq.trans (b := (σ.1 35)) rfl rfl) (Eq.trans (b := (σ.2.1 36)) rfl rfl) (Eq.trans (b := (σ.2.1 37)) rfl rfl) (Eq.trans (b := (σ.2.1 38)) rfl rfl) (Eq.trans (b := (σ.2.1 39)) rfl rfl) (Eq.trans (b := (σ.2.1 40)) rfl rfl) (Eq.trans (b := (σ.2.1 41)) rfl rfl) (Eq.trans (b := (σ.2.1 42)) rfl rfl) (Eq.trans (b := (σ.2.1 43)) rfl rfl) (Eq.trans (b := (σ.2.1 44)) rfl rfl) (Eq.trans (b := (σ.2.1 45)) rfl rfl) (Eq.trans (b := (σ.2.1 46)) rfl rfl) (Eq.trans (b := (σ.1 47)) rfl rfl) (Eq.trans (b := (σ.2.1 48)) rfl rfl) (Eq.trans (b := (σ.1 49)) rfl rfl) (Eq.trans (b := (σ.2.1 50)) rfl rfl) (Eq.trans (b := (σ.2.1 51)) rfl rfl) (Eq.trans (b := (σ.2.2.1 52)) rfl rfl) (Eq.trans (b := (σ.2.2.1 53)) rfl rfl) (Eq.trans (b := (σ.2.2.2)) rfl rfl) (Eq.trans (b := (σ.1 55)) rfl rfl) (Eq.trans (b := (σ.1 56)) rfl rfl) (Eq.trans (b := (σ.1 57)) rfl rfl) (Eq.trans (b := (σ.2.1 58)) rfl rfl) (Eq.trans (b := (σ.1 59)) rfl rfl)
        exact r_reti C ⟨n13, (upd (σ.2.1 4) (σ.1 3).toNatClampNeg (4 : Int32)), (upd (σ.2.1 5) (σ.1 3).toNatClampNeg k0), (vp_updL (σ.2.2.1 6) (σ.1 3).toNatClampNeg x11), (upd (σ.2.1 7) (σ.1 3).toNatClampNeg (0 : Int32)), (σ.1 8), (σ.1 9)⟩ ⟨(v_quoted_9 σ k0 x1 y2 y3 r5 x7 x8 x9 x10 x11 n13 x14 hpre_0 hpre_1 hpre_2 hpre_3 hpre_4 hpre_5 hpre_6 hpre_7 ex1 tx1 hi6_0 hi6_1 c4 hr5 c6 ex7 tx7 ex8 tx8 ex9 tx9 ex10 ex11 hr12 ex14 tx14), (v_quoted_10 σ k0 x1 y2 y3 r5 x7 x8 x9 x10 x11 n13 x14 hpre_0 hpre_1 hpre_2 hpre_3 hpre_4 hpre_5 hpre_6 hpre_7 ex1 tx1 hi6_0 hi6_1 hi6y_0 hi6y_1 c4 hr5y hr5 c6 ex7 tx7 ex8 tx8 ex9 tx9 ex10 ex11 hr12 ex14 tx14)⟩ hP hS dX12_quoted_97
      · have c6 : ¬ r5.toInt = 39 := by have h := z_ne c6; rw [show (39 : Int32).toInt = 39 from by decide +kernel] at h; exact h
        refine lv_aload_n hx hb dX12_quoted_66 rfl (lv_at hl 2 rfl) ?_
        refine lv_iconst (v := 1) hx hb dX12_quoted_67 (by decide +kernel) ?_
        refine lv_iload_n hx hb dX12_quoted_68 rfl (lv_at hl 3 rfl) ?_
        refine r_callVv (As := [.int 1, .int k0]) (rest := []) C hP hS hl.1 ⟨Nat.zero_le _, Nat.zero_le _⟩ (M_wrong l D cy sz0 sa ad σ H.size (1 : Int32) k0 trivial) (n := 2) ⟨wm_27, wm_12, by decide +kernel⟩ ⟨wm_28, wm_29, wm_10⟩ rfl rfl (lv_room (Nat.le_of_ble_eq_true rfl)) ⟨Nat.le_of_ble_eq_true rfl, Nat.le_of_ble_eq_true rfl⟩ dX12_quoted_69 (fun u H locs hr15 hP hS => ?_)
        obtain ⟨n16, n17⟩ := u
        obtain ⟨hr15, hr15y⟩ := hr15
        have hr15y : ((σ.1 8).toInt = 0 → n17.toInt = k0.toInt) ∧ (¬ (σ.1 8).toInt = 0 → n17.toInt = (σ.1 9).toInt) := hr15y
        have hr15 : ((σ.1 8).toInt = 0 → n16.toInt = (1 : Int32).toInt) ∧ (¬ (σ.1 8).toInt = 0 → n16.toInt = (σ.1 8).toInt) := hr15
        obtain ⟨hr15y_0, hr15y_1⟩ := hr15y
        obtain ⟨hr15_0, hr15_1⟩ := hr15
        have hP : RP D cy ad (rS (rS σ 8 n16) 9 n17) H := hP
        refine lv_aload_n hx hb dX12_quoted_72 rfl (lv_at hl 2 rfl) ?_
        refine rg_1 (v := (σ.1 1)) C hP rfl wm_3 dX12_quoted_73 ?_
        have hP : RP D cy ad (rS (rS (rA (rJ (rA (rA (rS σ 3 (σ.1 3)) 4 (σ.2.1 4)) 5 (σ.2.1 5)) 6 (σ.2.2.1 6)) 7 (σ.2.1 7)) 8 n16) 9 n17) H := RP.cong hP (Eq.trans (b := (σ.1 0)) rfl rfl) (Eq.trans (b := (σ.1 1)) rfl rfl) (Eq.trans (b := (σ.2.1 2)) rfl rfl) (Eq.trans (b := (σ.1 3)) rfl rfl) (Eq.trans (b := (σ.2.1 4)) rfl rfl) (Eq.trans (b := (σ.2.1 5)) rfl rfl) (Eq.trans (b := (σ.2.2.1 6)) rfl rfl) (Eq.trans (b := (σ.2.1 7)) rfl rfl) (Eq.trans (b := n16) rfl rfl) (Eq.trans (b := n17) rfl rfl) (Eq.trans (b := (σ.1 10)) rfl rfl) (Eq.trans (b := (σ.2.1 11)) rfl rfl) (Eq.trans (b := (σ.2.2.1 12)) rfl rfl) (Eq.trans (b := (σ.2.1 13)) rfl rfl) (Eq.trans (b := (σ.1 14)) rfl rfl) (Eq.trans (b := (σ.1 15)) rfl rfl) (Eq.trans (b := (σ.1 16)) rfl rfl) (Eq.trans (b := (σ.1 17)) rfl rfl) (Eq.trans (b := (σ.1 18)) rfl rfl) (Eq.trans (b := (σ.1 19)) rfl rfl) (Eq.trans (b := (σ.2.1 20)) rfl rfl) (Eq.trans (b := (σ.2.1 21)) rfl rfl) (Eq.trans (b := (σ.2.1 22)) rfl rfl) (Eq.trans (b := (σ.2.1 23)) rfl rfl) (Eq.trans (b := (σ.2.1 24)) rfl rfl) (Eq.trans (b := (σ.2.1 25)) rfl rfl) (Eq.trans (b := (σ.2.1 26)) rfl rfl) (Eq.trans (b := (σ.2.1 27)) rfl rfl) (Eq.trans (b := (σ.2.1 28)) rfl rfl) (Eq.trans (b := (σ.1 29)) rfl rfl) (Eq.trans (b := (σ.2.1 30)) rfl rfl) (Eq.trans (b := (σ.2.1 31)) rfl rfl) (Eq.trans (b := (σ.2.1 32)) rfl rfl) (Eq.trans (b := (σ.1 33)) rfl rfl) (Eq.trans (b := (σ.1 34)) rfl rfl) (Eq.trans (b := (σ.1 35)) rfl rfl) (Eq.trans (b := (σ.2.1 36)) rfl rfl) (Eq.trans (b := (σ.2.1 37)) rfl rfl) (Eq.trans (b := (σ.2.1 38)) rfl rfl) (Eq.trans (b := (σ.2.1 39)) rfl rfl) (Eq.trans (b := (σ.2.1 40)) rfl rfl) (Eq.trans (b := (σ.2.1 41)) rfl rfl) (Eq.trans (b := (σ.2.1 42)) rfl rfl) (Eq.trans (b := (σ.2.1 43)) rfl rfl) (Eq.trans (b := (σ.2.1 44)) rfl rfl) (Eq.trans (b := (σ.2.1 45)) rfl rfl) (Eq.trans (b := (σ.2.1 46)) rfl rfl) (Eq.trans (b := (σ.1 47)) rfl rfl) (Eq.trans (b := (σ.2.1 48)) rfl rfl) (Eq.trans (b := (σ.1 49)) rfl rfl) (Eq.trans (b := (σ.2.1 50)) rfl rfl) (Eq.trans (b := (σ.2.1 51)) rfl rfl) (Eq.trans (b := (σ.2.2.1 52)) rfl rfl) (Eq.trans (b := (σ.2.2.1 53)) rfl rfl) (Eq.trans (b := (σ.2.2.2)) rfl rfl) (Eq.trans (b := (σ.1 55)) rfl rfl) (Eq.trans (b := (σ.1 56)) rfl rfl) (Eq.trans (b := (σ.1 57)) rfl rfl) (Eq.trans (b := (σ.2.1 58)) rfl rfl) (Eq.trans (b := (σ.1 59)) rfl rfl)
        exact r_reti C ⟨(σ.1 3), (σ.2.1 4), (σ.2.1 5), (σ.2.2.1 6), (σ.2.1 7), n16, n17⟩ ⟨(v_quoted_11 σ k0 x1 y2 r5 n16 hpre_0 hpre_1 hpre_2 hpre_3 hpre_4 hpre_5 hpre_6 hpre_7 ex1 tx1 hi6_0 hi6_1 c4 hr5 c6 hr15_0 hr15_1), (v_quoted_12 σ k0 x1 y2 r5 n16 n17 hpre_0 hpre_1 hpre_2 hpre_3 hpre_4 hpre_5 hpre_6 hpre_7 ex1 tx1 hi6_0 hi6_1 hi6y_0 hi6y_1 c4 hr5y hr5 c6 hr15y_0 hr15y_1 hr15_0 hr15_1)⟩ hP hS dX12_quoted_76
    · have c4 : y2.toInt < (σ.1 1).toInt := by have h := z_nle c4; exact h
      refine lv_aload_n hx hb dX12_quoted_14 rfl (lv_at hl 2 rfl) ?_
      refine lv_iload_n hx hb dX12_quoted_15 rfl (lv_at hl 1 rfl) ?_
      refine r_callVi (As := [.int y2]) (rest := []) C hP hS hl.1 ⟨Nat.zero_le _, Nat.zero_le _⟩ (M_at l D cy sz0 sa ad σ H.size y2 (v_quoted_13 σ k0 x1 y2 hpre_0 hpre_1 hpre_2 hpre_3 hpre_4 hpre_5 ex1 tx1 hi6_0 hi6_1 c4)) (n := 1) ⟨wm_7, wm_5, by decide +kernel⟩ ⟨wm_8, wm_9, wm_10⟩ rfl rfl (lv_room (Nat.le_of_ble_eq_true rfl)) ⟨Nat.le_of_ble_eq_true rfl, Nat.le_of_ble_eq_true rfl⟩ dX12_quoted_16 (fun r18 u H locs hr18 hP hS => ?_)
      obtain ⟨hr18, hr18y⟩ := hr18
      have hr18y : r18.toInt = tx (σ.2.1 2) (σ.1 1) y2.toInt := hr18y
      have hr18 : (y2.toInt < (σ.1 1).toInt ∧ r18.toInt = ((σ.2.1 2) y2.toNatClampNeg).toInt) ∨ ((σ.1 1).toInt ≤ y2.toInt ∧ r18.toInt = 0) := hr18
      refine lv_bipush (v := 39) hx hb dX12_quoted_19 (by decide +kernel) ?_
      refine lv_icmp_eq (tgt := 56) hx hb dX12_quoted_21 (by decide) (fun c19 => ?_) (fun c19 => ?_)
      · have c19 : r18.toInt = 39 := by have h := z_eq c19; rw [show (39 : Int32).toInt = 39 from by decide +kernel] at h; exact h
        refine lv_aload_n hx hb dX12_quoted_56 rfl (lv_at hl 2 rfl) ?_
        refine lv_iload_n hx hb dX12_quoted_57 rfl (lv_at hl 1 rfl) ?_
        refine r_callVi (As := [.int y2]) (rest := []) C hP hS hl.1 ⟨Nat.zero_le _, Nat.zero_le _⟩ (M_at l D cy sz0 sa ad σ H.size y2 (v_quoted_14 σ k0 x1 y2 r18 hpre_0 hpre_1 hpre_2 hpre_3 hpre_4 hpre_5 ex1 tx1 hi6_0 hi6_1 c4 hr18 c19)) (n := 1) ⟨wm_7, wm_5, by decide +kernel⟩ ⟨wm_8, wm_9, wm_10⟩ rfl rfl (lv_room (Nat.le_of_ble_eq_true rfl)) ⟨Nat.le_of_ble_eq_true rfl, Nat.le_of_ble_eq_true rfl⟩ dX12_quoted_58 (fun r20 u H locs hr20 hP hS => ?_)
        obtain ⟨hr20, hr20y⟩ := hr20
        have hr20y : r20.toInt = tx (σ.2.1 2) (σ.1 1) y2.toInt := hr20y
        have hr20 : (y2.toInt < (σ.1 1).toInt ∧ r20.toInt = ((σ.2.1 2) y2.toNatClampNeg).toInt) ∨ ((σ.1 1).toInt ≤ y2.toInt ∧ r20.toInt = 0) := hr20
        refine lv_bipush (v := 39) hx hb dX12_quoted_61 (by decide +kernel) ?_
        refine lv_icmp_eq (tgt := 77) hx hb dX12_quoted_63 (by decide) (fun c21 => ?_) (fun c21 => ?_)
        · have c21 : r20.toInt = 39 := by have h := z_eq c21; rw [show (39 : Int32).toInt = 39 from by decide +kernel] at h; exact h
          refine lv_aload_n hx hb dX12_quoted_77 rfl (lv_at hl 2 rfl) ?_
          refine lv_iconst (v := 4) hx hb dX12_quoted_78 (by decide +kernel) ?_
          refine lv_iload_n hx hb dX12_quoted_79 rfl (lv_at hl 3 rfl) ?_
          refine lv_lload_n hx hb dX12_quoted_80 rfl (lv_at hl 0 rfl) ?_
          refine lv_iload_n hx hb dX12_quoted_81 rfl (lv_at hl 1 rfl) ?_
          refine lv_iload_n hx hb dX12_quoted_82 rfl (lv_at hl 3 rfl) ?_
          refine lv_isub hx hb dX12_quoted_83 ?_
          refine lv_topi (fun x22 ex22 => ?_)
          have tx22 : x22.toInt = y2.toInt - k0.toInt := (v_quoted_15 σ k0 x1 y2 r18 r20 x22 hpre_0 hpre_1 hpre_2 hpre_3 hpre_4 hpre_5 ex1 tx1 hi6_0 hi6_1 c4 hr18 c19 hr20 c21 ex22)
          refine lv_iconst (v := 1) hx hb dX12_quoted_84 (by decide +kernel) ?_
          refine lv_isub hx hb dX12_quoted_85 ?_
          refine lv_topi (fun x23 ex23 => ?_)
          have tx23 : x23.toInt = x22.toInt - 1 := (v_quoted_16 σ k0 x1 y2 r18 r20 x22 x23 hpre_0 hpre_1 hpre_2 hpre_3 hpre_4 hpre_5 ex1 tx1 hi6_0 hi6_1 c4 hr18 c19 hr20 c21 ex22 tx22 ex23)
          refine lv_i2l hx hb dX12_quoted_86 rfl ?_
          refine lv_topl (fun x24 ex24 => ?_)
          have tx24 : x24.toInt = x23.toInt := by rw [ex24]; exact Int32.toInt_toInt64 _
          refine lv_bipush (v := 56) hx hb dX12_quoted_87 (by decide +kernel) ?_
          refine lv_lshl hx hb dX12_quoted_89 rfl ?_
          refine lv_topl (fun x25 ex25 => ?_)
          refine lv_lor hx hb dX12_quoted_90 ?_
          refine lv_topl (fun x26 ex26 => ?_)
          refine r_callVv (As := [.int 4, .int k0, .long x26]) (rest := []) C hP hS hl.1 ⟨Nat.zero_le _, Nat.zero_le _⟩ (M_add l D cy sz0 sa ad σ H.size (4 : Int32) k0 x26 (v_quoted_17 σ k0 x1 y2 y3 x22 x23 x24 x25 x26 hpre_0 hpre_1 hpre_2 hpre_3 hpre_4 hpre_5 ex1 tx1 hi6_0 hi6_1 c4 ex22 tx22 ex23 tx23 ex24 tx24 ex25 ex26)) (n := 3) ⟨wm_30, wm_15, by decide +kernel⟩ ⟨wm_31, wm_32, wm_10⟩ rfl rfl (lv_room (Nat.le_of_ble_eq_true rfl)) ⟨Nat.le_of_ble_eq_true rfl, Nat.le_of_ble_eq_true rfl⟩ dX12_quoted_91 (fun u H locs hr27 hP hS => ?_)
          obtain ⟨n28, rfl⟩ : ∃ z, z = u := ⟨_, rfl⟩
          have hr27 : n28.toInt = (σ.1 3).toInt + 1 := hr27
          have hP : RP D cy ad (rS (rA (rJ (rA (rA σ 4 (upd (σ.2.1 4) (σ.1 3).toNatClampNeg (4 : Int32))) 5 (upd (σ.2.1 5) (σ.1 3).toNatClampNeg k0)) 6 (vp_updL (σ.2.2.1 6) (σ.1 3).toNatClampNeg x26)) 7 (upd (σ.2.1 7) (σ.1 3).toNatClampNeg (0 : Int32))) 3 n28) H := hP
          refine lv_iload_n hx hb dX12_quoted_94 rfl (lv_at hl 1 rfl) ?_
          refine lv_iconst (v := 1) hx hb dX12_quoted_95 (by decide +kernel) ?_
          refine lv_iadd hx hb dX12_quoted_96 ?_
          refine lv_topi (fun x29 ex29 => ?_)
          have tx29 : x29.toInt = y2.toInt + 1 := (v_quoted_18 σ k0 x1 y2 y3 r18 r20 x22 x23 x24 x25 x26 n28 x29 hpre_0 hpre_1 hpre_2 hpre_3 hpre_4 hpre_5 ex1 tx1 hi6_0 hi6_1 c4 hr18 c19 hr20 c21 ex22 tx22 ex23 tx23 ex24 tx24 ex25 ex26 hr27 ex29)
          have hP : RP D cy ad (rS (rS (rA (rJ (rA (rA (rS σ 3 n28) 4 (upd (σ.2.1 4) (σ.1 3).toNatClampNeg (4 : Int32))) 5 (upd (σ.2.1 5) (σ.1 3).toNatClampNeg k0)) 6 (vp_updL (σ.2.2.1 6) (σ.1 3).toNatClampNeg x26)) 7 (upd (σ.2.1 7) (σ.1 3).toNatClampNeg (0 : Int32))) 8 (σ.1 8)) 9 (σ.1 9)) H := RP.cong hP (Eq.trans (b := (σ.1 0)) rfl rfl) (Eq.trans (b := (σ.1 1)) rfl rfl) (Eq.trans (b := (σ.2.1 2)) rfl rfl) (Eq.trans (b := n28) rfl rfl) (Eq.trans (b := (upd (σ.2.1 4) (σ.1 3).toNatClampNeg (4 : Int32))) rfl rfl) (Eq.trans (b := (upd (σ.2.1 5) (σ.1 3).toNatClampNeg k0)) rfl rfl) (Eq.trans (b := (vp_updL (σ.2.2.1 6) (σ.1 3).toNatClampNeg x26)) rfl rfl) (Eq.trans (b := (upd (σ.2.1 7) (σ.1 3).toNatClampNeg (0 : Int32))) rfl rfl) (Eq.trans (b := (σ.1 8)) rfl rfl) (Eq.trans (b := (σ.1 9)) rfl rfl) (Eq.trans (b := (σ.1 10)) rfl rfl) (Eq.trans (b := (σ.2.1 11)) rfl rfl) (Eq.trans (b := (σ.2.2.1 12)) rfl rfl) (Eq.trans (b := (σ.2.1 13)) rfl rfl) (Eq.trans (b := (σ.1 14)) rfl rfl) (Eq.trans (b := (σ.1 15)) rfl rfl) (Eq.trans (b := (σ.1 16)) rfl rfl) (Eq.trans (b := (σ.1 17)) rfl rfl) (Eq.trans (b := (σ.1 18)) rfl rfl) (Eq.trans (b := (σ.1 19)) rfl rfl) (Eq.trans (b := (σ.2.1 20)) rfl rfl) (Eq.trans (b := (σ.2.1 21)) rfl rfl) (Eq.trans (b := (σ.2.1 22)) rfl rfl) (Eq.trans (b := (σ.2.1 23)) rfl rfl) (Eq.trans (b := (σ.2.1 24)) rfl rfl) (Eq.trans (b := (σ.2.1 25)) rfl rfl) (Eq.trans (b := (σ.2.1 26)) rfl rfl) (Eq.trans (b := (σ.2.1 27)) rfl rfl) (Eq.trans (b := (σ.2.1 28)) rfl rfl) (Eq.trans (b := (σ.1 29)) rfl rfl) (Eq.trans (b := (σ.2.1 30)) rfl rfl) (Eq.trans (b := (σ.2.1 31)) rfl rfl) (Eq.trans (b := (σ.2.1 32)) rfl rfl) (Eq.trans (b := (σ.1 33)) rfl rfl) (Eq.trans (b := (σ.1 34)) rfl rfl) (Eq.trans (b := (σ.1 35)) rfl rfl) (Eq.trans (b := (σ.2.1 36)) rfl rfl) (Eq.trans (b := (σ.2.1 37)) rfl rfl) (Eq.trans (b := (σ.2.1 38)) rfl rfl) (Eq.trans (b := (σ.2.1 39)) rfl rfl) (Eq.trans (b := (σ.2.1 40)) rfl rfl) (Eq.trans (b := (σ.2.1 41)) rfl rfl) (Eq.trans (b := (σ.2.1 42)) rfl rfl) (Eq.trans (b := (σ.2.1 43)) rfl rfl) (Eq.trans (b := (σ.2.1 44)) rfl rfl) (Eq.trans (b := (σ.2.1 45)) rfl rfl) (Eq.trans (b := (σ.2.1 46)) rfl rfl) (Eq.trans (b := (σ.1 47)) rfl rfl) (Eq.trans (b := (σ.2.1 48)) rfl rfl) (Eq.trans (b := (σ.1 49)) rfl rfl) (Eq.trans (b := (σ.2.1 50)) rfl rfl) (Eq.trans (b := (σ.2.1 51)) rfl rfl) (Eq.trans (b := (σ.2.2.1 52)) rfl rfl) (Eq.trans (b := (σ.2.2.1 53)) rfl rfl) (Eq.trans (b := (σ.2.2.2)) rfl rfl) (Eq.trans (b := (σ.1 55)) rfl rfl) (Eq.trans (b := (σ.1 56)) rfl rfl) (Eq.trans (b := (σ.1 57)) rfl rfl) (Eq.trans (b := (σ.2.1 58)) rfl rfl) (Eq.trans (b := (σ.1 59)) rfl rfl)
          exact r_reti C ⟨n28, (upd (σ.2.1 4) (σ.1 3).toNatClampNeg (4 : Int32)), (upd (σ.2.1 5) (σ.1 3).toNatClampNeg k0), (vp_updL (σ.2.2.1 6) (σ.1 3).toNatClampNeg x26), (upd (σ.2.1 7) (σ.1 3).toNatClampNeg (0 : Int32)), (σ.1 8), (σ.1 9)⟩ ⟨(v_quoted_19 σ k0 x1 y2 y3 r18 r20 x22 x23 x24 x25 x26 n28 x29 hpre_0 hpre_1 hpre_2 hpre_3 hpre_4 hpre_5 hpre_6 hpre_7 ex1 tx1 hi6_0 hi6_1 c4 hr18 c19 hr20 c21 ex22 tx22 ex23 tx23 ex24 tx24 ex25 ex26 hr27 ex29 tx29), (v_quoted_20 σ k0 x1 y2 y3 r18 r20 x22 x23 x24 x25 x26 n28 x29 hpre_0 hpre_1 hpre_2 hpre_3 hpre_4 hpre_5 hpre_6 hpre_7 ex1 tx1 hi6_0 hi6_1 hi6y_0 hi6y_1 c4 hr18y hr18 c19 hr20y hr20 c21 ex22 tx22 ex23 tx23 ex24 tx24 ex25 ex26 hr27 ex29 tx29)⟩ hP hS dX12_quoted_97
        · have c21 : ¬ r20.toInt = 39 := by have h := z_ne c21; rw [show (39 : Int32).toInt = 39 from by decide +kernel] at h; exact h
          refine lv_aload_n hx hb dX12_quoted_66 rfl (lv_at hl 2 rfl) ?_
          refine lv_iconst (v := 1) hx hb dX12_quoted_67 (by decide +kernel) ?_
          refine lv_iload_n hx hb dX12_quoted_68 rfl (lv_at hl 3 rfl) ?_
          refine r_callVv (As := [.int 1, .int k0]) (rest := []) C hP hS hl.1 ⟨Nat.zero_le _, Nat.zero_le _⟩ (M_wrong l D cy sz0 sa ad σ H.size (1 : Int32) k0 trivial) (n := 2) ⟨wm_27, wm_12, by decide +kernel⟩ ⟨wm_28, wm_29, wm_10⟩ rfl rfl (lv_room (Nat.le_of_ble_eq_true rfl)) ⟨Nat.le_of_ble_eq_true rfl, Nat.le_of_ble_eq_true rfl⟩ dX12_quoted_69 (fun u H locs hr30 hP hS => ?_)
          obtain ⟨n31, n32⟩ := u
          obtain ⟨hr30, hr30y⟩ := hr30
          have hr30y : ((σ.1 8).toInt = 0 → n32.toInt = k0.toInt) ∧ (¬ (σ.1 8).toInt = 0 → n32.toInt = (σ.1 9).toInt) := hr30y
          have hr30 : ((σ.1 8).toInt = 0 → n31.toInt = (1 : Int32).toInt) ∧ (¬ (σ.1 8).toInt = 0 → n31.toInt = (σ.1 8).toInt) := hr30
          obtain ⟨hr30y_0, hr30y_1⟩ := hr30y
          obtain ⟨hr30_0, hr30_1⟩ := hr30
          have hP : RP D cy ad (rS (rS σ 8 n31) 9 n32) H := hP
          refine lv_aload_n hx hb dX12_quoted_72 rfl (lv_at hl 2 rfl) ?_
          refine rg_1 (v := (σ.1 1)) C hP rfl wm_3 dX12_quoted_73 ?_
          have hP : RP D cy ad (rS (rS (rA (rJ (rA (rA (rS σ 3 (σ.1 3)) 4 (σ.2.1 4)) 5 (σ.2.1 5)) 6 (σ.2.2.1 6)) 7 (σ.2.1 7)) 8 n31) 9 n32) H := RP.cong hP (Eq.trans (b := (σ.1 0)) rfl rfl) (Eq.trans (b := (σ.1 1)) rfl rfl) (Eq.trans (b := (σ.2.1 2)) rfl rfl) (Eq.trans (b := (σ.1 3)) rfl rfl) (Eq.trans (b := (σ.2.1 4)) rfl rfl) (Eq.trans (b := (σ.2.1 5)) rfl rfl) (Eq.trans (b := (σ.2.2.1 6)) rfl rfl) (Eq.trans (b := (σ.2.1 7)) rfl rfl) (Eq.trans (b := n31) rfl rfl) (Eq.trans (b := n32) rfl rfl) (Eq.trans (b := (σ.1 10)) rfl rfl) (Eq.trans (b := (σ.2.1 11)) rfl rfl) (Eq.trans (b := (σ.2.2.1 12)) rfl rfl) (Eq.trans (b := (σ.2.1 13)) rfl rfl) (Eq.trans (b := (σ.1 14)) rfl rfl) (Eq.trans (b := (σ.1 15)) rfl rfl) (Eq.trans (b := (σ.1 16)) rfl rfl) (Eq.trans (b := (σ.1 17)) rfl rfl) (Eq.trans (b := (σ.1 18)) rfl rfl) (Eq.trans (b := (σ.1 19)) rfl rfl) (Eq.trans (b := (σ.2.1 20)) rfl rfl) (Eq.trans (b := (σ.2.1 21)) rfl rfl) (Eq.trans (b := (σ.2.1 22)) rfl rfl) (Eq.trans (b := (σ.2.1 23)) rfl rfl) (Eq.trans (b := (σ.2.1 24)) rfl rfl) (Eq.trans (b := (σ.2.1 25)) rfl rfl) (Eq.trans (b := (σ.2.1 26)) rfl rfl) (Eq.trans (b := (σ.2.1 27)) rfl rfl) (Eq.trans (b := (σ.2.1 28)) rfl rfl) (Eq.trans (b := (σ.1 29)) rfl rfl) (Eq.trans (b := (σ.2.1 30)) rfl rfl) (Eq.trans (b := (σ.2.1 31)) rfl rfl) (Eq.trans (b := (σ.2.1 32)) rfl rfl) (Eq.trans (b := (σ.1 33)) rfl rfl) (Eq.trans (b := (σ.1 34)) rfl rfl) (Eq.trans (b := (σ.1 35)) rfl rfl) (Eq.trans (b := (σ.2.1 36)) rfl rfl) (Eq.trans (b := (σ.2.1 37)) rfl rfl) (Eq.trans (b := (σ.2.1 38)) rfl rfl) (Eq.trans (b := (σ.2.1 39)) rfl rfl) (Eq.trans (b := (σ.2.1 40)) rfl rfl) (Eq.trans (b := (σ.2.1 41)) rfl rfl) (Eq.trans (b := (σ.2.1 42)) rfl rfl) (Eq.trans (b := (σ.2.1 43)) rfl rfl) (Eq.trans (b := (σ.2.1 44)) rfl rfl) (Eq.trans (b := (σ.2.1 45)) rfl rfl) (Eq.trans (b := (σ.2.1 46)) rfl rfl) (Eq.trans (b := (σ.1 47)) rfl rfl) (Eq.trans (b := (σ.2.1 48)) rfl rfl) (Eq.trans (b := (σ.1 49)) rfl rfl) (Eq.trans (b := (σ.2.1 50)) rfl rfl) (Eq.trans (b := (σ.2.1 51)) rfl rfl) (Eq.trans (b := (σ.2.2.1 52)) rfl rfl) (Eq.trans (b := (σ.2.2.1 53)) rfl rfl) (Eq.trans (b := (σ.2.2.2)) rfl rfl) (Eq.trans (b := (σ.1 55)) rfl rfl) (Eq.trans (b := (σ.1 56)) rfl rfl) (Eq.trans (b := (σ.1 57)) rfl rfl) (Eq.trans (b := (σ.2.1 58)) rfl rfl) (Eq.trans (b := (σ.1 59)) rfl rfl)
          exact r_reti C ⟨(σ.1 3), (σ.2.1 4), (σ.2.1 5), (σ.2.2.1 6), (σ.2.1 7), n31, n32⟩ ⟨(v_quoted_21 σ k0 x1 y2 r18 r20 n31 hpre_0 hpre_1 hpre_2 hpre_3 hpre_4 hpre_5 hpre_6 hpre_7 ex1 tx1 hi6_0 hi6_1 c4 hr18 c19 hr20 c21 hr30_0 hr30_1), (v_quoted_22 σ k0 x1 y2 r18 r20 n31 n32 hpre_0 hpre_1 hpre_2 hpre_3 hpre_4 hpre_5 hpre_6 hpre_7 ex1 tx1 hi6_0 hi6_1 hi6y_0 hi6y_1 c4 hr18y hr18 c19 hr20y hr20 c21 hr30y_0 hr30y_1 hr30_0 hr30_1)⟩ hP hS dX12_quoted_76
      · have c19 : ¬ r18.toInt = 39 := by have h := z_ne c19; rw [show (39 : Int32).toInt = 39 from by decide +kernel] at h; exact h
        refine lv_iload_n hx hb dX12_quoted_24 rfl (lv_at hl 1 rfl) ?_
        refine lv_iload_n hx hb dX12_quoted_25 rfl (lv_at hl 3 rfl) ?_
        refine lv_isub hx hb dX12_quoted_26 ?_
        refine lv_topi (fun x33 ex33 => ?_)
        have tx33 : x33.toInt = y2.toInt - k0.toInt := (v_quoted_23 σ k0 x1 y2 r18 x33 hpre_0 hpre_1 hpre_2 hpre_3 hpre_4 hpre_5 ex1 tx1 hi6_0 hi6_1 c4 hr18 c19 ex33)
        refine lv_bipush (v := 8) hx hb dX12_quoted_27 (by decide +kernel) ?_
        refine lv_icmp_gt (tgt := 56) hx hb dX12_quoted_29 (by decide) (fun c34 => ?_) (fun c34 => ?_)
        · have c34 : 8 < x33.toInt := by have h := z_lt c34; rw [show (8 : Int32).toInt = 8 from by decide +kernel] at h; exact h
          refine lv_aload_n hx hb dX12_quoted_56 rfl (lv_at hl 2 rfl) ?_
          refine lv_iload_n hx hb dX12_quoted_57 rfl (lv_at hl 1 rfl) ?_
          refine r_callVi (As := [.int y2]) (rest := []) C hP hS hl.1 ⟨Nat.zero_le _, Nat.zero_le _⟩ (M_at l D cy sz0 sa ad σ H.size y2 (v_quoted_24 σ k0 x1 y2 r18 x33 hpre_0 hpre_1 hpre_2 hpre_3 hpre_4 hpre_5 ex1 tx1 hi6_0 hi6_1 c4 hr18 c19 ex33 tx33 c34)) (n := 1) ⟨wm_7, wm_5, by decide +kernel⟩ ⟨wm_8, wm_9, wm_10⟩ rfl rfl (lv_room (Nat.le_of_ble_eq_true rfl)) ⟨Nat.le_of_ble_eq_true rfl, Nat.le_of_ble_eq_true rfl⟩ dX12_quoted_58 (fun r35 u H locs hr35 hP hS => ?_)
          obtain ⟨hr35, hr35y⟩ := hr35
          have hr35y : r35.toInt = tx (σ.2.1 2) (σ.1 1) y2.toInt := hr35y
          have hr35 : (y2.toInt < (σ.1 1).toInt ∧ r35.toInt = ((σ.2.1 2) y2.toNatClampNeg).toInt) ∨ ((σ.1 1).toInt ≤ y2.toInt ∧ r35.toInt = 0) := hr35
          refine lv_bipush (v := 39) hx hb dX12_quoted_61 (by decide +kernel) ?_
          refine lv_icmp_eq (tgt := 77) hx hb dX12_quoted_63 (by decide) (fun c36 => ?_) (fun c36 => ?_)
          · have c36 : r35.toInt = 39 := by have h := z_eq c36; rw [show (39 : Int32).toInt = 39 from by decide +kernel] at h; exact h
            refine lv_aload_n hx hb dX12_quoted_77 rfl (lv_at hl 2 rfl) ?_
            refine lv_iconst (v := 4) hx hb dX12_quoted_78 (by decide +kernel) ?_
            refine lv_iload_n hx hb dX12_quoted_79 rfl (lv_at hl 3 rfl) ?_
            refine lv_lload_n hx hb dX12_quoted_80 rfl (lv_at hl 0 rfl) ?_
            refine lv_iload_n hx hb dX12_quoted_81 rfl (lv_at hl 1 rfl) ?_
            refine lv_iload_n hx hb dX12_quoted_82 rfl (lv_at hl 3 rfl) ?_
            refine lv_isub hx hb dX12_quoted_83 ?_
            refine lv_topi (fun x37 ex37 => ?_)
            have tx37 : x37.toInt = y2.toInt - k0.toInt := (v_quoted_25 σ k0 x1 y2 r18 x33 r35 x37 hpre_0 hpre_1 hpre_2 hpre_3 hpre_4 hpre_5 ex1 tx1 hi6_0 hi6_1 c4 hr18 c19 ex33 tx33 c34 hr35 c36 ex37)
            refine lv_iconst (v := 1) hx hb dX12_quoted_84 (by decide +kernel) ?_
            refine lv_isub hx hb dX12_quoted_85 ?_
            refine lv_topi (fun x38 ex38 => ?_)
            have tx38 : x38.toInt = x37.toInt - 1 := (v_quoted_26 σ k0 x1 y2 r18 x33 r35 x37 x38 hpre_0 hpre_1 hpre_2 hpre_3 hpre_4 hpre_5 ex1 tx1 hi6_0 hi6_1 c4 hr18 c19 ex33 tx33 c34 hr35 c36 ex37 tx37 ex38)
            refine lv_i2l hx hb dX12_quoted_86 rfl ?_
            refine lv_topl (fun x39 ex39 => ?_)
            have tx39 : x39.toInt = x38.toInt := by rw [ex39]; exact Int32.toInt_toInt64 _
            refine lv_bipush (v := 56) hx hb dX12_quoted_87 (by decide +kernel) ?_
            refine lv_lshl hx hb dX12_quoted_89 rfl ?_
            refine lv_topl (fun x40 ex40 => ?_)
            refine lv_lor hx hb dX12_quoted_90 ?_
            refine lv_topl (fun x41 ex41 => ?_)
            refine r_callVv (As := [.int 4, .int k0, .long x41]) (rest := []) C hP hS hl.1 ⟨Nat.zero_le _, Nat.zero_le _⟩ (M_add l D cy sz0 sa ad σ H.size (4 : Int32) k0 x41 (v_quoted_27 σ k0 x1 y2 y3 x33 x37 x38 x39 x40 x41 hpre_0 hpre_1 hpre_2 hpre_3 hpre_4 hpre_5 ex1 tx1 hi6_0 hi6_1 c4 ex33 tx33 c34 ex37 tx37 ex38 tx38 ex39 tx39 ex40 ex41)) (n := 3) ⟨wm_30, wm_15, by decide +kernel⟩ ⟨wm_31, wm_32, wm_10⟩ rfl rfl (lv_room (Nat.le_of_ble_eq_true rfl)) ⟨Nat.le_of_ble_eq_true rfl, Nat.le_of_ble_eq_true rfl⟩ dX12_quoted_91 (fun u H locs hr42 hP hS => ?_)
            obtain ⟨n43, rfl⟩ : ∃ z, z = u := ⟨_, rfl⟩
            have hr42 : n43.toInt = (σ.1 3).toInt + 1 := hr42
            have hP : RP D cy ad (rS (rA (rJ (rA (rA σ 4 (upd (σ.2.1 4) (σ.1 3).toNatClampNeg (4 : Int32))) 5 (upd (σ.2.1 5) (σ.1 3).toNatClampNeg k0)) 6 (vp_updL (σ.2.2.1 6) (σ.1 3).toNatClampNeg x41)) 7 (upd (σ.2.1 7) (σ.1 3).toNatClampNeg (0 : Int32))) 3 n43) H := hP
            refine lv_iload_n hx hb dX12_quoted_94 rfl (lv_at hl 1 rfl) ?_
            refine lv_iconst (v := 1) hx hb dX12_quoted_95 (by decide +kernel) ?_
            refine lv_iadd hx hb dX12_quoted_96 ?_
            refine lv_topi (fun x44 ex44 => ?_)
            have tx44 : x44.toInt = y2.toInt + 1 := (v_quoted_28 σ k0 x1 y2 y3 r18 x33 r35 x37 x38 x39 x40 x41 n43 x44 hpre_0 hpre_1 hpre_2 hpre_3 hpre_4 hpre_5 ex1 tx1 hi6_0 hi6_1 c4 hr18 c19 ex33 tx33 c34 hr35 c36 ex37 tx37 ex38 tx38 ex39 tx39 ex40 ex41 hr42 ex44)
            have hP : RP D cy ad (rS (rS (rA (rJ (rA (rA (rS σ 3 n43) 4 (upd (σ.2.1 4) (σ.1 3).toNatClampNeg (4 : Int32))) 5 (upd (σ.2.1 5) (σ.1 3).toNatClampNeg k0)) 6 (vp_updL (σ.2.2.1 6) (σ.1 3).toNatClampNeg x41)) 7 (upd (σ.2.1 7) (σ.1 3).toNatClampNeg (0 : Int32))) 8 (σ.1 8)) 9 (σ.1 9)) H := RP.cong hP (Eq.trans (b := (σ.1 0)) rfl rfl) (Eq.trans (b := (σ.1 1)) rfl rfl) (Eq.trans (b := (σ.2.1 2)) rfl rfl) (Eq.trans (b := n43) rfl rfl) (Eq.trans (b := (upd (σ.2.1 4) (σ.1 3).toNatClampNeg (4 : Int32))) rfl rfl) (Eq.trans (b := (upd (σ.2.1 5) (σ.1 3).toNatClampNeg k0)) rfl rfl) (Eq.trans (b := (vp_updL (σ.2.2.1 6) (σ.1 3).toNatClampNeg x41)) rfl rfl) (Eq.trans (b := (upd (σ.2.1 7) (σ.1 3).toNatClampNeg (0 : Int32))) rfl rfl) (Eq.trans (b := (σ.1 8)) rfl rfl) (Eq.trans (b := (σ.1 9)) rfl rfl) (Eq.trans (b := (σ.1 10)) rfl rfl) (Eq.trans (b := (σ.2.1 11)) rfl rfl) (Eq.trans (b := (σ.2.2.1 12)) rfl rfl) (Eq.trans (b := (σ.2.1 13)) rfl rfl) (Eq.trans (b := (σ.1 14)) rfl rfl) (Eq.trans (b := (σ.1 15)) rfl rfl) (Eq.trans (b := (σ.1 16)) rfl rfl) (Eq.trans (b := (σ.1 17)) rfl rfl) (Eq.trans (b := (σ.1 18)) rfl rfl) (Eq.trans (b := (σ.1 19)) rfl rfl) (Eq.trans (b := (σ.2.1 20)) rfl rfl) (Eq.trans (b := (σ.2.1 21)) rfl rfl) (Eq.trans (b := (σ.2.1 22)) rfl rfl) (Eq.trans (b := (σ.2.1 23)) rfl rfl) (Eq.trans (b := (σ.2.1 24)) rfl rfl) (Eq.trans (b := (σ.2.1 25)) rfl rfl) (Eq.trans (b := (σ.2.1 26)) rfl rfl) (Eq.trans (b := (σ.2.1 27)) rfl rfl) (Eq.trans (b := (σ.2.1 28)) rfl rfl) (Eq.trans (b := (σ.1 29)) rfl rfl) (Eq.trans (b := (σ.2.1 30)) rfl rfl) (Eq.trans (b := (σ.2.1 31)) rfl rfl) (Eq.trans (b := (σ.2.1 32)) rfl rfl) (Eq.trans (b := (σ.1 33)) rfl rfl) (Eq.trans (b := (σ.1 34)) rfl rfl) (Eq.trans (b := (σ.1 35)) rfl rfl) (Eq.trans (b := (σ.2.1 36)) rfl rfl) (Eq.trans (b := (σ.2.1 37)) rfl rfl) (Eq.trans (b := (σ.2.1 38)) rfl rfl) (Eq.trans (b := (σ.2.1 39)) rfl rfl) (Eq.trans (b := (σ.2.1 40)) rfl rfl) (Eq.trans (b := (σ.2.1 41)) rfl rfl) (Eq.trans (b := (σ.2.1 42)) rfl rfl) (Eq.trans (b := (σ.2.1 43)) rfl rfl) (Eq.trans (b := (σ.2.1 44)) rfl rfl) (Eq.trans (b := (σ.2.1 45)) rfl rfl) (Eq.trans (b := (σ.2.1 46)) rfl rfl) (Eq.trans (b := (σ.1 47)) rfl rfl) (Eq.trans (b := (σ.2.1 48)) rfl rfl) (Eq.trans (b := (σ.1 49)) rfl rfl) (Eq.trans (b := (σ.2.1 50)) rfl rfl) (Eq.trans (b := (σ.2.1 51)) rfl rfl) (Eq.trans (b := (σ.2.2.1 52)) rfl rfl) (Eq.trans (b := (σ.2.2.1 53)) rfl rfl) (Eq.trans (b := (σ.2.2.2)) rfl rfl) (Eq.trans (b := (σ.1 55)) rfl rfl) (Eq.trans (b := (σ.1 56)) rfl rfl) (Eq.trans (b := (σ.1 57)) rfl rfl) (Eq.trans (b := (σ.2.1 58)) rfl rfl) (Eq.trans (b := (σ.1 59)) rfl rfl)
            exact r_reti C ⟨n43, (upd (σ.2.1 4) (σ.1 3).toNatClampNeg (4 : Int32)), (upd (σ.2.1 5) (σ.1 3).toNatClampNeg k0), (vp_updL (σ.2.2.1 6) (σ.1 3).toNatClampNeg x41), (upd (σ.2.1 7) (σ.1 3).toNatClampNeg (0 : Int32)), (σ.1 8), (σ.1 9)⟩ ⟨(v_quoted_29 σ k0 x1 y2 y3 r18 x33 r35 x37 x38 x39 x40 x41 n43 x44 hpre_0 hpre_1 hpre_2 hpre_3 hpre_4 hpre_5 hpre_6 hpre_7 ex1 tx1 hi6_0 hi6_1 c4 hr18 c19 ex33 tx33 c34 hr35 c36 ex37 tx37 ex38 tx38 ex39 tx39 ex40 ex41 hr42 ex44 tx44), (v_quoted_30 σ k0 x1 y2 y3 r18 x33 r35 x37 x38 x39 x40 x41 n43 x44 hpre_0 hpre_1 hpre_2 hpre_3 hpre_4 hpre_5 hpre_6 hpre_7 ex1 tx1 hi6_0 hi6_1 hi6y_0 hi6y_1 c4 hr18y hr18 c19 ex33 tx33 c34 hr35y hr35 c36 ex37 tx37 ex38 tx38 ex39 tx39 ex40 ex41 hr42 ex44 tx44)⟩ hP hS dX12_quoted_97
          · have c36 : ¬ r35.toInt = 39 := by have h := z_ne c36; rw [show (39 : Int32).toInt = 39 from by decide +kernel] at h; exact h
            refine lv_aload_n hx hb dX12_quoted_66 rfl (lv_at hl 2 rfl) ?_
            refine lv_iconst (v := 1) hx hb dX12_quoted_67 (by decide +kernel) ?_
            refine lv_iload_n hx hb dX12_quoted_68 rfl (lv_at hl 3 rfl) ?_
            refine r_callVv (As := [.int 1, .int k0]) (rest := []) C hP hS hl.1 ⟨Nat.zero_le _, Nat.zero_le _⟩ (M_wrong l D cy sz0 sa ad σ H.size (1 : Int32) k0 trivial) (n := 2) ⟨wm_27, wm_12, by decide +kernel⟩ ⟨wm_28, wm_29, wm_10⟩ rfl rfl (lv_room (Nat.le_of_ble_eq_true rfl)) ⟨Nat.le_of_ble_eq_true rfl, Nat.le_of_ble_eq_true rfl⟩ dX12_quoted_69 (fun u H locs hr45 hP hS => ?_)
            obtain ⟨n46, n47⟩ := u
            obtain ⟨hr45, hr45y⟩ := hr45
            have hr45y : ((σ.1 8).toInt = 0 → n47.toInt = k0.toInt) ∧ (¬ (σ.1 8).toInt = 0 → n47.toInt = (σ.1 9).toInt) := hr45y
            have hr45 : ((σ.1 8).toInt = 0 → n46.toInt = (1 : Int32).toInt) ∧ (¬ (σ.1 8).toInt = 0 → n46.toInt = (σ.1 8).toInt) := hr45
            obtain ⟨hr45y_0, hr45y_1⟩ := hr45y
            obtain ⟨hr45_0, hr45_1⟩ := hr45
            have hP : RP D cy ad (rS (rS σ 8 n46) 9 n47) H := hP
            refine lv_aload_n hx hb dX12_quoted_72 rfl (lv_at hl 2 rfl) ?_
            refine rg_1 (v := (σ.1 1)) C hP rfl wm_3 dX12_quoted_73 ?_
            have hP : RP D cy ad (rS (rS (rA (rJ (rA (rA (rS σ 3 (σ.1 3)) 4 (σ.2.1 4)) 5 (σ.2.1 5)) 6 (σ.2.2.1 6)) 7 (σ.2.1 7)) 8 n46) 9 n47) H := RP.cong hP (Eq.trans (b := (σ.1 0)) rfl rfl) (Eq.trans (b := (σ.1 1)) rfl rfl) (Eq.trans (b := (σ.2.1 2)) rfl rfl) (Eq.trans (b := (σ.1 3)) rfl rfl) (Eq.trans (b := (σ.2.1 4)) rfl rfl) (Eq.trans (b := (σ.2.1 5)) rfl rfl) (Eq.trans (b := (σ.2.2.1 6)) rfl rfl) (Eq.trans (b := (σ.2.1 7)) rfl rfl) (Eq.trans (b := n46) rfl rfl) (Eq.trans (b := n47) rfl rfl) (Eq.trans (b := (σ.1 10)) rfl rfl) (Eq.trans (b := (σ.2.1 11)) rfl rfl) (Eq.trans (b := (σ.2.2.1 12)) rfl rfl) (Eq.trans (b := (σ.2.1 13)) rfl rfl) (Eq.trans (b := (σ.1 14)) rfl rfl) (Eq.trans (b := (σ.1 15)) rfl rfl) (Eq.trans (b := (σ.1 16)) rfl rfl) (Eq.trans (b := (σ.1 17)) rfl rfl) (Eq.trans (b := (σ.1 18)) rfl rfl) (Eq.trans (b := (σ.1 19)) rfl rfl) (Eq.trans (b := (σ.2.1 20)) rfl rfl) (Eq.trans (b := (σ.2.1 21)) rfl rfl) (Eq.trans (b := (σ.2.1 22)) rfl rfl) (Eq.trans (b := (σ.2.1 23)) rfl rfl) (Eq.trans (b := (σ.2.1 24)) rfl rfl) (Eq.trans (b := (σ.2.1 25)) rfl rfl) (Eq.trans (b := (σ.2.1 26)) rfl rfl) (Eq.trans (b := (σ.2.1 27)) rfl rfl) (Eq.trans (b := (σ.2.1 28)) rfl rfl) (Eq.trans (b := (σ.1 29)) rfl rfl) (Eq.trans (b := (σ.2.1 30)) rfl rfl) (Eq.trans (b := (σ.2.1 31)) rfl rfl) (Eq.trans (b := (σ.2.1 32)) rfl rfl) (Eq.trans (b := (σ.1 33)) rfl rfl) (Eq.trans (b := (σ.1 34)) rfl rfl) (Eq.trans (b := (σ.1 35)) rfl rfl) (Eq.trans (b := (σ.2.1 36)) rfl rfl) (Eq.trans (b := (σ.2.1 37)) rfl rfl) (Eq.trans (b := (σ.2.1 38)) rfl rfl) (Eq.trans (b := (σ.2.1 39)) rfl rfl) (Eq.trans (b := (σ.2.1 40)) rfl rfl) (Eq.trans (b := (σ.2.1 41)) rfl rfl) (Eq.trans (b := (σ.2.1 42)) rfl rfl) (Eq.trans (b := (σ.2.1 43)) rfl rfl) (Eq.trans (b := (σ.2.1 44)) rfl rfl) (Eq.trans (b := (σ.2.1 45)) rfl rfl) (Eq.trans (b := (σ.2.1 46)) rfl rfl) (Eq.trans (b := (σ.1 47)) rfl rfl) (Eq.trans (b := (σ.2.1 48)) rfl rfl) (Eq.trans (b := (σ.1 49)) rfl rfl) (Eq.trans (b := (σ.2.1 50)) rfl rfl) (Eq.trans (b := (σ.2.1 51)) rfl rfl) (Eq.trans (b := (σ.2.2.1 52)) rfl rfl) (Eq.trans (b := (σ.2.2.1 53)) rfl rfl) (Eq.trans (b := (σ.2.2.2)) rfl rfl) (Eq.trans (b := (σ.1 55)) rfl rfl) (Eq.trans (b := (σ.1 56)) rfl rfl) (Eq.trans (b := (σ.1 57)) rfl rfl) (Eq.trans (b := (σ.2.1 58)) rfl rfl) (Eq.trans (b := (σ.1 59)) rfl rfl)
            exact r_reti C ⟨(σ.1 3), (σ.2.1 4), (σ.2.1 5), (σ.2.2.1 6), (σ.2.1 7), n46, n47⟩ ⟨(v_quoted_31 σ k0 x1 y2 r18 x33 r35 n46 hpre_0 hpre_1 hpre_2 hpre_3 hpre_4 hpre_5 hpre_6 hpre_7 ex1 tx1 hi6_0 hi6_1 c4 hr18 c19 ex33 tx33 c34 hr35 c36 hr45_0 hr45_1), (v_quoted_32 σ k0 x1 y2 r18 x33 r35 n46 n47 hpre_0 hpre_1 hpre_2 hpre_3 hpre_4 hpre_5 hpre_6 hpre_7 ex1 tx1 hi6_0 hi6_1 hi6y_0 hi6y_1 c4 hr18y hr18 c19 ex33 tx33 c34 hr35y hr35 c36 hr45y_0 hr45y_1 hr45_0 hr45_1)⟩ hP hS dX12_quoted_76
        · have c34 : x33.toInt ≤ 8 := by have h := z_nlt c34; rw [show (8 : Int32).toInt = 8 from by decide +kernel] at h; exact h
          refine lv_lload_n hx hb dX12_quoted_32 rfl (lv_at hl 0 rfl) ?_
          refine lv_aload_n hx hb dX12_quoted_33 rfl (lv_at hl 2 rfl) ?_
          refine lv_iload_n hx hb dX12_quoted_34 rfl (lv_at hl 1 rfl) ?_
          refine r_callVi (As := [.int y2]) (rest := [.long y3]) C hP hS hl.1 ⟨Nat.zero_le _, Nat.zero_le _⟩ (M_at l D cy sz0 sa ad σ H.size y2 (v_quoted_33 σ k0 x1 y2 r18 x33 hpre_0 hpre_1 hpre_2 hpre_3 hpre_4 hpre_5 ex1 tx1 hi6_0 hi6_1 c4 hr18 c19 ex33 tx33 c34)) (n := 1) ⟨wm_7, wm_5, by decide +kernel⟩ ⟨wm_8, wm_9, wm_10⟩ rfl rfl (lv_room (Nat.le_of_ble_eq_true rfl)) ⟨Nat.le_of_ble_eq_true rfl, Nat.le_of_ble_eq_true rfl⟩ dX12_quoted_35 (fun r48 u H locs hr48 hP hS => ?_)
          obtain ⟨hr48, hr48y⟩ := hr48
          have hr48y : r48.toInt = tx (σ.2.1 2) (σ.1 1) y2.toInt := hr48y
          have hr48 : (y2.toInt < (σ.1 1).toInt ∧ r48.toInt = ((σ.2.1 2) y2.toNatClampNeg).toInt) ∨ ((σ.1 1).toInt ≤ y2.toInt ∧ r48.toInt = 0) := hr48
          refine lv_i2l hx hb dX12_quoted_38 rfl ?_
          refine lv_topl (fun x49 ex49 => ?_)
          have tx49 : x49.toInt = r48.toInt := by rw [ex49]; exact Int32.toInt_toInt64 _
          refine lv_bipush (v := 7) hx hb dX12_quoted_39 (by decide +kernel) ?_
          refine lv_iload_n hx hb dX12_quoted_41 rfl (lv_at hl 1 rfl) ?_
          refine lv_iload_n hx hb dX12_quoted_42 rfl (lv_at hl 3 rfl) ?_
          refine lv_isub hx hb dX12_quoted_43 ?_
          refine lv_topi (fun x50 ex50 => ?_)
          have tx50 : x50.toInt = y2.toInt - k0.toInt := (v_quoted_34 σ k0 x1 y2 r18 x33 r48 x49 x50 hpre_0 hpre_1 hpre_2 hpre_3 hpre_4 hpre_5 ex1 tx1 hi6_0 hi6_1 c4 hr18 c19 ex33 tx33 c34 hr48 ex49 tx49 ex50)
          refine lv_iconst (v := 1) hx hb dX12_quoted_44 (by decide +kernel) ?_
          refine lv_isub hx hb dX12_quoted_45 ?_
          refine lv_topi (fun x51 ex51 => ?_)
          have tx51 : x51.toInt = x50.toInt - 1 := (v_quoted_35 σ k0 x1 y2 r18 x33 r48 x49 x50 x51 hpre_0 hpre_1 hpre_2 hpre_3 hpre_4 hpre_5 ex1 tx1 hi6_0 hi6_1 c4 hr18 c19 ex33 tx33 c34 hr48 ex49 tx49 ex50 tx50 ex51)
          refine lv_imul hx hb dX12_quoted_46 ?_
          refine lv_topi (fun x52 ex52 => ?_)
          have tx52 : x52.toInt = 7 * x51.toInt := (v_quoted_36 σ k0 x1 y2 x33 x50 x51 x52 hpre_0 hpre_1 hpre_2 hpre_3 hpre_4 hpre_5 ex1 tx1 hi6_0 hi6_1 c4 ex33 tx33 c34 ex50 tx50 ex51 tx51 ex52)
          refine lv_lshl hx hb dX12_quoted_47 rfl ?_
          refine lv_topl (fun x53 ex53 => ?_)
          refine lv_lor hx hb dX12_quoted_48 ?_
          refine lv_topl (fun x54 ex54 => ?_)
          refine lv_lstore_n (lv' := [(3, .long x54), (2, .int y2), (0, .ref (ad 0)), (1, .int k0)]) hx hb dX12_quoted_49 rfl hl (by decide) rfl (fun ls hl => ?_)
          obtain ⟨x55, ex55⟩ : ∃ y : Int32, y = y2 + (1 : Int32) := ⟨_, rfl⟩
          have tx55 : x55.toInt = y2.toInt + 1 := (v_quoted_37 σ k0 x1 y2 y3 r18 x33 r48 x49 x50 x51 x52 x53 x54 x55 hpre_0 hpre_1 hpre_2 hpre_3 hpre_4 hpre_5 ex1 tx1 hi6_0 hi6_1 c4 hr18 c19 ex33 tx33 c34 hr48 ex49 tx49 ex50 tx50 ex51 tx51 ex52 tx52 ex53 ex54 ex55)
          refine lv_iinc (v := x55) (lv' := [(2, .int x55), (3, .long x54), (0, .ref (ad 0)), (1, .int k0)]) hx hb dX12_quoted_50 hl (k := 1) rfl (by rw [ex55]; rfl) (by decide) rfl (fun ls hl => ?_)
          refine lv_goto (tgt := 6) hx hb dX12_quoted_53 (by decide) ?_
          exact ih6 x55 x54 _ _ _ (Nat.lt_of_lt_of_le (v_quoted_40 σ k0 x1 y2 y3 r18 x33 r48 x49 x50 x51 x52 x53 x54 x55 hpre_0 hpre_1 hpre_2 hpre_3 hpre_4 hpre_5 ex1 tx1 hi6_0 hi6_1 c4 hr18 c19 ex33 tx33 c34 hr48 ex49 tx49 ex50 tx50 ex51 tx51 ex52 tx52 ex53 ex54 ex55 tx55) (Nat.le_of_lt_succ hn6)) ⟨(v_quoted_38 σ k0 x1 y2 y3 r18 x33 r48 x49 x50 x51 x52 x53 x54 x55 hpre_0 hpre_1 hpre_2 hpre_3 hpre_4 hpre_5 ex1 tx1 hi6_0 hi6_1 c4 hr18 c19 ex33 tx33 c34 hr48 ex49 tx49 ex50 tx50 ex51 tx51 ex52 tx52 ex53 ex54 ex55 tx55), (v_quoted_39 σ k0 x1 y2 y3 r18 x33 r48 x49 x50 x51 x52 x53 x54 x55 hpre_0 hpre_1 hpre_2 hpre_3 hpre_4 hpre_5 hpre_6 hpre_7 ex1 tx1 hi6_0 hi6_1 hi6y_0 hi6y_1 c4 hr18y hr18 c19 ex33 tx33 c34 hr48y hr48 ex49 tx49 ex50 tx50 ex51 tx51 ex52 tx52 ex53 ex54 ex55 tx55)⟩ hP hS (lv_sub hl [1, 0, 2, 3] rfl)
set_option maxHeartbeats 4000000 in
set_option maxRecDepth 100000 in
theorem M_quoted (l : Launch) (D : va_G) (cy : Nat → ClassId) (sz0 : Nat) (sa : Nat → Nat) (ad : Nat → Nat) (σ : RS) (sz : Nat) (k0 : Int32) (hpre : 0 ≤ (σ.1 1).toInt ∧ (σ.1 1).toInt ≤ 40 ∧ 0 ≤ (σ.1 3).toInt ∧ (σ.1 3).toInt ≤ k0.toInt ∧ k0.toInt < (σ.1 1).toInt ∧ TKok (σ.2.1 4) (σ.2.2.1 6) (σ.2.1 7) (σ.1 3).toInt ∧ 0 ≤ (σ.1 8).toInt ∧ (σ.1 8).toInt ≤ 3) : Met l yX12_quoted (Cond.code yX12_quoted cX12_quoted 5 (some .int) :: GWm) ({ frames := 1, cells := 0, slots := 0, locals := 24 }) (PcR D cy sz0 sa ad [.ref (ad 0), .int k0] σ sz) (va_Qi (fun (r : Int32) (u : Int32 × (Nat → Int32) × (Nat → Int32) × (Nat → Int64) × (Nat → Int32) × Int32 × Int32) => (k0.toInt < r.toInt ∧ r.toInt ≤ (σ.1 1).toInt ∧ 0 ≤ u.1.toInt ∧ u.1.toInt ≤ r.toInt ∧ TKok u.2.1 u.2.2.2.1 u.2.2.2.2.1 u.1.toInt ∧ 0 ≤ u.2.2.2.2.2.1.toInt ∧ u.2.2.2.2.2.1.toInt ≤ 3) ∧ ((σ.1 8).toInt = 0 → tx (σ.2.1 2) (σ.1 1) k0.toInt = 39 → ∃ r9, TokR (tx (σ.2.1 2) (σ.1 1)) ((σ.1 1).toInt) k0.toInt r9 ∧ LXo (σ.2.1 4) (σ.2.2.1 6) (σ.2.1 5) (σ.1 3) u.2.1 u.2.2.2.1 u.2.2.1 u.1 u.2.2.2.2.2.1 u.2.2.2.2.2.2 k0.toInt r.toInt r9)) (fun (u : Int32 × (Nat → Int32) × (Nat → Int32) × (Nat → Int64) × (Nat → Int32) × Int32 × Int32) (t : State) => RP D cy ad (rS (rS (rA (rJ (rA (rA (rS σ 3 u.1) 4 u.2.1) 5 u.2.2.1) 6 u.2.2.2.1) 7 u.2.2.2.2.1) 8 u.2.2.2.2.2.1) 9 u.2.2.2.2.2.2) t.heap) (AR cy ad sz)) 0 0 (AR cy ad sz) := by
  refine RM_of (loc0 := [(0, .ref (ad 0)), (1, .int k0)]) (by decide) rfl rfl (Nat.le_of_ble_eq_true rfl) ?_
  intro p e s m below meth c ls hsz C hP hS hl
  have hx := C.1
  have hb := C.2.1
  have hown := C.2.2.2.2.1
  have hw := C.2.2.2.2.2.1
  clear hsz
  obtain ⟨hpre_0, hpre_1, hpre_2, hpre_3, hpre_4, hpre_5, hpre_6, hpre_7⟩ := hpre
  refine lv_iload_n hx hb dX12_quoted_0 rfl (lv_at hl 1 rfl) ?_
  refine lv_iconst (v := 1) hx hb dX12_quoted_1 (by decide +kernel) ?_
  refine lv_iadd hx hb dX12_quoted_2 ?_
  refine lv_topi (fun x1 ex1 => ?_)
  have tx1 : x1.toInt = k0.toInt + 1 := (v_quoted_1 σ k0 x1 hpre_0 hpre_1 hpre_2 hpre_3 hpre_4 hpre_5 ex1)
  refine lv_istore_n (lv' := [(2, .int x1), (0, .ref (ad 0)), (1, .int k0)]) hx hb dX12_quoted_3 rfl hl (by decide) rfl (fun ls hl => ?_)
  refine lv_lconst (v := 0) hx hb dX12_quoted_4 rfl ?_
  refine lv_lstore_n (lv' := [(3, .long 0), (2, .int x1), (0, .ref (ad 0)), (1, .int k0)]) hx hb dX12_quoted_5 rfl hl (by decide) rfl (fun ls hl => ?_)
  exact L_quoted_6_1 l D cy sz0 sa ad sz σ k0 x1 C hpre_0 hpre_1 hpre_2 hpre_3 hpre_4 hpre_5 hpre_6 hpre_7 ex1 tx1 (((σ.1 1).toInt - x1.toInt).toNat + 1) x1 (0 : Int64) _ _ _ (Nat.lt_succ_self _) ⟨(v_quoted_2 σ k0 x1 hpre_0 hpre_1 hpre_2 hpre_3 hpre_4 hpre_5 ex1 tx1), (v_quoted_3 σ k0 x1 hpre_0 hpre_1 hpre_2 hpre_3 hpre_4 hpre_5 hpre_6 hpre_7 ex1 tx1)⟩ hP hS (lv_sub hl [0, 1, 2, 3] rfl)

-- post2 @101
theorem v_single_1 (k0 : Int32) (c1 : k0.toInt = 43) : (¬ (1 : Int32).toInt = 0 → SI k0.toInt) ∧ ((1 : Int32).toInt = 0 → ¬ SI k0.toInt) := by
  have q1 : (1 : Int32).toInt = 1 := by decide +kernel
  constructor <;> intro h9 <;> omega
-- bool@ret @101
theorem v_single_2   : (1 : Int32) = 0 ∨ (1 : Int32) = 1 := by
  have q1 : (1 : Int32).toInt = 1 := by decide +kernel
  first | exact Or.inl rfl | exact Or.inr rfl | exact bool_of (by omega)
-- post2 @101
theorem v_single_3 (k0 : Int32) (c1 : ¬ k0.toInt = 43) (c2 : k0.toInt = 45) : (¬ (1 : Int32).toInt = 0 → SI k0.toInt) ∧ ((1 : Int32).toInt = 0 → ¬ SI k0.toInt) := by
  have q1 : (1 : Int32).toInt = 1 := by decide +kernel
  constructor <;> intro h9 <;> omega
-- post2 @101
theorem v_single_4 (k0 : Int32) (c1 : ¬ k0.toInt = 43) (c2 : ¬ k0.toInt = 45) (c3 : k0.toInt = 42) : (¬ (1 : Int32).toInt = 0 → SI k0.toInt) ∧ ((1 : Int32).toInt = 0 → ¬ SI k0.toInt) := by
  have q1 : (1 : Int32).toInt = 1 := by decide +kernel
  constructor <;> intro h9 <;> omega
-- post2 @101
theorem v_single_5 (k0 : Int32) (c1 : ¬ k0.toInt = 43) (c2 : ¬ k0.toInt = 45) (c3 : ¬ k0.toInt = 42) (c4 : k0.toInt = 47) : (¬ (1 : Int32).toInt = 0 → SI k0.toInt) ∧ ((1 : Int32).toInt = 0 → ¬ SI k0.toInt) := by
  have q1 : (1 : Int32).toInt = 1 := by decide +kernel
  constructor <;> intro h9 <;> omega
-- post2 @101
theorem v_single_6 (k0 : Int32) (c1 : ¬ k0.toInt = 43) (c2 : ¬ k0.toInt = 45) (c3 : ¬ k0.toInt = 42) (c4 : ¬ k0.toInt = 47) (c5 : k0.toInt = 37) : (¬ (1 : Int32).toInt = 0 → SI k0.toInt) ∧ ((1 : Int32).toInt = 0 → ¬ SI k0.toInt) := by
  have q1 : (1 : Int32).toInt = 1 := by decide +kernel
  constructor <;> intro h9 <;> omega
-- post2 @101
theorem v_single_7 (k0 : Int32) (c1 : ¬ k0.toInt = 43) (c2 : ¬ k0.toInt = 45) (c3 : ¬ k0.toInt = 42) (c4 : ¬ k0.toInt = 47) (c5 : ¬ k0.toInt = 37) (c6 : k0.toInt = 60) : (¬ (1 : Int32).toInt = 0 → SI k0.toInt) ∧ ((1 : Int32).toInt = 0 → ¬ SI k0.toInt) := by
  have q1 : (1 : Int32).toInt = 1 := by decide +kernel
  constructor <;> intro h9 <;> omega
-- post2 @101
theorem v_single_8 (k0 : Int32) (c1 : ¬ k0.toInt = 43) (c2 : ¬ k0.toInt = 45) (c3 : ¬ k0.toInt = 42) (c4 : ¬ k0.toInt = 47) (c5 : ¬ k0.toInt = 37) (c6 : ¬ k0.toInt = 60) (c7 : k0.toInt = 62) : (¬ (1 : Int32).toInt = 0 → SI k0.toInt) ∧ ((1 : Int32).toInt = 0 → ¬ SI k0.toInt) := by
  have q1 : (1 : Int32).toInt = 1 := by decide +kernel
  constructor <;> intro h9 <;> omega
-- post2 @101
theorem v_single_9 (k0 : Int32) (c1 : ¬ k0.toInt = 43) (c2 : ¬ k0.toInt = 45) (c3 : ¬ k0.toInt = 42) (c4 : ¬ k0.toInt = 47) (c5 : ¬ k0.toInt = 37) (c6 : ¬ k0.toInt = 60) (c7 : ¬ k0.toInt = 62) (c8 : k0.toInt = 33) : (¬ (1 : Int32).toInt = 0 → SI k0.toInt) ∧ ((1 : Int32).toInt = 0 → ¬ SI k0.toInt) := by
  have q1 : (1 : Int32).toInt = 1 := by decide +kernel
  constructor <;> intro h9 <;> omega
-- post2 @101
theorem v_single_10 (k0 : Int32) (c1 : ¬ k0.toInt = 43) (c2 : ¬ k0.toInt = 45) (c3 : ¬ k0.toInt = 42) (c4 : ¬ k0.toInt = 47) (c5 : ¬ k0.toInt = 37) (c6 : ¬ k0.toInt = 60) (c7 : ¬ k0.toInt = 62) (c8 : ¬ k0.toInt = 33) (c9 : k0.toInt = 63) : (¬ (1 : Int32).toInt = 0 → SI k0.toInt) ∧ ((1 : Int32).toInt = 0 → ¬ SI k0.toInt) := by
  have q1 : (1 : Int32).toInt = 1 := by decide +kernel
  constructor <;> intro h9 <;> omega
-- post2 @101
theorem v_single_11 (k0 : Int32) (c1 : ¬ k0.toInt = 43) (c2 : ¬ k0.toInt = 45) (c3 : ¬ k0.toInt = 42) (c4 : ¬ k0.toInt = 47) (c5 : ¬ k0.toInt = 37) (c6 : ¬ k0.toInt = 60) (c7 : ¬ k0.toInt = 62) (c8 : ¬ k0.toInt = 33) (c9 : ¬ k0.toInt = 63) (c10 : k0.toInt = 58) : (¬ (1 : Int32).toInt = 0 → SI k0.toInt) ∧ ((1 : Int32).toInt = 0 → ¬ SI k0.toInt) := by
  have q1 : (1 : Int32).toInt = 1 := by decide +kernel
  constructor <;> intro h9 <;> omega
-- post2 @101
theorem v_single_12 (k0 : Int32) (c1 : ¬ k0.toInt = 43) (c2 : ¬ k0.toInt = 45) (c3 : ¬ k0.toInt = 42) (c4 : ¬ k0.toInt = 47) (c5 : ¬ k0.toInt = 37) (c6 : ¬ k0.toInt = 60) (c7 : ¬ k0.toInt = 62) (c8 : ¬ k0.toInt = 33) (c9 : ¬ k0.toInt = 63) (c10 : ¬ k0.toInt = 58) (c11 : k0.toInt = 46) : (¬ (1 : Int32).toInt = 0 → SI k0.toInt) ∧ ((1 : Int32).toInt = 0 → ¬ SI k0.toInt) := by
  have q1 : (1 : Int32).toInt = 1 := by decide +kernel
  constructor <;> intro h9 <;> omega
-- post2 @101
theorem v_single_13 (k0 : Int32) (c1 : ¬ k0.toInt = 43) (c2 : ¬ k0.toInt = 45) (c3 : ¬ k0.toInt = 42) (c4 : ¬ k0.toInt = 47) (c5 : ¬ k0.toInt = 37) (c6 : ¬ k0.toInt = 60) (c7 : ¬ k0.toInt = 62) (c8 : ¬ k0.toInt = 33) (c9 : ¬ k0.toInt = 63) (c10 : ¬ k0.toInt = 58) (c11 : ¬ k0.toInt = 46) (c12 : k0.toInt = 40) : (¬ (1 : Int32).toInt = 0 → SI k0.toInt) ∧ ((1 : Int32).toInt = 0 → ¬ SI k0.toInt) := by
  have q1 : (1 : Int32).toInt = 1 := by decide +kernel
  constructor <;> intro h9 <;> omega
-- post2 @101
theorem v_single_14 (k0 : Int32) (c1 : ¬ k0.toInt = 43) (c2 : ¬ k0.toInt = 45) (c3 : ¬ k0.toInt = 42) (c4 : ¬ k0.toInt = 47) (c5 : ¬ k0.toInt = 37) (c6 : ¬ k0.toInt = 60) (c7 : ¬ k0.toInt = 62) (c8 : ¬ k0.toInt = 33) (c9 : ¬ k0.toInt = 63) (c10 : ¬ k0.toInt = 58) (c11 : ¬ k0.toInt = 46) (c12 : ¬ k0.toInt = 40) (c13 : k0.toInt = 41) : (¬ (1 : Int32).toInt = 0 → SI k0.toInt) ∧ ((1 : Int32).toInt = 0 → ¬ SI k0.toInt) := by
  have q1 : (1 : Int32).toInt = 1 := by decide +kernel
  constructor <;> intro h9 <;> omega
-- post2 @101
theorem v_single_15 (k0 : Int32) (c1 : ¬ k0.toInt = 43) (c2 : ¬ k0.toInt = 45) (c3 : ¬ k0.toInt = 42) (c4 : ¬ k0.toInt = 47) (c5 : ¬ k0.toInt = 37) (c6 : ¬ k0.toInt = 60) (c7 : ¬ k0.toInt = 62) (c8 : ¬ k0.toInt = 33) (c9 : ¬ k0.toInt = 63) (c10 : ¬ k0.toInt = 58) (c11 : ¬ k0.toInt = 46) (c12 : ¬ k0.toInt = 40) (c13 : ¬ k0.toInt = 41) (c14 : k0.toInt = 44) : (¬ (1 : Int32).toInt = 0 → SI k0.toInt) ∧ ((1 : Int32).toInt = 0 → ¬ SI k0.toInt) := by
  have q1 : (1 : Int32).toInt = 1 := by decide +kernel
  constructor <;> intro h9 <;> omega
-- post2 @101
theorem v_single_16 (k0 : Int32) (c1 : ¬ k0.toInt = 43) (c2 : ¬ k0.toInt = 45) (c3 : ¬ k0.toInt = 42) (c4 : ¬ k0.toInt = 47) (c5 : ¬ k0.toInt = 37) (c6 : ¬ k0.toInt = 60) (c7 : ¬ k0.toInt = 62) (c8 : ¬ k0.toInt = 33) (c9 : ¬ k0.toInt = 63) (c10 : ¬ k0.toInt = 58) (c11 : ¬ k0.toInt = 46) (c12 : ¬ k0.toInt = 40) (c13 : ¬ k0.toInt = 41) (c14 : ¬ k0.toInt = 44) (c15 : k0.toInt = 35) : (¬ (1 : Int32).toInt = 0 → SI k0.toInt) ∧ ((1 : Int32).toInt = 0 → ¬ SI k0.toInt) := by
  have q1 : (1 : Int32).toInt = 1 := by decide +kernel
  constructor <;> intro h9 <;> omega
-- post2 @101
theorem v_single_17 (k0 : Int32) (c1 : ¬ k0.toInt = 43) (c2 : ¬ k0.toInt = 45) (c3 : ¬ k0.toInt = 42) (c4 : ¬ k0.toInt = 47) (c5 : ¬ k0.toInt = 37) (c6 : ¬ k0.toInt = 60) (c7 : ¬ k0.toInt = 62) (c8 : ¬ k0.toInt = 33) (c9 : ¬ k0.toInt = 63) (c10 : ¬ k0.toInt = 58) (c11 : ¬ k0.toInt = 46) (c12 : ¬ k0.toInt = 40) (c13 : ¬ k0.toInt = 41) (c14 : ¬ k0.toInt = 44) (c15 : ¬ k0.toInt = 35) (c16 : ¬ k0.toInt = 61) : (¬ (0 : Int32).toInt = 0 → SI k0.toInt) ∧ ((0 : Int32).toInt = 0 → ¬ SI k0.toInt) := by
  have q0 : (0 : Int32).toInt = 0 := by decide +kernel
  constructor <;> intro h9 <;> omega
-- bool@ret @101
theorem v_single_18   : (0 : Int32) = 0 ∨ (0 : Int32) = 1 := by
  have q0 : (0 : Int32).toInt = 0 := by decide +kernel
  first | exact Or.inl rfl | exact Or.inr rfl | exact bool_of (by omega)
-- post2 @101
theorem v_single_19 (k0 : Int32) (c1 : ¬ k0.toInt = 43) (c2 : ¬ k0.toInt = 45) (c3 : ¬ k0.toInt = 42) (c4 : ¬ k0.toInt = 47) (c5 : ¬ k0.toInt = 37) (c6 : ¬ k0.toInt = 60) (c7 : ¬ k0.toInt = 62) (c8 : ¬ k0.toInt = 33) (c9 : ¬ k0.toInt = 63) (c10 : ¬ k0.toInt = 58) (c11 : ¬ k0.toInt = 46) (c12 : ¬ k0.toInt = 40) (c13 : ¬ k0.toInt = 41) (c14 : ¬ k0.toInt = 44) (c15 : ¬ k0.toInt = 35) (c16 : k0.toInt = 61) : (¬ (1 : Int32).toInt = 0 → SI k0.toInt) ∧ ((1 : Int32).toInt = 0 → ¬ SI k0.toInt) := by
  have q1 : (1 : Int32).toInt = 1 := by decide +kernel
  constructor <;> intro h9 <;> omega
set_option maxHeartbeats 4000000 in
set_option maxRecDepth 100000 in
theorem M_single (l : Launch) (D : va_G) (cy : Nat → ClassId) (sz0 : Nat) (sa : Nat → Nat) (ad : Nat → Nat) (σ : RS) (sz : Nat) (k0 : Int32) (hpre : True) : Met l yX12_single (Cond.code yX12_single cX12_single 1 (some .boolean) :: GWm) ({ frames := 0, cells := 0, slots := 0, locals := 0 }) (PcR D cy sz0 sa ad [.int k0] σ sz) (va_Qi (fun (r : Int32) (u : Unit) => (True) ∧ ((¬ r.toInt = 0 → SI k0.toInt) ∧ (r.toInt = 0 → ¬ SI k0.toInt))) (fun (u : Unit) (t : State) => RP D cy ad σ t.heap) (AR cy ad sz)) 0 0 (AR cy ad sz) := by
  refine RM_of (loc0 := [(0, .int k0)]) (by decide) rfl rfl (Nat.le_of_ble_eq_true rfl) ?_
  intro p e s m below meth c ls hsz C hP hS hl
  have hx := C.1
  have hb := C.2.1
  have hown := C.2.2.2.2.1
  have hw := C.2.2.2.2.2.1
  clear hsz
  refine lv_iload_n hx hb dX12_single_0 rfl (lv_at hl 0 rfl) ?_
  refine lv_bipush (v := 43) hx hb dX12_single_1 (by decide +kernel) ?_
  refine lv_icmp_eq (tgt := 96) hx hb dX12_single_3 (by decide) (fun c1 => ?_) (fun c1 => ?_)
  · have c1 : k0.toInt = 43 := by have h := z_eq c1; rw [show (43 : Int32).toInt = 43 from by decide +kernel] at h; exact h
    refine lv_iconst (v := 1) hx hb dX12_single_96 (by decide +kernel) ?_
    refine lv_goto (tgt := 101) hx hb dX12_single_97 (by decide) ?_
    exact r_retz C () (v_single_2  ) ⟨trivial, (v_single_1 k0 c1)⟩ hP hS dX12_single_101
  · have c1 : ¬ k0.toInt = 43 := by have h := z_ne c1; rw [show (43 : Int32).toInt = 43 from by decide +kernel] at h; exact h
    refine lv_iload_n hx hb dX12_single_6 rfl (lv_at hl 0 rfl) ?_
    refine lv_bipush (v := 45) hx hb dX12_single_7 (by decide +kernel) ?_
    refine lv_icmp_eq (tgt := 96) hx hb dX12_single_9 (by decide) (fun c2 => ?_) (fun c2 => ?_)
    · have c2 : k0.toInt = 45 := by have h := z_eq c2; rw [show (45 : Int32).toInt = 45 from by decide +kernel] at h; exact h
      refine lv_iconst (v := 1) hx hb dX12_single_96 (by decide +kernel) ?_
      refine lv_goto (tgt := 101) hx hb dX12_single_97 (by decide) ?_
      exact r_retz C () (v_single_2  ) ⟨trivial, (v_single_3 k0 c1 c2)⟩ hP hS dX12_single_101
    · have c2 : ¬ k0.toInt = 45 := by have h := z_ne c2; rw [show (45 : Int32).toInt = 45 from by decide +kernel] at h; exact h
      refine lv_iload_n hx hb dX12_single_12 rfl (lv_at hl 0 rfl) ?_
      refine lv_bipush (v := 42) hx hb dX12_single_13 (by decide +kernel) ?_
      refine lv_icmp_eq (tgt := 96) hx hb dX12_single_15 (by decide) (fun c3 => ?_) (fun c3 => ?_)
      · have c3 : k0.toInt = 42 := by have h := z_eq c3; rw [show (42 : Int32).toInt = 42 from by decide +kernel] at h; exact h
        refine lv_iconst (v := 1) hx hb dX12_single_96 (by decide +kernel) ?_
        refine lv_goto (tgt := 101) hx hb dX12_single_97 (by decide) ?_
        exact r_retz C () (v_single_2  ) ⟨trivial, (v_single_4 k0 c1 c2 c3)⟩ hP hS dX12_single_101
      · have c3 : ¬ k0.toInt = 42 := by have h := z_ne c3; rw [show (42 : Int32).toInt = 42 from by decide +kernel] at h; exact h
        refine lv_iload_n hx hb dX12_single_18 rfl (lv_at hl 0 rfl) ?_
        refine lv_bipush (v := 47) hx hb dX12_single_19 (by decide +kernel) ?_
        refine lv_icmp_eq (tgt := 96) hx hb dX12_single_21 (by decide) (fun c4 => ?_) (fun c4 => ?_)
        · have c4 : k0.toInt = 47 := by have h := z_eq c4; rw [show (47 : Int32).toInt = 47 from by decide +kernel] at h; exact h
          refine lv_iconst (v := 1) hx hb dX12_single_96 (by decide +kernel) ?_
          refine lv_goto (tgt := 101) hx hb dX12_single_97 (by decide) ?_
          exact r_retz C () (v_single_2  ) ⟨trivial, (v_single_5 k0 c1 c2 c3 c4)⟩ hP hS dX12_single_101
        · have c4 : ¬ k0.toInt = 47 := by have h := z_ne c4; rw [show (47 : Int32).toInt = 47 from by decide +kernel] at h; exact h
          refine lv_iload_n hx hb dX12_single_24 rfl (lv_at hl 0 rfl) ?_
          refine lv_bipush (v := 37) hx hb dX12_single_25 (by decide +kernel) ?_
          refine lv_icmp_eq (tgt := 96) hx hb dX12_single_27 (by decide) (fun c5 => ?_) (fun c5 => ?_)
          · have c5 : k0.toInt = 37 := by have h := z_eq c5; rw [show (37 : Int32).toInt = 37 from by decide +kernel] at h; exact h
            refine lv_iconst (v := 1) hx hb dX12_single_96 (by decide +kernel) ?_
            refine lv_goto (tgt := 101) hx hb dX12_single_97 (by decide) ?_
            exact r_retz C () (v_single_2  ) ⟨trivial, (v_single_6 k0 c1 c2 c3 c4 c5)⟩ hP hS dX12_single_101
          · have c5 : ¬ k0.toInt = 37 := by have h := z_ne c5; rw [show (37 : Int32).toInt = 37 from by decide +kernel] at h; exact h
            refine lv_iload_n hx hb dX12_single_30 rfl (lv_at hl 0 rfl) ?_
            refine lv_bipush (v := 60) hx hb dX12_single_31 (by decide +kernel) ?_
            refine lv_icmp_eq (tgt := 96) hx hb dX12_single_33 (by decide) (fun c6 => ?_) (fun c6 => ?_)
            · have c6 : k0.toInt = 60 := by have h := z_eq c6; rw [show (60 : Int32).toInt = 60 from by decide +kernel] at h; exact h
              refine lv_iconst (v := 1) hx hb dX12_single_96 (by decide +kernel) ?_
              refine lv_goto (tgt := 101) hx hb dX12_single_97 (by decide) ?_
              exact r_retz C () (v_single_2  ) ⟨trivial, (v_single_7 k0 c1 c2 c3 c4 c5 c6)⟩ hP hS dX12_single_101
            · have c6 : ¬ k0.toInt = 60 := by have h := z_ne c6; rw [show (60 : Int32).toInt = 60 from by decide +kernel] at h; exact h
              refine lv_iload_n hx hb dX12_single_36 rfl (lv_at hl 0 rfl) ?_
              refine lv_bipush (v := 62) hx hb dX12_single_37 (by decide +kernel) ?_
              refine lv_icmp_eq (tgt := 96) hx hb dX12_single_39 (by decide) (fun c7 => ?_) (fun c7 => ?_)
              · have c7 : k0.toInt = 62 := by have h := z_eq c7; rw [show (62 : Int32).toInt = 62 from by decide +kernel] at h; exact h
                refine lv_iconst (v := 1) hx hb dX12_single_96 (by decide +kernel) ?_
                refine lv_goto (tgt := 101) hx hb dX12_single_97 (by decide) ?_
                exact r_retz C () (v_single_2  ) ⟨trivial, (v_single_8 k0 c1 c2 c3 c4 c5 c6 c7)⟩ hP hS dX12_single_101
              · have c7 : ¬ k0.toInt = 62 := by have h := z_ne c7; rw [show (62 : Int32).toInt = 62 from by decide +kernel] at h; exact h
                refine lv_iload_n hx hb dX12_single_42 rfl (lv_at hl 0 rfl) ?_
                refine lv_bipush (v := 33) hx hb dX12_single_43 (by decide +kernel) ?_
                refine lv_icmp_eq (tgt := 96) hx hb dX12_single_45 (by decide) (fun c8 => ?_) (fun c8 => ?_)
                · have c8 : k0.toInt = 33 := by have h := z_eq c8; rw [show (33 : Int32).toInt = 33 from by decide +kernel] at h; exact h
                  refine lv_iconst (v := 1) hx hb dX12_single_96 (by decide +kernel) ?_
                  refine lv_goto (tgt := 101) hx hb dX12_single_97 (by decide) ?_
                  exact r_retz C () (v_single_2  ) ⟨trivial, (v_single_9 k0 c1 c2 c3 c4 c5 c6 c7 c8)⟩ hP hS dX12_single_101
                · have c8 : ¬ k0.toInt = 33 := by have h := z_ne c8; rw [show (33 : Int32).toInt = 33 from by decide +kernel] at h; exact h
                  refine lv_iload_n hx hb dX12_single_48 rfl (lv_at hl 0 rfl) ?_
                  refine lv_bipush (v := 63) hx hb dX12_single_49 (by decide +kernel) ?_
                  refine lv_icmp_eq (tgt := 96) hx hb dX12_single_51 (by decide) (fun c9 => ?_) (fun c9 => ?_)
                  · have c9 : k0.toInt = 63 := by have h := z_eq c9; rw [show (63 : Int32).toInt = 63 from by decide +kernel] at h; exact h
                    refine lv_iconst (v := 1) hx hb dX12_single_96 (by decide +kernel) ?_
                    refine lv_goto (tgt := 101) hx hb dX12_single_97 (by decide) ?_
                    exact r_retz C () (v_single_2  ) ⟨trivial, (v_single_10 k0 c1 c2 c3 c4 c5 c6 c7 c8 c9)⟩ hP hS dX12_single_101
                  · have c9 : ¬ k0.toInt = 63 := by have h := z_ne c9; rw [show (63 : Int32).toInt = 63 from by decide +kernel] at h; exact h
                    refine lv_iload_n hx hb dX12_single_54 rfl (lv_at hl 0 rfl) ?_
                    refine lv_bipush (v := 58) hx hb dX12_single_55 (by decide +kernel) ?_
                    refine lv_icmp_eq (tgt := 96) hx hb dX12_single_57 (by decide) (fun c10 => ?_) (fun c10 => ?_)
                    · have c10 : k0.toInt = 58 := by have h := z_eq c10; rw [show (58 : Int32).toInt = 58 from by decide +kernel] at h; exact h
                      refine lv_iconst (v := 1) hx hb dX12_single_96 (by decide +kernel) ?_
                      refine lv_goto (tgt := 101) hx hb dX12_single_97 (by decide) ?_
                      exact r_retz C () (v_single_2  ) ⟨trivial, (v_single_11 k0 c1 c2 c3 c4 c5 c6 c7 c8 c9 c10)⟩ hP hS dX12_single_101
                    · have c10 : ¬ k0.toInt = 58 := by have h := z_ne c10; rw [show (58 : Int32).toInt = 58 from by decide +kernel] at h; exact h
                      refine lv_iload_n hx hb dX12_single_60 rfl (lv_at hl 0 rfl) ?_
                      refine lv_bipush (v := 46) hx hb dX12_single_61 (by decide +kernel) ?_
                      refine lv_icmp_eq (tgt := 96) hx hb dX12_single_63 (by decide) (fun c11 => ?_) (fun c11 => ?_)
                      · have c11 : k0.toInt = 46 := by have h := z_eq c11; rw [show (46 : Int32).toInt = 46 from by decide +kernel] at h; exact h
                        refine lv_iconst (v := 1) hx hb dX12_single_96 (by decide +kernel) ?_
                        refine lv_goto (tgt := 101) hx hb dX12_single_97 (by decide) ?_
                        exact r_retz C () (v_single_2  ) ⟨trivial, (v_single_12 k0 c1 c2 c3 c4 c5 c6 c7 c8 c9 c10 c11)⟩ hP hS dX12_single_101
                      · have c11 : ¬ k0.toInt = 46 := by have h := z_ne c11; rw [show (46 : Int32).toInt = 46 from by decide +kernel] at h; exact h
                        refine lv_iload_n hx hb dX12_single_66 rfl (lv_at hl 0 rfl) ?_
                        refine lv_bipush (v := 40) hx hb dX12_single_67 (by decide +kernel) ?_
                        refine lv_icmp_eq (tgt := 96) hx hb dX12_single_69 (by decide) (fun c12 => ?_) (fun c12 => ?_)
                        · have c12 : k0.toInt = 40 := by have h := z_eq c12; rw [show (40 : Int32).toInt = 40 from by decide +kernel] at h; exact h
                          refine lv_iconst (v := 1) hx hb dX12_single_96 (by decide +kernel) ?_
                          refine lv_goto (tgt := 101) hx hb dX12_single_97 (by decide) ?_
                          exact r_retz C () (v_single_2  ) ⟨trivial, (v_single_13 k0 c1 c2 c3 c4 c5 c6 c7 c8 c9 c10 c11 c12)⟩ hP hS dX12_single_101
                        · have c12 : ¬ k0.toInt = 40 := by have h := z_ne c12; rw [show (40 : Int32).toInt = 40 from by decide +kernel] at h; exact h
                          refine lv_iload_n hx hb dX12_single_72 rfl (lv_at hl 0 rfl) ?_
                          refine lv_bipush (v := 41) hx hb dX12_single_73 (by decide +kernel) ?_
                          refine lv_icmp_eq (tgt := 96) hx hb dX12_single_75 (by decide) (fun c13 => ?_) (fun c13 => ?_)
                          · have c13 : k0.toInt = 41 := by have h := z_eq c13; rw [show (41 : Int32).toInt = 41 from by decide +kernel] at h; exact h
                            refine lv_iconst (v := 1) hx hb dX12_single_96 (by decide +kernel) ?_
                            refine lv_goto (tgt := 101) hx hb dX12_single_97 (by decide) ?_
                            exact r_retz C () (v_single_2  ) ⟨trivial, (v_single_14 k0 c1 c2 c3 c4 c5 c6 c7 c8 c9 c10 c11 c12 c13)⟩ hP hS dX12_single_101
                          · have c13 : ¬ k0.toInt = 41 := by have h := z_ne c13; rw [show (41 : Int32).toInt = 41 from by decide +kernel] at h; exact h
                            refine lv_iload_n hx hb dX12_single_78 rfl (lv_at hl 0 rfl) ?_
                            refine lv_bipush (v := 44) hx hb dX12_single_79 (by decide +kernel) ?_
                            refine lv_icmp_eq (tgt := 96) hx hb dX12_single_81 (by decide) (fun c14 => ?_) (fun c14 => ?_)
                            · have c14 : k0.toInt = 44 := by have h := z_eq c14; rw [show (44 : Int32).toInt = 44 from by decide +kernel] at h; exact h
                              refine lv_iconst (v := 1) hx hb dX12_single_96 (by decide +kernel) ?_
                              refine lv_goto (tgt := 101) hx hb dX12_single_97 (by decide) ?_
                              exact r_retz C () (v_single_2  ) ⟨trivial, (v_single_15 k0 c1 c2 c3 c4 c5 c6 c7 c8 c9 c10 c11 c12 c13 c14)⟩ hP hS dX12_single_101
                            · have c14 : ¬ k0.toInt = 44 := by have h := z_ne c14; rw [show (44 : Int32).toInt = 44 from by decide +kernel] at h; exact h
                              refine lv_iload_n hx hb dX12_single_84 rfl (lv_at hl 0 rfl) ?_
                              refine lv_bipush (v := 35) hx hb dX12_single_85 (by decide +kernel) ?_
                              refine lv_icmp_eq (tgt := 96) hx hb dX12_single_87 (by decide) (fun c15 => ?_) (fun c15 => ?_)
                              · have c15 : k0.toInt = 35 := by have h := z_eq c15; rw [show (35 : Int32).toInt = 35 from by decide +kernel] at h; exact h
                                refine lv_iconst (v := 1) hx hb dX12_single_96 (by decide +kernel) ?_
                                refine lv_goto (tgt := 101) hx hb dX12_single_97 (by decide) ?_
                                exact r_retz C () (v_single_2  ) ⟨trivial, (v_single_16 k0 c1 c2 c3 c4 c5 c6 c7 c8 c9 c10 c11 c12 c13 c14 c15)⟩ hP hS dX12_single_101
                              · have c15 : ¬ k0.toInt = 35 := by have h := z_ne c15; rw [show (35 : Int32).toInt = 35 from by decide +kernel] at h; exact h
                                refine lv_iload_n hx hb dX12_single_90 rfl (lv_at hl 0 rfl) ?_
                                refine lv_bipush (v := 61) hx hb dX12_single_91 (by decide +kernel) ?_
                                refine lv_icmp_ne (tgt := 100) hx hb dX12_single_93 (by decide) (fun c16 => ?_) (fun c16 => ?_)
                                · have c16 : ¬ k0.toInt = 61 := by have h := z_ne c16; rw [show (61 : Int32).toInt = 61 from by decide +kernel] at h; exact h
                                  refine lv_iconst (v := 0) hx hb dX12_single_100 (by decide +kernel) ?_
                                  exact r_retz C () (v_single_18  ) ⟨trivial, (v_single_17 k0 c1 c2 c3 c4 c5 c6 c7 c8 c9 c10 c11 c12 c13 c14 c15 c16)⟩ hP hS dX12_single_101
                                · have c16 : k0.toInt = 61 := by have h := z_eq c16; rw [show (61 : Int32).toInt = 61 from by decide +kernel] at h; exact h
                                  refine lv_iconst (v := 1) hx hb dX12_single_96 (by decide +kernel) ?_
                                  refine lv_goto (tgt := 101) hx hb dX12_single_97 (by decide) ?_
                                  exact r_retz C () (v_single_2  ) ⟨trivial, (v_single_19 k0 c1 c2 c3 c4 c5 c6 c7 c8 c9 c10 c11 c12 c13 c14 c15 c16)⟩ hP hS dX12_single_101

-- post @77
theorem v_twice_1 (k1 : Int32) (c1 : ¬ k1.toInt = 61) : ¬ (0 : Int32).toInt = 0 → ¬ k1.toInt = 0 := by
  have q0 : (0 : Int32).toInt = 0 := by decide +kernel
  first | assumption | omega | (subst_vars; omega) | trivial
-- post2 @77
theorem v_twice_2 (k0 : Int32) (k1 : Int32) (c1 : ¬ k1.toInt = 61) (c2 : ¬ k0.toInt = 38) (c3 : ¬ k0.toInt = 124) (c4 : ¬ k0.toInt = 63) : (¬ (0 : Int32).toInt = 0 → TW k0.toInt k1.toInt) ∧ ((0 : Int32).toInt = 0 → ¬ TW k0.toInt k1.toInt) := by
  have q0 : (0 : Int32).toInt = 0 := by decide +kernel
  constructor <;> intro h9 <;> omega
-- bool@ret @77
theorem v_twice_3   : (0 : Int32) = 0 ∨ (0 : Int32) = 1 := by
  have q0 : (0 : Int32).toInt = 0 := by decide +kernel
  first | exact Or.inl rfl | exact Or.inr rfl | exact bool_of (by omega)
-- post @77
theorem v_twice_4 (k1 : Int32) (c1 : ¬ k1.toInt = 61) (c5 : k1.toInt = 58) : ¬ (1 : Int32).toInt = 0 → ¬ k1.toInt = 0 := by
  have q1 : (1 : Int32).toInt = 1 := by decide +kernel
  first | assumption | omega | (subst_vars; omega) | trivial
-- post2 @77
theorem v_twice_5 (k0 : Int32) (k1 : Int32) (c1 : ¬ k1.toInt = 61) (c2 : ¬ k0.toInt = 38) (c3 : ¬ k0.toInt = 124) (c4 : k0.toInt = 63) (c5 : k1.toInt = 58) : (¬ (1 : Int32).toInt = 0 → TW k0.toInt k1.toInt) ∧ ((1 : Int32).toInt = 0 → ¬ TW k0.toInt k1.toInt) := by
  have q1 : (1 : Int32).toInt = 1 := by decide +kernel
  constructor <;> intro h9 <;> omega
-- bool@ret @77
theorem v_twice_6   : (1 : Int32) = 0 ∨ (1 : Int32) = 1 := by
  have q1 : (1 : Int32).toInt = 1 := by decide +kernel
  first | exact Or.inl rfl | exact Or.inr rfl | exact bool_of (by omega)
-- post @77
theorem v_twice_7 (k1 : Int32) (c1 : ¬ k1.toInt = 61) (c5 : ¬ k1.toInt = 58) (c6 : ¬ k1.toInt = 46) : ¬ (0 : Int32).toInt = 0 → ¬ k1.toInt = 0 := by
  have q0 : (0 : Int32).toInt = 0 := by decide +kernel
  first | assumption | omega | (subst_vars; omega) | trivial
-- post2 @77
theorem v_twice_8 (k0 : Int32) (k1 : Int32) (c1 : ¬ k1.toInt = 61) (c2 : ¬ k0.toInt = 38) (c3 : ¬ k0.toInt = 124) (c4 : k0.toInt = 63) (c5 : ¬ k1.toInt = 58) (c6 : ¬ k1.toInt = 46) : (¬ (0 : Int32).toInt = 0 → TW k0.toInt k1.toInt) ∧ ((0 : Int32).toInt = 0 → ¬ TW k0.toInt k1.toInt) := by
  have q0 : (0 : Int32).toInt = 0 := by decide +kernel
  constructor <;> intro h9 <;> omega
-- post @77
theorem v_twice_9 (k1 : Int32) (c1 : ¬ k1.toInt = 61) (c5 : ¬ k1.toInt = 58) (c6 : k1.toInt = 46) : ¬ (1 : Int32).toInt = 0 → ¬ k1.toInt = 0 := by
  have q1 : (1 : Int32).toInt = 1 := by decide +kernel
  first | assumption | omega | (subst_vars; omega) | trivial
-- post2 @77
theorem v_twice_10 (k0 : Int32) (k1 : Int32) (c1 : ¬ k1.toInt = 61) (c2 : ¬ k0.toInt = 38) (c3 : ¬ k0.toInt = 124) (c4 : k0.toInt = 63) (c5 : ¬ k1.toInt = 58) (c6 : k1.toInt = 46) : (¬ (1 : Int32).toInt = 0 → TW k0.toInt k1.toInt) ∧ ((1 : Int32).toInt = 0 → ¬ TW k0.toInt k1.toInt) := by
  have q1 : (1 : Int32).toInt = 1 := by decide +kernel
  constructor <;> intro h9 <;> omega
-- post @77
theorem v_twice_11 (k1 : Int32) (c1 : ¬ k1.toInt = 61) (c7 : k1.toInt = 124) : ¬ (1 : Int32).toInt = 0 → ¬ k1.toInt = 0 := by
  have q1 : (1 : Int32).toInt = 1 := by decide +kernel
  first | assumption | omega | (subst_vars; omega) | trivial
-- post2 @77
theorem v_twice_12 (k0 : Int32) (k1 : Int32) (c1 : ¬ k1.toInt = 61) (c2 : ¬ k0.toInt = 38) (c3 : k0.toInt = 124) (c7 : k1.toInt = 124) : (¬ (1 : Int32).toInt = 0 → TW k0.toInt k1.toInt) ∧ ((1 : Int32).toInt = 0 → ¬ TW k0.toInt k1.toInt) := by
  have q1 : (1 : Int32).toInt = 1 := by decide +kernel
  constructor <;> intro h9 <;> omega
-- post @77
theorem v_twice_13 (k1 : Int32) (c1 : ¬ k1.toInt = 61) (c7 : ¬ k1.toInt = 124) : ¬ (0 : Int32).toInt = 0 → ¬ k1.toInt = 0 := by
  have q0 : (0 : Int32).toInt = 0 := by decide +kernel
  first | assumption | omega | (subst_vars; omega) | trivial
-- post2 @77
theorem v_twice_14 (k0 : Int32) (k1 : Int32) (c1 : ¬ k1.toInt = 61) (c2 : ¬ k0.toInt = 38) (c3 : k0.toInt = 124) (c7 : ¬ k1.toInt = 124) (c8 : ¬ k0.toInt = 63) : (¬ (0 : Int32).toInt = 0 → TW k0.toInt k1.toInt) ∧ ((0 : Int32).toInt = 0 → ¬ TW k0.toInt k1.toInt) := by
  have q0 : (0 : Int32).toInt = 0 := by decide +kernel
  constructor <;> intro h9 <;> omega
-- dead@57 @60
theorem v_twice_15 (k0 : Int32) (c2 : ¬ k0.toInt = 38) (c3 : k0.toInt = 124) (c8 : k0.toInt = 63) : False := by
  first | assumption | omega | (subst_vars; omega) | trivial
-- post @77
theorem v_twice_16 (k1 : Int32) (c1 : ¬ k1.toInt = 61) (c9 : k1.toInt = 38) : ¬ (1 : Int32).toInt = 0 → ¬ k1.toInt = 0 := by
  have q1 : (1 : Int32).toInt = 1 := by decide +kernel
  first | assumption | omega | (subst_vars; omega) | trivial
-- post2 @77
theorem v_twice_17 (k0 : Int32) (k1 : Int32) (c1 : ¬ k1.toInt = 61) (c2 : k0.toInt = 38) (c9 : k1.toInt = 38) : (¬ (1 : Int32).toInt = 0 → TW k0.toInt k1.toInt) ∧ ((1 : Int32).toInt = 0 → ¬ TW k0.toInt k1.toInt) := by
  have q1 : (1 : Int32).toInt = 1 := by decide +kernel
  constructor <;> intro h9 <;> omega
-- post @77
theorem v_twice_18 (k1 : Int32) (c1 : ¬ k1.toInt = 61) (c9 : ¬ k1.toInt = 38) : ¬ (0 : Int32).toInt = 0 → ¬ k1.toInt = 0 := by
  have q0 : (0 : Int32).toInt = 0 := by decide +kernel
  first | assumption | omega | (subst_vars; omega) | trivial
-- post2 @77
theorem v_twice_19 (k0 : Int32) (k1 : Int32) (c1 : ¬ k1.toInt = 61) (c2 : k0.toInt = 38) (c9 : ¬ k1.toInt = 38) (c10 : ¬ k0.toInt = 124) (c11 : ¬ k0.toInt = 63) : (¬ (0 : Int32).toInt = 0 → TW k0.toInt k1.toInt) ∧ ((0 : Int32).toInt = 0 → ¬ TW k0.toInt k1.toInt) := by
  have q0 : (0 : Int32).toInt = 0 := by decide +kernel
  constructor <;> intro h9 <;> omega
-- dead@57 @60
theorem v_twice_20 (k0 : Int32) (c2 : k0.toInt = 38) (c10 : ¬ k0.toInt = 124) (c11 : k0.toInt = 63) : False := by
  first | assumption | omega | (subst_vars; omega) | trivial
-- dead@45 @48
theorem v_twice_21 (k0 : Int32) (c2 : k0.toInt = 38) (c10 : k0.toInt = 124) : False := by
  first | assumption | omega | (subst_vars; omega) | trivial
-- post @77
theorem v_twice_22 (k1 : Int32) (c1 : k1.toInt = 61) : ¬ (1 : Int32).toInt = 0 → ¬ k1.toInt = 0 := by
  have q1 : (1 : Int32).toInt = 1 := by decide +kernel
  first | assumption | omega | (subst_vars; omega) | trivial
-- post2 @77
theorem v_twice_23 (k0 : Int32) (k1 : Int32) (c1 : k1.toInt = 61) (c12 : k0.toInt = 60) : (¬ (1 : Int32).toInt = 0 → TW k0.toInt k1.toInt) ∧ ((1 : Int32).toInt = 0 → ¬ TW k0.toInt k1.toInt) := by
  have q1 : (1 : Int32).toInt = 1 := by decide +kernel
  constructor <;> intro h9 <;> omega
-- post2 @77
theorem v_twice_24 (k0 : Int32) (k1 : Int32) (c1 : k1.toInt = 61) (c12 : ¬ k0.toInt = 60) (c13 : k0.toInt = 62) : (¬ (1 : Int32).toInt = 0 → TW k0.toInt k1.toInt) ∧ ((1 : Int32).toInt = 0 → ¬ TW k0.toInt k1.toInt) := by
  have q1 : (1 : Int32).toInt = 1 := by decide +kernel
  constructor <;> intro h9 <;> omega
-- post2 @77
theorem v_twice_25 (k0 : Int32) (k1 : Int32) (c1 : k1.toInt = 61) (c12 : ¬ k0.toInt = 60) (c13 : ¬ k0.toInt = 62) (c14 : k0.toInt = 61) : (¬ (1 : Int32).toInt = 0 → TW k0.toInt k1.toInt) ∧ ((1 : Int32).toInt = 0 → ¬ TW k0.toInt k1.toInt) := by
  have q1 : (1 : Int32).toInt = 1 := by decide +kernel
  constructor <;> intro h9 <;> omega
-- post2 @77
theorem v_twice_26 (k0 : Int32) (k1 : Int32) (c1 : k1.toInt = 61) (c12 : ¬ k0.toInt = 60) (c13 : ¬ k0.toInt = 62) (c14 : ¬ k0.toInt = 61) (c15 : k0.toInt = 33) : (¬ (1 : Int32).toInt = 0 → TW k0.toInt k1.toInt) ∧ ((1 : Int32).toInt = 0 → ¬ TW k0.toInt k1.toInt) := by
  have q1 : (1 : Int32).toInt = 1 := by decide +kernel
  constructor <;> intro h9 <;> omega
-- post @77
theorem v_twice_27 (k1 : Int32) (c1 : k1.toInt = 61) : ¬ (0 : Int32).toInt = 0 → ¬ k1.toInt = 0 := by
  have q0 : (0 : Int32).toInt = 0 := by decide +kernel
  first | assumption | omega | (subst_vars; omega) | trivial
-- post2 @77
theorem v_twice_28 (k0 : Int32) (k1 : Int32) (c1 : k1.toInt = 61) (c12 : ¬ k0.toInt = 60) (c13 : ¬ k0.toInt = 62) (c14 : ¬ k0.toInt = 61) (c15 : ¬ k0.toInt = 33) (c16 : ¬ k0.toInt = 38) (c17 : ¬ k0.toInt = 124) (c18 : ¬ k0.toInt = 63) : (¬ (0 : Int32).toInt = 0 → TW k0.toInt k1.toInt) ∧ ((0 : Int32).toInt = 0 → ¬ TW k0.toInt k1.toInt) := by
  have q0 : (0 : Int32).toInt = 0 := by decide +kernel
  constructor <;> intro h9 <;> omega
-- dead@63 @72
theorem v_twice_29 (k1 : Int32) (c1 : k1.toInt = 61) (c19 : k1.toInt = 58) : False := by
  first | assumption | omega | (subst_vars; omega) | trivial
-- post @77
theorem v_twice_30 (k1 : Int32) (c1 : k1.toInt = 61) (c19 : ¬ k1.toInt = 58) (c20 : ¬ k1.toInt = 46) : ¬ (0 : Int32).toInt = 0 → ¬ k1.toInt = 0 := by
  have q0 : (0 : Int32).toInt = 0 := by decide +kernel
  first | assumption | omega | (subst_vars; omega) | trivial
-- post2 @77
theorem v_twice_31 (k0 : Int32) (k1 : Int32) (c1 : k1.toInt = 61) (c12 : ¬ k0.toInt = 60) (c13 : ¬ k0.toInt = 62) (c14 : ¬ k0.toInt = 61) (c15 : ¬ k0.toInt = 33) (c16 : ¬ k0.toInt = 38) (c17 : ¬ k0.toInt = 124) (c18 : k0.toInt = 63) (c19 : ¬ k1.toInt = 58) (c20 : ¬ k1.toInt = 46) : (¬ (0 : Int32).toInt = 0 → TW k0.toInt k1.toInt) ∧ ((0 : Int32).toInt = 0 → ¬ TW k0.toInt k1.toInt) := by
  have q0 : (0 : Int32).toInt = 0 := by decide +kernel
  constructor <;> intro h9 <;> omega
-- dead@69 @72
theorem v_twice_32 (k1 : Int32) (c1 : k1.toInt = 61) (c19 : ¬ k1.toInt = 58) (c20 : k1.toInt = 46) : False := by
  first | assumption | omega | (subst_vars; omega) | trivial
-- dead@51 @72
theorem v_twice_33 (k1 : Int32) (c1 : k1.toInt = 61) (c21 : k1.toInt = 124) : False := by
  first | assumption | omega | (subst_vars; omega) | trivial
-- post @77
theorem v_twice_34 (k1 : Int32) (c1 : k1.toInt = 61) (c21 : ¬ k1.toInt = 124) : ¬ (0 : Int32).toInt = 0 → ¬ k1.toInt = 0 := by
  have q0 : (0 : Int32).toInt = 0 := by decide +kernel
  first | assumption | omega | (subst_vars; omega) | trivial
-- post2 @77
theorem v_twice_35 (k0 : Int32) (k1 : Int32) (c1 : k1.toInt = 61) (c12 : ¬ k0.toInt = 60) (c13 : ¬ k0.toInt = 62) (c14 : ¬ k0.toInt = 61) (c15 : ¬ k0.toInt = 33) (c16 : ¬ k0.toInt = 38) (c17 : k0.toInt = 124) (c21 : ¬ k1.toInt = 124) (c22 : ¬ k0.toInt = 63) : (¬ (0 : Int32).toInt = 0 → TW k0.toInt k1.toInt) ∧ ((0 : Int32).toInt = 0 → ¬ TW k0.toInt k1.toInt) := by
  have q0 : (0 : Int32).toInt = 0 := by decide +kernel
  constructor <;> intro h9 <;> omega
-- dead@57 @60
theorem v_twice_36 (k0 : Int32) (c12 : ¬ k0.toInt = 60) (c13 : ¬ k0.toInt = 62) (c14 : ¬ k0.toInt = 61) (c15 : ¬ k0.toInt = 33) (c16 : ¬ k0.toInt = 38) (c17 : k0.toInt = 124) (c22 : k0.toInt = 63) : False := by
  first | assumption | omega | (subst_vars; omega) | trivial
-- dead@39 @72
theorem v_twice_37 (k1 : Int32) (c1 : k1.toInt = 61) (c23 : k1.toInt = 38) : False := by
  first | assumption | omega | (subst_vars; omega) | trivial
-- post @77
theorem v_twice_38 (k1 : Int32) (c1 : k1.toInt = 61) (c23 : ¬ k1.toInt = 38) : ¬ (0 : Int32).toInt = 0 → ¬ k1.toInt = 0 := by
  have q0 : (0 : Int32).toInt = 0 := by decide +kernel
  first | assumption | omega | (subst_vars; omega) | trivial
-- post2 @77
theorem v_twice_39 (k0 : Int32) (k1 : Int32) (c1 : k1.toInt = 61) (c12 : ¬ k0.toInt = 60) (c13 : ¬ k0.toInt = 62) (c14 : ¬ k0.toInt = 61) (c15 : ¬ k0.toInt = 33) (c16 : k0.toInt = 38) (c23 : ¬ k1.toInt = 38) (c24 : ¬ k0.toInt = 124) (c25 : ¬ k0.toInt = 63) : (¬ (0 : Int32).toInt = 0 → TW k0.toInt k1.toInt) ∧ ((0 : Int32).toInt = 0 → ¬ TW k0.toInt k1.toInt) := by
  have q0 : (0 : Int32).toInt = 0 := by decide +kernel
  constructor <;> intro h9 <;> omega
-- dead@57 @60
theorem v_twice_40 (k0 : Int32) (c12 : ¬ k0.toInt = 60) (c13 : ¬ k0.toInt = 62) (c14 : ¬ k0.toInt = 61) (c15 : ¬ k0.toInt = 33) (c16 : k0.toInt = 38) (c24 : ¬ k0.toInt = 124) (c25 : k0.toInt = 63) : False := by
  first | assumption | omega | (subst_vars; omega) | trivial
-- dead@45 @48
theorem v_twice_41 (k0 : Int32) (c12 : ¬ k0.toInt = 60) (c13 : ¬ k0.toInt = 62) (c14 : ¬ k0.toInt = 61) (c15 : ¬ k0.toInt = 33) (c16 : k0.toInt = 38) (c24 : k0.toInt = 124) : False := by
  first | assumption | omega | (subst_vars; omega) | trivial
set_option maxHeartbeats 4000000 in
set_option maxRecDepth 100000 in
theorem M_twice (l : Launch) (D : va_G) (cy : Nat → ClassId) (sz0 : Nat) (sa : Nat → Nat) (ad : Nat → Nat) (σ : RS) (sz : Nat) (k0 : Int32) (k1 : Int32) (hpre : True) : Met l yX12_twice (Cond.code yX12_twice cX12_twice 2 (some .boolean) :: GWm) ({ frames := 0, cells := 0, slots := 0, locals := 0 }) (PcR D cy sz0 sa ad [.int k0, .int k1] σ sz) (va_Qi (fun (r : Int32) (u : Unit) => (¬ r.toInt = 0 → ¬ k1.toInt = 0) ∧ ((¬ r.toInt = 0 → TW k0.toInt k1.toInt) ∧ (r.toInt = 0 → ¬ TW k0.toInt k1.toInt))) (fun (u : Unit) (t : State) => RP D cy ad σ t.heap) (AR cy ad sz)) 0 0 (AR cy ad sz) := by
  refine RM_of (loc0 := [(0, .int k0), (1, .int k1)]) (by decide) rfl rfl (Nat.le_of_ble_eq_true rfl) ?_
  intro p e s m below meth c ls hsz C hP hS hl
  have hx := C.1
  have hb := C.2.1
  have hown := C.2.2.2.2.1
  have hw := C.2.2.2.2.2.1
  clear hsz
  refine lv_iload_n hx hb dX12_twice_0 rfl (lv_at hl 1 rfl) ?_
  refine lv_bipush (v := 61) hx hb dX12_twice_1 (by decide +kernel) ?_
  refine lv_icmp_ne (tgt := 30) hx hb dX12_twice_3 (by decide) (fun c1 => ?_) (fun c1 => ?_)
  · have c1 : ¬ k1.toInt = 61 := by have h := z_ne c1; rw [show (61 : Int32).toInt = 61 from by decide +kernel] at h; exact h
    refine lv_iload_n hx hb dX12_twice_30 rfl (lv_at hl 0 rfl) ?_
    refine lv_bipush (v := 38) hx hb dX12_twice_31 (by decide +kernel) ?_
    refine lv_icmp_ne (tgt := 42) hx hb dX12_twice_33 (by decide) (fun c2 => ?_) (fun c2 => ?_)
    · have c2 : ¬ k0.toInt = 38 := by have h := z_ne c2; rw [show (38 : Int32).toInt = 38 from by decide +kernel] at h; exact h
      refine lv_iload_n hx hb dX12_twice_42 rfl (lv_at hl 0 rfl) ?_
      refine lv_bipush (v := 124) hx hb dX12_twice_43 (by decide +kernel) ?_
      refine lv_icmp_ne (tgt := 54) hx hb dX12_twice_45 (by decide) (fun c3 => ?_) (fun c3 => ?_)
      · have c3 : ¬ k0.toInt = 124 := by have h := z_ne c3; rw [show (124 : Int32).toInt = 124 from by decide +kernel] at h; exact h
        refine lv_iload_n hx hb dX12_twice_54 rfl (lv_at hl 0 rfl) ?_
        refine lv_bipush (v := 63) hx hb dX12_twice_55 (by decide +kernel) ?_
        refine lv_icmp_ne (tgt := 76) hx hb dX12_twice_57 (by decide) (fun c4 => ?_) (fun c4 => ?_)
        · have c4 : ¬ k0.toInt = 63 := by have h := z_ne c4; rw [show (63 : Int32).toInt = 63 from by decide +kernel] at h; exact h
          refine lv_iconst (v := 0) hx hb dX12_twice_76 (by decide +kernel) ?_
          exact r_retz C () (v_twice_3  ) ⟨(v_twice_1 k1 c1), (v_twice_2 k0 k1 c1 c2 c3 c4)⟩ hP hS dX12_twice_77
        · have c4 : k0.toInt = 63 := by have h := z_eq c4; rw [show (63 : Int32).toInt = 63 from by decide +kernel] at h; exact h
          refine lv_iload_n hx hb dX12_twice_60 rfl (lv_at hl 1 rfl) ?_
          refine lv_bipush (v := 58) hx hb dX12_twice_61 (by decide +kernel) ?_
          refine lv_icmp_eq (tgt := 72) hx hb dX12_twice_63 (by decide) (fun c5 => ?_) (fun c5 => ?_)
          · have c5 : k1.toInt = 58 := by have h := z_eq c5; rw [show (58 : Int32).toInt = 58 from by decide +kernel] at h; exact h
            refine lv_iconst (v := 1) hx hb dX12_twice_72 (by decide +kernel) ?_
            refine lv_goto (tgt := 77) hx hb dX12_twice_73 (by decide) ?_
            exact r_retz C () (v_twice_6  ) ⟨(v_twice_4 k1 c1 c5), (v_twice_5 k0 k1 c1 c2 c3 c4 c5)⟩ hP hS dX12_twice_77
          · have c5 : ¬ k1.toInt = 58 := by have h := z_ne c5; rw [show (58 : Int32).toInt = 58 from by decide +kernel] at h; exact h
            refine lv_iload_n hx hb dX12_twice_66 rfl (lv_at hl 1 rfl) ?_
            refine lv_bipush (v := 46) hx hb dX12_twice_67 (by decide +kernel) ?_
            refine lv_icmp_ne (tgt := 76) hx hb dX12_twice_69 (by decide) (fun c6 => ?_) (fun c6 => ?_)
            · have c6 : ¬ k1.toInt = 46 := by have h := z_ne c6; rw [show (46 : Int32).toInt = 46 from by decide +kernel] at h; exact h
              refine lv_iconst (v := 0) hx hb dX12_twice_76 (by decide +kernel) ?_
              exact r_retz C () (v_twice_3  ) ⟨(v_twice_7 k1 c1 c5 c6), (v_twice_8 k0 k1 c1 c2 c3 c4 c5 c6)⟩ hP hS dX12_twice_77
            · have c6 : k1.toInt = 46 := by have h := z_eq c6; rw [show (46 : Int32).toInt = 46 from by decide +kernel] at h; exact h
              refine lv_iconst (v := 1) hx hb dX12_twice_72 (by decide +kernel) ?_
              refine lv_goto (tgt := 77) hx hb dX12_twice_73 (by decide) ?_
              exact r_retz C () (v_twice_6  ) ⟨(v_twice_9 k1 c1 c5 c6), (v_twice_10 k0 k1 c1 c2 c3 c4 c5 c6)⟩ hP hS dX12_twice_77
      · have c3 : k0.toInt = 124 := by have h := z_eq c3; rw [show (124 : Int32).toInt = 124 from by decide +kernel] at h; exact h
        refine lv_iload_n hx hb dX12_twice_48 rfl (lv_at hl 1 rfl) ?_
        refine lv_bipush (v := 124) hx hb dX12_twice_49 (by decide +kernel) ?_
        refine lv_icmp_eq (tgt := 72) hx hb dX12_twice_51 (by decide) (fun c7 => ?_) (fun c7 => ?_)
        · have c7 : k1.toInt = 124 := by have h := z_eq c7; rw [show (124 : Int32).toInt = 124 from by decide +kernel] at h; exact h
          refine lv_iconst (v := 1) hx hb dX12_twice_72 (by decide +kernel) ?_
          refine lv_goto (tgt := 77) hx hb dX12_twice_73 (by decide) ?_
          exact r_retz C () (v_twice_6  ) ⟨(v_twice_11 k1 c1 c7), (v_twice_12 k0 k1 c1 c2 c3 c7)⟩ hP hS dX12_twice_77
        · have c7 : ¬ k1.toInt = 124 := by have h := z_ne c7; rw [show (124 : Int32).toInt = 124 from by decide +kernel] at h; exact h
          refine lv_iload_n hx hb dX12_twice_54 rfl (lv_at hl 0 rfl) ?_
          refine lv_bipush (v := 63) hx hb dX12_twice_55 (by decide +kernel) ?_
          refine lv_icmp_ne (tgt := 76) hx hb dX12_twice_57 (by decide) (fun c8 => ?_) (fun c8 => ?_)
          · have c8 : ¬ k0.toInt = 63 := by have h := z_ne c8; rw [show (63 : Int32).toInt = 63 from by decide +kernel] at h; exact h
            refine lv_iconst (v := 0) hx hb dX12_twice_76 (by decide +kernel) ?_
            exact r_retz C () (v_twice_3  ) ⟨(v_twice_13 k1 c1 c7), (v_twice_14 k0 k1 c1 c2 c3 c7 c8)⟩ hP hS dX12_twice_77
          · have c8 : k0.toInt = 63 := by have h := z_eq c8; rw [show (63 : Int32).toInt = 63 from by decide +kernel] at h; exact h
            exact absurd (v_twice_15 k0 c2 c3 c8) id
    · have c2 : k0.toInt = 38 := by have h := z_eq c2; rw [show (38 : Int32).toInt = 38 from by decide +kernel] at h; exact h
      refine lv_iload_n hx hb dX12_twice_36 rfl (lv_at hl 1 rfl) ?_
      refine lv_bipush (v := 38) hx hb dX12_twice_37 (by decide +kernel) ?_
      refine lv_icmp_eq (tgt := 72) hx hb dX12_twice_39 (by decide) (fun c9 => ?_) (fun c9 => ?_)
      · have c9 : k1.toInt = 38 := by have h := z_eq c9; rw [show (38 : Int32).toInt = 38 from by decide +kernel] at h; exact h
        refine lv_iconst (v := 1) hx hb dX12_twice_72 (by decide +kernel) ?_
        refine lv_goto (tgt := 77) hx hb dX12_twice_73 (by decide) ?_
        exact r_retz C () (v_twice_6  ) ⟨(v_twice_16 k1 c1 c9), (v_twice_17 k0 k1 c1 c2 c9)⟩ hP hS dX12_twice_77
      · have c9 : ¬ k1.toInt = 38 := by have h := z_ne c9; rw [show (38 : Int32).toInt = 38 from by decide +kernel] at h; exact h
        refine lv_iload_n hx hb dX12_twice_42 rfl (lv_at hl 0 rfl) ?_
        refine lv_bipush (v := 124) hx hb dX12_twice_43 (by decide +kernel) ?_
        refine lv_icmp_ne (tgt := 54) hx hb dX12_twice_45 (by decide) (fun c10 => ?_) (fun c10 => ?_)
        · have c10 : ¬ k0.toInt = 124 := by have h := z_ne c10; rw [show (124 : Int32).toInt = 124 from by decide +kernel] at h; exact h
          refine lv_iload_n hx hb dX12_twice_54 rfl (lv_at hl 0 rfl) ?_
          refine lv_bipush (v := 63) hx hb dX12_twice_55 (by decide +kernel) ?_
          refine lv_icmp_ne (tgt := 76) hx hb dX12_twice_57 (by decide) (fun c11 => ?_) (fun c11 => ?_)
          · have c11 : ¬ k0.toInt = 63 := by have h := z_ne c11; rw [show (63 : Int32).toInt = 63 from by decide +kernel] at h; exact h
            refine lv_iconst (v := 0) hx hb dX12_twice_76 (by decide +kernel) ?_
            exact r_retz C () (v_twice_3  ) ⟨(v_twice_18 k1 c1 c9), (v_twice_19 k0 k1 c1 c2 c9 c10 c11)⟩ hP hS dX12_twice_77
          · have c11 : k0.toInt = 63 := by have h := z_eq c11; rw [show (63 : Int32).toInt = 63 from by decide +kernel] at h; exact h
            exact absurd (v_twice_20 k0 c2 c10 c11) id
        · have c10 : k0.toInt = 124 := by have h := z_eq c10; rw [show (124 : Int32).toInt = 124 from by decide +kernel] at h; exact h
          exact absurd (v_twice_21 k0 c2 c10) id
  · have c1 : k1.toInt = 61 := by have h := z_eq c1; rw [show (61 : Int32).toInt = 61 from by decide +kernel] at h; exact h
    refine lv_iload_n hx hb dX12_twice_6 rfl (lv_at hl 0 rfl) ?_
    refine lv_bipush (v := 60) hx hb dX12_twice_7 (by decide +kernel) ?_
    refine lv_icmp_eq (tgt := 72) hx hb dX12_twice_9 (by decide) (fun c12 => ?_) (fun c12 => ?_)
    · have c12 : k0.toInt = 60 := by have h := z_eq c12; rw [show (60 : Int32).toInt = 60 from by decide +kernel] at h; exact h
      refine lv_iconst (v := 1) hx hb dX12_twice_72 (by decide +kernel) ?_
      refine lv_goto (tgt := 77) hx hb dX12_twice_73 (by decide) ?_
      exact r_retz C () (v_twice_6  ) ⟨(v_twice_22 k1 c1), (v_twice_23 k0 k1 c1 c12)⟩ hP hS dX12_twice_77
    · have c12 : ¬ k0.toInt = 60 := by have h := z_ne c12; rw [show (60 : Int32).toInt = 60 from by decide +kernel] at h; exact h
      refine lv_iload_n hx hb dX12_twice_12 rfl (lv_at hl 0 rfl) ?_
      refine lv_bipush (v := 62) hx hb dX12_twice_13 (by decide +kernel) ?_
      refine lv_icmp_eq (tgt := 72) hx hb dX12_twice_15 (by decide) (fun c13 => ?_) (fun c13 => ?_)
      · have c13 : k0.toInt = 62 := by have h := z_eq c13; rw [show (62 : Int32).toInt = 62 from by decide +kernel] at h; exact h
        refine lv_iconst (v := 1) hx hb dX12_twice_72 (by decide +kernel) ?_
        refine lv_goto (tgt := 77) hx hb dX12_twice_73 (by decide) ?_
        exact r_retz C () (v_twice_6  ) ⟨(v_twice_22 k1 c1), (v_twice_24 k0 k1 c1 c12 c13)⟩ hP hS dX12_twice_77
      · have c13 : ¬ k0.toInt = 62 := by have h := z_ne c13; rw [show (62 : Int32).toInt = 62 from by decide +kernel] at h; exact h
        refine lv_iload_n hx hb dX12_twice_18 rfl (lv_at hl 0 rfl) ?_
        refine lv_bipush (v := 61) hx hb dX12_twice_19 (by decide +kernel) ?_
        refine lv_icmp_eq (tgt := 72) hx hb dX12_twice_21 (by decide) (fun c14 => ?_) (fun c14 => ?_)
        · have c14 : k0.toInt = 61 := by have h := z_eq c14; rw [show (61 : Int32).toInt = 61 from by decide +kernel] at h; exact h
          refine lv_iconst (v := 1) hx hb dX12_twice_72 (by decide +kernel) ?_
          refine lv_goto (tgt := 77) hx hb dX12_twice_73 (by decide) ?_
          exact r_retz C () (v_twice_6  ) ⟨(v_twice_22 k1 c1), (v_twice_25 k0 k1 c1 c12 c13 c14)⟩ hP hS dX12_twice_77
        · have c14 : ¬ k0.toInt = 61 := by have h := z_ne c14; rw [show (61 : Int32).toInt = 61 from by decide +kernel] at h; exact h
          refine lv_iload_n hx hb dX12_twice_24 rfl (lv_at hl 0 rfl) ?_
          refine lv_bipush (v := 33) hx hb dX12_twice_25 (by decide +kernel) ?_
          refine lv_icmp_eq (tgt := 72) hx hb dX12_twice_27 (by decide) (fun c15 => ?_) (fun c15 => ?_)
          · have c15 : k0.toInt = 33 := by have h := z_eq c15; rw [show (33 : Int32).toInt = 33 from by decide +kernel] at h; exact h
            refine lv_iconst (v := 1) hx hb dX12_twice_72 (by decide +kernel) ?_
            refine lv_goto (tgt := 77) hx hb dX12_twice_73 (by decide) ?_
            exact r_retz C () (v_twice_6  ) ⟨(v_twice_22 k1 c1), (v_twice_26 k0 k1 c1 c12 c13 c14 c15)⟩ hP hS dX12_twice_77
          · have c15 : ¬ k0.toInt = 33 := by have h := z_ne c15; rw [show (33 : Int32).toInt = 33 from by decide +kernel] at h; exact h
            refine lv_iload_n hx hb dX12_twice_30 rfl (lv_at hl 0 rfl) ?_
            refine lv_bipush (v := 38) hx hb dX12_twice_31 (by decide +kernel) ?_
            refine lv_icmp_ne (tgt := 42) hx hb dX12_twice_33 (by decide) (fun c16 => ?_) (fun c16 => ?_)
            · have c16 : ¬ k0.toInt = 38 := by have h := z_ne c16; rw [show (38 : Int32).toInt = 38 from by decide +kernel] at h; exact h
              refine lv_iload_n hx hb dX12_twice_42 rfl (lv_at hl 0 rfl) ?_
              refine lv_bipush (v := 124) hx hb dX12_twice_43 (by decide +kernel) ?_
              refine lv_icmp_ne (tgt := 54) hx hb dX12_twice_45 (by decide) (fun c17 => ?_) (fun c17 => ?_)
              · have c17 : ¬ k0.toInt = 124 := by have h := z_ne c17; rw [show (124 : Int32).toInt = 124 from by decide +kernel] at h; exact h
                refine lv_iload_n hx hb dX12_twice_54 rfl (lv_at hl 0 rfl) ?_
                refine lv_bipush (v := 63) hx hb dX12_twice_55 (by decide +kernel) ?_
                refine lv_icmp_ne (tgt := 76) hx hb dX12_twice_57 (by decide) (fun c18 => ?_) (fun c18 => ?_)
                · have c18 : ¬ k0.toInt = 63 := by have h := z_ne c18; rw [show (63 : Int32).toInt = 63 from by decide +kernel] at h; exact h
                  refine lv_iconst (v := 0) hx hb dX12_twice_76 (by decide +kernel) ?_
                  exact r_retz C () (v_twice_3  ) ⟨(v_twice_27 k1 c1), (v_twice_28 k0 k1 c1 c12 c13 c14 c15 c16 c17 c18)⟩ hP hS dX12_twice_77
                · have c18 : k0.toInt = 63 := by have h := z_eq c18; rw [show (63 : Int32).toInt = 63 from by decide +kernel] at h; exact h
                  refine lv_iload_n hx hb dX12_twice_60 rfl (lv_at hl 1 rfl) ?_
                  refine lv_bipush (v := 58) hx hb dX12_twice_61 (by decide +kernel) ?_
                  refine lv_icmp_eq (tgt := 72) hx hb dX12_twice_63 (by decide) (fun c19 => ?_) (fun c19 => ?_)
                  · have c19 : k1.toInt = 58 := by have h := z_eq c19; rw [show (58 : Int32).toInt = 58 from by decide +kernel] at h; exact h
                    exact absurd (v_twice_29 k1 c1 c19) id
                  · have c19 : ¬ k1.toInt = 58 := by have h := z_ne c19; rw [show (58 : Int32).toInt = 58 from by decide +kernel] at h; exact h
                    refine lv_iload_n hx hb dX12_twice_66 rfl (lv_at hl 1 rfl) ?_
                    refine lv_bipush (v := 46) hx hb dX12_twice_67 (by decide +kernel) ?_
                    refine lv_icmp_ne (tgt := 76) hx hb dX12_twice_69 (by decide) (fun c20 => ?_) (fun c20 => ?_)
                    · have c20 : ¬ k1.toInt = 46 := by have h := z_ne c20; rw [show (46 : Int32).toInt = 46 from by decide +kernel] at h; exact h
                      refine lv_iconst (v := 0) hx hb dX12_twice_76 (by decide +kernel) ?_
                      exact r_retz C () (v_twice_3  ) ⟨(v_twice_30 k1 c1 c19 c20), (v_twice_31 k0 k1 c1 c12 c13 c14 c15 c16 c17 c18 c19 c20)⟩ hP hS dX12_twice_77
                    · have c20 : k1.toInt = 46 := by have h := z_eq c20; rw [show (46 : Int32).toInt = 46 from by decide +kernel] at h; exact h
                      exact absurd (v_twice_32 k1 c1 c19 c20) id
              · have c17 : k0.toInt = 124 := by have h := z_eq c17; rw [show (124 : Int32).toInt = 124 from by decide +kernel] at h; exact h
                refine lv_iload_n hx hb dX12_twice_48 rfl (lv_at hl 1 rfl) ?_
                refine lv_bipush (v := 124) hx hb dX12_twice_49 (by decide +kernel) ?_
                refine lv_icmp_eq (tgt := 72) hx hb dX12_twice_51 (by decide) (fun c21 => ?_) (fun c21 => ?_)
                · have c21 : k1.toInt = 124 := by have h := z_eq c21; rw [show (124 : Int32).toInt = 124 from by decide +kernel] at h; exact h
                  exact absurd (v_twice_33 k1 c1 c21) id
                · have c21 : ¬ k1.toInt = 124 := by have h := z_ne c21; rw [show (124 : Int32).toInt = 124 from by decide +kernel] at h; exact h
                  refine lv_iload_n hx hb dX12_twice_54 rfl (lv_at hl 0 rfl) ?_
                  refine lv_bipush (v := 63) hx hb dX12_twice_55 (by decide +kernel) ?_
                  refine lv_icmp_ne (tgt := 76) hx hb dX12_twice_57 (by decide) (fun c22 => ?_) (fun c22 => ?_)
                  · have c22 : ¬ k0.toInt = 63 := by have h := z_ne c22; rw [show (63 : Int32).toInt = 63 from by decide +kernel] at h; exact h
                    refine lv_iconst (v := 0) hx hb dX12_twice_76 (by decide +kernel) ?_
                    exact r_retz C () (v_twice_3  ) ⟨(v_twice_34 k1 c1 c21), (v_twice_35 k0 k1 c1 c12 c13 c14 c15 c16 c17 c21 c22)⟩ hP hS dX12_twice_77
                  · have c22 : k0.toInt = 63 := by have h := z_eq c22; rw [show (63 : Int32).toInt = 63 from by decide +kernel] at h; exact h
                    exact absurd (v_twice_36 k0 c12 c13 c14 c15 c16 c17 c22) id
            · have c16 : k0.toInt = 38 := by have h := z_eq c16; rw [show (38 : Int32).toInt = 38 from by decide +kernel] at h; exact h
              refine lv_iload_n hx hb dX12_twice_36 rfl (lv_at hl 1 rfl) ?_
              refine lv_bipush (v := 38) hx hb dX12_twice_37 (by decide +kernel) ?_
              refine lv_icmp_eq (tgt := 72) hx hb dX12_twice_39 (by decide) (fun c23 => ?_) (fun c23 => ?_)
              · have c23 : k1.toInt = 38 := by have h := z_eq c23; rw [show (38 : Int32).toInt = 38 from by decide +kernel] at h; exact h
                exact absurd (v_twice_37 k1 c1 c23) id
              · have c23 : ¬ k1.toInt = 38 := by have h := z_ne c23; rw [show (38 : Int32).toInt = 38 from by decide +kernel] at h; exact h
                refine lv_iload_n hx hb dX12_twice_42 rfl (lv_at hl 0 rfl) ?_
                refine lv_bipush (v := 124) hx hb dX12_twice_43 (by decide +kernel) ?_
                refine lv_icmp_ne (tgt := 54) hx hb dX12_twice_45 (by decide) (fun c24 => ?_) (fun c24 => ?_)
                · have c24 : ¬ k0.toInt = 124 := by have h := z_ne c24; rw [show (124 : Int32).toInt = 124 from by decide +kernel] at h; exact h
                  refine lv_iload_n hx hb dX12_twice_54 rfl (lv_at hl 0 rfl) ?_
                  refine lv_bipush (v := 63) hx hb dX12_twice_55 (by decide +kernel) ?_
                  refine lv_icmp_ne (tgt := 76) hx hb dX12_twice_57 (by decide) (fun c25 => ?_) (fun c25 => ?_)
                  · have c25 : ¬ k0.toInt = 63 := by have h := z_ne c25; rw [show (63 : Int32).toInt = 63 from by decide +kernel] at h; exact h
                    refine lv_iconst (v := 0) hx hb dX12_twice_76 (by decide +kernel) ?_
                    exact r_retz C () (v_twice_3  ) ⟨(v_twice_38 k1 c1 c23), (v_twice_39 k0 k1 c1 c12 c13 c14 c15 c16 c23 c24 c25)⟩ hP hS dX12_twice_77
                  · have c25 : k0.toInt = 63 := by have h := z_eq c25; rw [show (63 : Int32).toInt = 63 from by decide +kernel] at h; exact h
                    exact absurd (v_twice_40 k0 c12 c13 c14 c15 c16 c24 c25) id
                · have c24 : k0.toInt = 124 := by have h := z_eq c24; rw [show (124 : Int32).toInt = 124 from by decide +kernel] at h; exact h
                  exact absurd (v_twice_41 k0 c12 c13 c14 c15 c16 c24) id

-- pre:at@2 @2
theorem v_sign_1 (σ : RS) (k0 : Int32) (hpre_0 : 0 ≤ (σ.1 1).toInt) (hpre_1 : (σ.1 1).toInt ≤ 40) (hpre_2 : 0 ≤ (σ.1 3).toInt) (hpre_3 : (σ.1 3).toInt ≤ k0.toInt) (hpre_4 : k0.toInt < (σ.1 1).toInt) (hpre_5 : TKok (σ.2.1 4) (σ.2.2.1 6) (σ.2.1 7) (σ.1 3).toInt) : 0 ≤ (σ.1 1).toInt ∧ (σ.1 1).toInt ≤ 40 ∧ 0 ≤ k0.toInt := by
  refine ⟨?_, ?_, ?_⟩ <;> first | assumption | omega | (subst_vars; omega) | trivial
-- nw@10 @10
theorem v_sign_2 (σ : RS) (k0 : Int32) (r1 : Int32) (x2 : Int32) (hpre_0 : 0 ≤ (σ.1 1).toInt) (hpre_1 : (σ.1 1).toInt ≤ 40) (hpre_2 : 0 ≤ (σ.1 3).toInt) (hpre_3 : (σ.1 3).toInt ≤ k0.toInt) (hpre_4 : k0.toInt < (σ.1 1).toInt) (hpre_5 : TKok (σ.2.1 4) (σ.2.2.1 6) (σ.2.1 7) (σ.1 3).toInt) (hr1 : (k0.toInt < (σ.1 1).toInt ∧ r1.toInt = ((σ.2.1 2) k0.toNatClampNeg).toInt) ∨ ((σ.1 1).toInt ≤ k0.toInt ∧ r1.toInt = 0)) (ex2 : x2 = k0 + (1 : Int32)) : x2.toInt = k0.toInt + 1 := by
  have q1 : (1 : Int32).toInt = 1 := by decide +kernel
  have w1 : (1 : Int32).toInt = 1 := by decide +kernel
  rw [ex2, z_add (by omega) (by omega)]; first | done | omega
-- pre:at@11 @11
theorem v_sign_3 (σ : RS) (k0 : Int32) (r1 : Int32) (x2 : Int32) (hpre_0 : 0 ≤ (σ.1 1).toInt) (hpre_1 : (σ.1 1).toInt ≤ 40) (hpre_2 : 0 ≤ (σ.1 3).toInt) (hpre_3 : (σ.1 3).toInt ≤ k0.toInt) (hpre_4 : k0.toInt < (σ.1 1).toInt) (hpre_5 : TKok (σ.2.1 4) (σ.2.2.1 6) (σ.2.1 7) (σ.1 3).toInt) (hr1 : (k0.toInt < (σ.1 1).toInt ∧ r1.toInt = ((σ.2.1 2) k0.toNatClampNeg).toInt) ∨ ((σ.1 1).toInt ≤ k0.toInt ∧ r1.toInt = 0)) (ex2 : x2 = k0 + (1 : Int32)) (tx2 : x2.toInt = k0.toInt + 1) : 0 ≤ (σ.1 1).toInt ∧ (σ.1 1).toInt ≤ 40 ∧ 0 ≤ x2.toInt := by
  have q1 : (1 : Int32).toInt = 1 := by decide +kernel
  refine ⟨?_, ?_, ?_⟩ <;> first | assumption | omega | (subst_vars; omega) | trivial
-- nw@71 @71
theorem v_sign_4 (σ : RS) (k0 : Int32) (r1 : Int32) (x2 : Int32) (r3 : Int32) (x11 : Int32) (hpre_0 : 0 ≤ (σ.1 1).toInt) (hpre_1 : (σ.1 1).toInt ≤ 40) (hpre_2 : 0 ≤ (σ.1 3).toInt) (hpre_3 : (σ.1 3).toInt ≤ k0.toInt) (hpre_4 : k0.toInt < (σ.1 1).toInt) (hpre_5 : TKok (σ.2.1 4) (σ.2.2.1 6) (σ.2.1 7) (σ.1 3).toInt) (hr1 : (k0.toInt < (σ.1 1).toInt ∧ r1.toInt = ((σ.2.1 2) k0.toNatClampNeg).toInt) ∨ ((σ.1 1).toInt ≤ k0.toInt ∧ r1.toInt = 0)) (ex2 : x2 = k0 + (1 : Int32)) (tx2 : x2.toInt = k0.toInt + 1) (hr3 : (x2.toInt < (σ.1 1).toInt ∧ r3.toInt = ((σ.2.1 2) x2.toNatClampNeg).toInt) ∨ ((σ.1 1).toInt ≤ x2.toInt ∧ r3.toInt = 0)) (ex11 : x11 = k0 + (1 : Int32)) : x11.toInt = k0.toInt + 1 := by
  have q1 : (1 : Int32).toInt = 1 := by decide +kernel
  have w1 : (1 : Int32).toInt = 1 := by decide +kernel
  rw [ex11, z_add (by omega) (by omega)]; first | done | omega
-- post @72
theorem v_sign_5 (σ : RS) (k0 : Int32) (r1 : Int32) (x2 : Int32) (r3 : Int32) (r4 : Int32) (n9 : Int32) (x11 : Int32) (hpre_0 : 0 ≤ (σ.1 1).toInt) (hpre_1 : (σ.1 1).toInt ≤ 40) (hpre_2 : 0 ≤ (σ.1 3).toInt) (hpre_3 : (σ.1 3).toInt ≤ k0.toInt) (hpre_4 : k0.toInt < (σ.1 1).toInt) (hpre_5 : TKok (σ.2.1 4) (σ.2.2.1 6) (σ.2.1 7) (σ.1 3).toInt) (hpre_6 : 0 ≤ (σ.1 8).toInt) (hpre_7 : (σ.1 8).toInt ≤ 3) (hr1 : (k0.toInt < (σ.1 1).toInt ∧ r1.toInt = ((σ.2.1 2) k0.toNatClampNeg).toInt) ∨ ((σ.1 1).toInt ≤ k0.toInt ∧ r1.toInt = 0)) (ex2 : x2 = k0 + (1 : Int32)) (tx2 : x2.toInt = k0.toInt + 1) (hr3 : (x2.toInt < (σ.1 1).toInt ∧ r3.toInt = ((σ.2.1 2) x2.toNatClampNeg).toInt) ∨ ((σ.1 1).toInt ≤ x2.toInt ∧ r3.toInt = 0)) (hr4 : ¬ r4.toInt = 0 → ¬ r3.toInt = 0) (c5 : r4.toInt = 0) (hr8_0 : (σ.1 8).toInt = 0 → n9.toInt = (1 : Int32).toInt) (hr8_1 : ¬ (σ.1 8).toInt = 0 → n9.toInt = (σ.1 8).toInt) (ex11 : x11 = k0 + (1 : Int32)) (tx11 : x11.toInt = k0.toInt + 1) : k0.toInt < x11.toInt ∧ x11.toInt ≤ (σ.1 1).toInt ∧ 0 ≤ (σ.1 3).toInt ∧ (σ.1 3).toInt ≤ x11.toInt ∧ TKok (σ.2.1 4) (σ.2.2.1 6) (σ.2.1 7) (σ.1 3).toInt ∧ 0 ≤ n9.toInt ∧ n9.toInt ≤ 3 := by
  have q1 : (1 : Int32).toInt = 1 := by decide +kernel
  have hz := hpre_5
  and_intros <;> first | exact hz | exact tk_add hz (by omega) (clampZ (by omega)) (by omega) (by omega) (by omega) | omega
-- post2 @72
theorem v_sign_6 (σ : RS) (k0 : Int32) (r1 : Int32) (x2 : Int32) (r3 : Int32) (r4 : Int32) (r6 : Int32) (n9 : Int32) (n10 : Int32) (x11 : Int32) (hpre_0 : 0 ≤ (σ.1 1).toInt) (hpre_1 : (σ.1 1).toInt ≤ 40) (hpre_2 : 0 ≤ (σ.1 3).toInt) (hpre_3 : (σ.1 3).toInt ≤ k0.toInt) (hpre_4 : k0.toInt < (σ.1 1).toInt) (hpre_5 : TKok (σ.2.1 4) (σ.2.2.1 6) (σ.2.1 7) (σ.1 3).toInt) (hpre_6 : 0 ≤ (σ.1 8).toInt) (hpre_7 : (σ.1 8).toInt ≤ 3) (hr1y : r1.toInt = tx (σ.2.1 2) (σ.1 1) k0.toInt) (hr1 : (k0.toInt < (σ.1 1).toInt ∧ r1.toInt = ((σ.2.1 2) k0.toNatClampNeg).toInt) ∨ ((σ.1 1).toInt ≤ k0.toInt ∧ r1.toInt = 0)) (ex2 : x2 = k0 + (1 : Int32)) (tx2 : x2.toInt = k0.toInt + 1) (hr3y : r3.toInt = tx (σ.2.1 2) (σ.1 1) x2.toInt) (hr3 : (x2.toInt < (σ.1 1).toInt ∧ r3.toInt = ((σ.2.1 2) x2.toNatClampNeg).toInt) ∨ ((σ.1 1).toInt ≤ x2.toInt ∧ r3.toInt = 0)) (hr4y_0 : ¬ r4.toInt = 0 → TW r1.toInt r3.toInt) (hr4y_1 : r4.toInt = 0 → ¬ TW r1.toInt r3.toInt) (hr4 : ¬ r4.toInt = 0 → ¬ r3.toInt = 0) (c5 : r4.toInt = 0) (hr6y_0 : ¬ r6.toInt = 0 → SI r1.toInt) (hr6y_1 : r6.toInt = 0 → ¬ SI r1.toInt) (c7 : r6.toInt = 0) (hr8y_0 : (σ.1 8).toInt = 0 → n10.toInt = k0.toInt) (hr8y_1 : ¬ (σ.1 8).toInt = 0 → n10.toInt = (σ.1 9).toInt) (hr8_0 : (σ.1 8).toInt = 0 → n9.toInt = (1 : Int32).toInt) (hr8_1 : ¬ (σ.1 8).toInt = 0 → n9.toInt = (σ.1 8).toInt) (ex11 : x11 = k0 + (1 : Int32)) (tx11 : x11.toInt = k0.toInt + 1) : (σ.1 8).toInt = 0 → ¬ dg (tx (σ.2.1 2) (σ.1 1) k0.toInt) → ¬ lw (tx (σ.2.1 2) (σ.1 1) k0.toInt) → ¬ tx (σ.2.1 2) (σ.1 1) k0.toInt = 39 → ∃ r9, TokR (tx (σ.2.1 2) (σ.1 1)) ((σ.1 1).toInt) k0.toInt r9 ∧ LXo (σ.2.1 4) (σ.2.2.1 6) (σ.2.1 5) (σ.1 3) (σ.2.1 4) (σ.2.2.1 6) (σ.2.1 5) (σ.1 3) n9 n10 k0.toInt x11.toInt r9 := by
  have q1 : (1 : Int32).toInt = 1 := by decide +kernel
  intro h0 h1 h2 h3
  simp only [clampN] at *
  have zx2 : tx (σ.2.1 2) (σ.1 1) (k0.toInt + 1) = tx (σ.2.1 2) (σ.1 1) x2.toInt := by rw [tx2]
  have zx11 : tx (σ.2.1 2) (σ.1 1) (k0.toInt + 1) = tx (σ.2.1 2) (σ.1 1) x11.toInt := by rw [tx11]
  have h4 := hr4y_1 c5
  rw [hr1y, hr3y, ← zx2] at h4
  have h5 := hr6y_1 c7
  rw [hr1y] at h5
  exact ⟨none, sgnX h1 h2 h3 h4 h5, LXo_err (by omega) (by omega) rfl⟩
-- pre:add@57 @57
theorem v_sign_7 (σ : RS) (k0 : Int32) (r1 : Int32) (x2 : Int32) (x12 : Int64) (hpre_0 : 0 ≤ (σ.1 1).toInt) (hpre_1 : (σ.1 1).toInt ≤ 40) (hpre_2 : 0 ≤ (σ.1 3).toInt) (hpre_3 : (σ.1 3).toInt ≤ k0.toInt) (hpre_4 : k0.toInt < (σ.1 1).toInt) (hpre_5 : TKok (σ.2.1 4) (σ.2.2.1 6) (σ.2.1 7) (σ.1 3).toInt) (hr1 : (k0.toInt < (σ.1 1).toInt ∧ r1.toInt = ((σ.2.1 2) k0.toNatClampNeg).toInt) ∨ ((σ.1 1).toInt ≤ k0.toInt ∧ r1.toInt = 0)) (ex2 : x2 = k0 + (1 : Int32)) (tx2 : x2.toInt = k0.toInt + 1) (ex12 : x12 = Int32.toInt64 r1) (tx12 : x12.toInt = r1.toInt) : 0 ≤ (σ.1 3).toInt ∧ (σ.1 3).toInt ≤ 41 := by
  have q1 : (1 : Int32).toInt = 1 := by decide +kernel
  refine ⟨?_, ?_⟩ <;> first | assumption | omega | (subst_vars; omega) | trivial
-- nw@71 @71
theorem v_sign_8 (σ : RS) (k0 : Int32) (r1 : Int32) (x2 : Int32) (r3 : Int32) (x12 : Int64) (n14 : Int32) (x15 : Int32) (hpre_0 : 0 ≤ (σ.1 1).toInt) (hpre_1 : (σ.1 1).toInt ≤ 40) (hpre_2 : 0 ≤ (σ.1 3).toInt) (hpre_3 : (σ.1 3).toInt ≤ k0.toInt) (hpre_4 : k0.toInt < (σ.1 1).toInt) (hpre_5 : TKok (σ.2.1 4) (σ.2.2.1 6) (σ.2.1 7) (σ.1 3).toInt) (hr1 : (k0.toInt < (σ.1 1).toInt ∧ r1.toInt = ((σ.2.1 2) k0.toNatClampNeg).toInt) ∨ ((σ.1 1).toInt ≤ k0.toInt ∧ r1.toInt = 0)) (ex2 : x2 = k0 + (1 : Int32)) (tx2 : x2.toInt = k0.toInt + 1) (hr3 : (x2.toInt < (σ.1 1).toInt ∧ r3.toInt = ((σ.2.1 2) x2.toNatClampNeg).toInt) ∨ ((σ.1 1).toInt ≤ x2.toInt ∧ r3.toInt = 0)) (ex12 : x12 = Int32.toInt64 r1) (tx12 : x12.toInt = r1.toInt) (hr13 : n14.toInt = (σ.1 3).toInt + 1) (ex15 : x15 = k0 + (1 : Int32)) : x15.toInt = k0.toInt + 1 := by
  have q1 : (1 : Int32).toInt = 1 := by decide +kernel
  have w1 : (1 : Int32).toInt = 1 := by decide +kernel
  rw [ex15, z_add (by omega) (by omega)]; first | done | omega
-- post @72
theorem v_sign_9 (σ : RS) (k0 : Int32) (r1 : Int32) (x2 : Int32) (r3 : Int32) (r4 : Int32) (x12 : Int64) (n14 : Int32) (x15 : Int32) (hpre_0 : 0 ≤ (σ.1 1).toInt) (hpre_1 : (σ.1 1).toInt ≤ 40) (hpre_2 : 0 ≤ (σ.1 3).toInt) (hpre_3 : (σ.1 3).toInt ≤ k0.toInt) (hpre_4 : k0.toInt < (σ.1 1).toInt) (hpre_5 : TKok (σ.2.1 4) (σ.2.2.1 6) (σ.2.1 7) (σ.1 3).toInt) (hpre_6 : 0 ≤ (σ.1 8).toInt) (hpre_7 : (σ.1 8).toInt ≤ 3) (hr1 : (k0.toInt < (σ.1 1).toInt ∧ r1.toInt = ((σ.2.1 2) k0.toNatClampNeg).toInt) ∨ ((σ.1 1).toInt ≤ k0.toInt ∧ r1.toInt = 0)) (ex2 : x2 = k0 + (1 : Int32)) (tx2 : x2.toInt = k0.toInt + 1) (hr3 : (x2.toInt < (σ.1 1).toInt ∧ r3.toInt = ((σ.2.1 2) x2.toNatClampNeg).toInt) ∨ ((σ.1 1).toInt ≤ x2.toInt ∧ r3.toInt = 0)) (hr4 : ¬ r4.toInt = 0 → ¬ r3.toInt = 0) (c5 : r4.toInt = 0) (ex12 : x12 = Int32.toInt64 r1) (tx12 : x12.toInt = r1.toInt) (hr13 : n14.toInt = (σ.1 3).toInt + 1) (ex15 : x15 = k0 + (1 : Int32)) (tx15 : x15.toInt = k0.toInt + 1) : k0.toInt < x15.toInt ∧ x15.toInt ≤ (σ.1 1).toInt ∧ 0 ≤ n14.toInt ∧ n14.toInt ≤ x15.toInt ∧ TKok (upd (σ.2.1 4) (σ.1 3).toNatClampNeg (5 : Int32)) (vp_updL (σ.2.2.1 6) (σ.1 3).toNatClampNeg x12) (upd (σ.2.1 7) (σ.1 3).toNatClampNeg (0 : Int32)) n14.toInt ∧ 0 ≤ (σ.1 8).toInt ∧ (σ.1 8).toInt ≤ 3 := by
  have q0 : (0 : Int32).toInt = 0 := by decide +kernel
  have q1 : (1 : Int32).toInt = 1 := by decide +kernel
  have q5 : (5 : Int32).toInt = 5 := by decide +kernel
  have hz := hpre_5
  and_intros <;> first | exact hz | exact tk_add hz (by omega) (clampZ (by omega)) (by omega) (by omega) (by omega) | omega
-- post2 @72
theorem v_sign_10 (σ : RS) (k0 : Int32) (r1 : Int32) (x2 : Int32) (r3 : Int32) (r4 : Int32) (r6 : Int32) (x12 : Int64) (n14 : Int32) (x15 : Int32) (hpre_0 : 0 ≤ (σ.1 1).toInt) (hpre_1 : (σ.1 1).toInt ≤ 40) (hpre_2 : 0 ≤ (σ.1 3).toInt) (hpre_3 : (σ.1 3).toInt ≤ k0.toInt) (hpre_4 : k0.toInt < (σ.1 1).toInt) (hpre_5 : TKok (σ.2.1 4) (σ.2.2.1 6) (σ.2.1 7) (σ.1 3).toInt) (hpre_6 : 0 ≤ (σ.1 8).toInt) (hpre_7 : (σ.1 8).toInt ≤ 3) (hr1y : r1.toInt = tx (σ.2.1 2) (σ.1 1) k0.toInt) (hr1 : (k0.toInt < (σ.1 1).toInt ∧ r1.toInt = ((σ.2.1 2) k0.toNatClampNeg).toInt) ∨ ((σ.1 1).toInt ≤ k0.toInt ∧ r1.toInt = 0)) (ex2 : x2 = k0 + (1 : Int32)) (tx2 : x2.toInt = k0.toInt + 1) (hr3y : r3.toInt = tx (σ.2.1 2) (σ.1 1) x2.toInt) (hr3 : (x2.toInt < (σ.1 1).toInt ∧ r3.toInt = ((σ.2.1 2) x2.toNatClampNeg).toInt) ∨ ((σ.1 1).toInt ≤ x2.toInt ∧ r3.toInt = 0)) (hr4y_0 : ¬ r4.toInt = 0 → TW r1.toInt r3.toInt) (hr4y_1 : r4.toInt = 0 → ¬ TW r1.toInt r3.toInt) (hr4 : ¬ r4.toInt = 0 → ¬ r3.toInt = 0) (c5 : r4.toInt = 0) (hr6y_0 : ¬ r6.toInt = 0 → SI r1.toInt) (hr6y_1 : r6.toInt = 0 → ¬ SI r1.toInt) (c7 : ¬ r6.toInt = 0) (ex12 : x12 = Int32.toInt64 r1) (tx12 : x12.toInt = r1.toInt) (hr13 : n14.toInt = (σ.1 3).toInt + 1) (ex15 : x15 = k0 + (1 : Int32)) (tx15 : x15.toInt = k0.toInt + 1) : (σ.1 8).toInt = 0 → ¬ dg (tx (σ.2.1 2) (σ.1 1) k0.toInt) → ¬ lw (tx (σ.2.1 2) (σ.1 1) k0.toInt) → ¬ tx (σ.2.1 2) (σ.1 1) k0.toInt = 39 → ∃ r9, TokR (tx (σ.2.1 2) (σ.1 1)) ((σ.1 1).toInt) k0.toInt r9 ∧ LXo (σ.2.1 4) (σ.2.2.1 6) (σ.2.1 5) (σ.1 3) (upd (σ.2.1 4) (σ.1 3).toNatClampNeg (5 : Int32)) (vp_updL (σ.2.2.1 6) (σ.1 3).toNatClampNeg x12) (upd (σ.2.1 5) (σ.1 3).toNatClampNeg k0) n14 (σ.1 8) (σ.1 9) k0.toInt x15.toInt r9 := by
  have q1 : (1 : Int32).toInt = 1 := by decide +kernel
  have q5 : (5 : Int32).toInt = 5 := by decide +kernel
  intro h0 h1 h2 h3
  simp only [clampN] at *
  have zx2 : tx (σ.2.1 2) (σ.1 1) (k0.toInt + 1) = tx (σ.2.1 2) (σ.1 1) x2.toInt := by rw [tx2]
  have zx15 : tx (σ.2.1 2) (σ.1 1) (k0.toInt + 1) = tx (σ.2.1 2) (σ.1 1) x15.toInt := by rw [tx15]
  have h4 := hr4y_1 c5
  rw [hr1y, hr3y, ← zx2] at h4
  have h5 := hr6y_0 c7
  rw [hr1y] at h5
  exact ⟨_, sgn1 h1 h2 h3 h4 h5 rfl rfl, LXo_add (clampZ (by omega)) (by omega) (by omega) (by omega) (by unfold TCv; rw [if_pos (by omega)]; omega) (if_neg (by omega)) rfl (by intro _; omega)⟩
-- nw@28 @28
theorem v_sign_11 (σ : RS) (k0 : Int32) (r1 : Int32) (x2 : Int32) (x16 : Int64) (x17 : Int64) (hpre_0 : 0 ≤ (σ.1 1).toInt) (hpre_1 : (σ.1 1).toInt ≤ 40) (hpre_2 : 0 ≤ (σ.1 3).toInt) (hpre_3 : (σ.1 3).toInt ≤ k0.toInt) (hpre_4 : k0.toInt < (σ.1 1).toInt) (hpre_5 : TKok (σ.2.1 4) (σ.2.2.1 6) (σ.2.1 7) (σ.1 3).toInt) (hr1 : (k0.toInt < (σ.1 1).toInt ∧ r1.toInt = ((σ.2.1 2) k0.toNatClampNeg).toInt) ∨ ((σ.1 1).toInt ≤ k0.toInt ∧ r1.toInt = 0)) (ex2 : x2 = k0 + (1 : Int32)) (tx2 : x2.toInt = k0.toInt + 1) (ex16 : x16 = Int32.toInt64 r1) (tx16 : x16.toInt = r1.toInt) (ex17 : x17 = (256 : Int64) * x16) : x17.toInt = 256 * x16.toInt := by
  have q1 : (1 : Int32).toInt = 1 := by decide +kernel
  have ql256 : (256 : Int64).toInt = 256 := by decide +kernel
  have w0 : (256 : Int64).toInt = 256 := by decide +kernel
  have u := Int32.toInt_lt r1; have v := Int32.le_toInt r1
  rw [ex17, zl_mulc 256 w0 (by omega) (by omega)]
-- nw@32 @32
theorem v_sign_12 (σ : RS) (k0 : Int32) (r1 : Int32) (x2 : Int32) (r3 : Int32) (x16 : Int64) (x17 : Int64) (x18 : Int32) (hpre_0 : 0 ≤ (σ.1 1).toInt) (hpre_1 : (σ.1 1).toInt ≤ 40) (hpre_2 : 0 ≤ (σ.1 3).toInt) (hpre_3 : (σ.1 3).toInt ≤ k0.toInt) (hpre_4 : k0.toInt < (σ.1 1).toInt) (hpre_5 : TKok (σ.2.1 4) (σ.2.2.1 6) (σ.2.1 7) (σ.1 3).toInt) (hr1 : (k0.toInt < (σ.1 1).toInt ∧ r1.toInt = ((σ.2.1 2) k0.toNatClampNeg).toInt) ∨ ((σ.1 1).toInt ≤ k0.toInt ∧ r1.toInt = 0)) (ex2 : x2 = k0 + (1 : Int32)) (tx2 : x2.toInt = k0.toInt + 1) (hr3 : (x2.toInt < (σ.1 1).toInt ∧ r3.toInt = ((σ.2.1 2) x2.toNatClampNeg).toInt) ∨ ((σ.1 1).toInt ≤ x2.toInt ∧ r3.toInt = 0)) (ex16 : x16 = Int32.toInt64 r1) (tx16 : x16.toInt = r1.toInt) (ex17 : x17 = (256 : Int64) * x16) (tx17 : x17.toInt = 256 * x16.toInt) (ex18 : x18 = k0 + (1 : Int32)) : x18.toInt = k0.toInt + 1 := by
  have q1 : (1 : Int32).toInt = 1 := by decide +kernel
  have ql256 : (256 : Int64).toInt = 256 := by decide +kernel
  have w1 : (1 : Int32).toInt = 1 := by decide +kernel
  rw [ex18, z_add (by omega) (by omega)]; first | done | omega
-- pre:at@33 @33
theorem v_sign_13 (σ : RS) (k0 : Int32) (r1 : Int32) (x2 : Int32) (r3 : Int32) (r4 : Int32) (x16 : Int64) (x17 : Int64) (x18 : Int32) (hpre_0 : 0 ≤ (σ.1 1).toInt) (hpre_1 : (σ.1 1).toInt ≤ 40) (hpre_2 : 0 ≤ (σ.1 3).toInt) (hpre_3 : (σ.1 3).toInt ≤ k0.toInt) (hpre_4 : k0.toInt < (σ.1 1).toInt) (hpre_5 : TKok (σ.2.1 4) (σ.2.2.1 6) (σ.2.1 7) (σ.1 3).toInt) (hr1 : (k0.toInt < (σ.1 1).toInt ∧ r1.toInt = ((σ.2.1 2) k0.toNatClampNeg).toInt) ∨ ((σ.1 1).toInt ≤ k0.toInt ∧ r1.toInt = 0)) (ex2 : x2 = k0 + (1 : Int32)) (tx2 : x2.toInt = k0.toInt + 1) (hr3 : (x2.toInt < (σ.1 1).toInt ∧ r3.toInt = ((σ.2.1 2) x2.toNatClampNeg).toInt) ∨ ((σ.1 1).toInt ≤ x2.toInt ∧ r3.toInt = 0)) (hr4 : ¬ r4.toInt = 0 → ¬ r3.toInt = 0) (c5 : ¬ r4.toInt = 0) (ex16 : x16 = Int32.toInt64 r1) (tx16 : x16.toInt = r1.toInt) (ex17 : x17 = (256 : Int64) * x16) (tx17 : x17.toInt = 256 * x16.toInt) (ex18 : x18 = k0 + (1 : Int32)) (tx18 : x18.toInt = k0.toInt + 1) : 0 ≤ (σ.1 1).toInt ∧ (σ.1 1).toInt ≤ 40 ∧ 0 ≤ x18.toInt := by
  have q1 : (1 : Int32).toInt = 1 := by decide +kernel
  have ql256 : (256 : Int64).toInt = 256 := by decide +kernel
  refine ⟨?_, ?_, ?_⟩ <;> first | assumption | omega | (subst_vars; omega) | trivial
-- nw@37 @37
theorem v_sign_14 (σ : RS) (k0 : Int32) (r1 : Int32) (x2 : Int32) (x16 : Int64) (x17 : Int64) (x18 : Int32) (r19 : Int32) (x20 : Int64) (x21 : Int64) (hpre_0 : 0 ≤ (σ.1 1).toInt) (hpre_1 : (σ.1 1).toInt ≤ 40) (hpre_2 : 0 ≤ (σ.1 3).toInt) (hpre_3 : (σ.1 3).toInt ≤ k0.toInt) (hpre_4 : k0.toInt < (σ.1 1).toInt) (hpre_5 : TKok (σ.2.1 4) (σ.2.2.1 6) (σ.2.1 7) (σ.1 3).toInt) (ex2 : x2 = k0 + (1 : Int32)) (tx2 : x2.toInt = k0.toInt + 1) (ex16 : x16 = Int32.toInt64 r1) (tx16 : x16.toInt = r1.toInt) (ex17 : x17 = (256 : Int64) * x16) (tx17 : x17.toInt = 256 * x16.toInt) (ex18 : x18 = k0 + (1 : Int32)) (tx18 : x18.toInt = k0.toInt + 1) (hr19 : (x18.toInt < (σ.1 1).toInt ∧ r19.toInt = ((σ.2.1 2) x18.toNatClampNeg).toInt) ∨ ((σ.1 1).toInt ≤ x18.toInt ∧ r19.toInt = 0)) (ex20 : x20 = Int32.toInt64 r19) (tx20 : x20.toInt = r19.toInt) (ex21 : x21 = x17 + x20) : x21.toInt = x17.toInt + x20.toInt := by
  have q1 : (1 : Int32).toInt = 1 := by decide +kernel
  have ql256 : (256 : Int64).toInt = 256 := by decide +kernel
  have u0 := Int32.toInt_lt r1; have v0 := Int32.le_toInt r1
  have u1 := Int32.toInt_lt r19; have v1 := Int32.le_toInt r19
  rw [ex21, zl_add (by omega) (by omega)]
-- pre:add@38 @38
theorem v_sign_15 (σ : RS) (k0 : Int32) (r1 : Int32) (x2 : Int32) (x16 : Int64) (x17 : Int64) (x18 : Int32) (r19 : Int32) (x20 : Int64) (x21 : Int64) (hpre_0 : 0 ≤ (σ.1 1).toInt) (hpre_1 : (σ.1 1).toInt ≤ 40) (hpre_2 : 0 ≤ (σ.1 3).toInt) (hpre_3 : (σ.1 3).toInt ≤ k0.toInt) (hpre_4 : k0.toInt < (σ.1 1).toInt) (hpre_5 : TKok (σ.2.1 4) (σ.2.2.1 6) (σ.2.1 7) (σ.1 3).toInt) (hr1 : (k0.toInt < (σ.1 1).toInt ∧ r1.toInt = ((σ.2.1 2) k0.toNatClampNeg).toInt) ∨ ((σ.1 1).toInt ≤ k0.toInt ∧ r1.toInt = 0)) (ex2 : x2 = k0 + (1 : Int32)) (tx2 : x2.toInt = k0.toInt + 1) (ex16 : x16 = Int32.toInt64 r1) (tx16 : x16.toInt = r1.toInt) (ex17 : x17 = (256 : Int64) * x16) (tx17 : x17.toInt = 256 * x16.toInt) (ex18 : x18 = k0 + (1 : Int32)) (tx18 : x18.toInt = k0.toInt + 1) (ex20 : x20 = Int32.toInt64 r19) (tx20 : x20.toInt = r19.toInt) (ex21 : x21 = x17 + x20) (tx21 : x21.toInt = x17.toInt + x20.toInt) : 0 ≤ (σ.1 3).toInt ∧ (σ.1 3).toInt ≤ 41 := by
  have q1 : (1 : Int32).toInt = 1 := by decide +kernel
  have ql256 : (256 : Int64).toInt = 256 := by decide +kernel
  refine ⟨?_, ?_⟩ <;> first | assumption | omega | (subst_vars; omega) | trivial
-- nw@43 @43
theorem v_sign_16 (σ : RS) (k0 : Int32) (r1 : Int32) (x2 : Int32) (r3 : Int32) (x16 : Int64) (x17 : Int64) (x18 : Int32) (r19 : Int32) (x20 : Int64) (x21 : Int64) (n23 : Int32) (x24 : Int32) (hpre_0 : 0 ≤ (σ.1 1).toInt) (hpre_1 : (σ.1 1).toInt ≤ 40) (hpre_2 : 0 ≤ (σ.1 3).toInt) (hpre_3 : (σ.1 3).toInt ≤ k0.toInt) (hpre_4 : k0.toInt < (σ.1 1).toInt) (hpre_5 : TKok (σ.2.1 4) (σ.2.2.1 6) (σ.2.1 7) (σ.1 3).toInt) (hr1 : (k0.toInt < (σ.1 1).toInt ∧ r1.toInt = ((σ.2.1 2) k0.toNatClampNeg).toInt) ∨ ((σ.1 1).toInt ≤ k0.toInt ∧ r1.toInt = 0)) (ex2 : x2 = k0 + (1 : Int32)) (tx2 : x2.toInt = k0.toInt + 1) (hr3 : (x2.toInt < (σ.1 1).toInt ∧ r3.toInt = ((σ.2.1 2) x2.toNatClampNeg).toInt) ∨ ((σ.1 1).toInt ≤ x2.toInt ∧ r3.toInt = 0)) (ex16 : x16 = Int32.toInt64 r1) (tx16 : x16.toInt = r1.toInt) (ex17 : x17 = (256 : Int64) * x16) (tx17 : x17.toInt = 256 * x16.toInt) (ex18 : x18 = k0 + (1 : Int32)) (tx18 : x18.toInt = k0.toInt + 1) (hr19 : (x18.toInt < (σ.1 1).toInt ∧ r19.toInt = ((σ.2.1 2) x18.toNatClampNeg).toInt) ∨ ((σ.1 1).toInt ≤ x18.toInt ∧ r19.toInt = 0)) (ex20 : x20 = Int32.toInt64 r19) (tx20 : x20.toInt = r19.toInt) (ex21 : x21 = x17 + x20) (tx21 : x21.toInt = x17.toInt + x20.toInt) (hr22 : n23.toInt = (σ.1 3).toInt + 1) (ex24 : x24 = k0 + (2 : Int32)) : x24.toInt = k0.toInt + 2 := by
  have q1 : (1 : Int32).toInt = 1 := by decide +kernel
  have q2 : (2 : Int32).toInt = 2 := by decide +kernel
  have ql256 : (256 : Int64).toInt = 256 := by decide +kernel
  have w1 : (2 : Int32).toInt = 2 := by decide +kernel
  rw [ex24, z_add (by omega) (by omega)]; first | done | omega
-- post @44
theorem v_sign_17 (σ : RS) (k0 : Int32) (r1 : Int32) (x2 : Int32) (r3 : Int32) (r4 : Int32) (x16 : Int64) (x17 : Int64) (x18 : Int32) (r19 : Int32) (x20 : Int64) (x21 : Int64) (n23 : Int32) (x24 : Int32) (hpre_0 : 0 ≤ (σ.1 1).toInt) (hpre_1 : (σ.1 1).toInt ≤ 40) (hpre_2 : 0 ≤ (σ.1 3).toInt) (hpre_3 : (σ.1 3).toInt ≤ k0.toInt) (hpre_4 : k0.toInt < (σ.1 1).toInt) (hpre_5 : TKok (σ.2.1 4) (σ.2.2.1 6) (σ.2.1 7) (σ.1 3).toInt) (hpre_6 : 0 ≤ (σ.1 8).toInt) (hpre_7 : (σ.1 8).toInt ≤ 3) (hr1 : (k0.toInt < (σ.1 1).toInt ∧ r1.toInt = ((σ.2.1 2) k0.toNatClampNeg).toInt) ∨ ((σ.1 1).toInt ≤ k0.toInt ∧ r1.toInt = 0)) (ex2 : x2 = k0 + (1 : Int32)) (tx2 : x2.toInt = k0.toInt + 1) (hr3 : (x2.toInt < (σ.1 1).toInt ∧ r3.toInt = ((σ.2.1 2) x2.toNatClampNeg).toInt) ∨ ((σ.1 1).toInt ≤ x2.toInt ∧ r3.toInt = 0)) (hr4 : ¬ r4.toInt = 0 → ¬ r3.toInt = 0) (c5 : ¬ r4.toInt = 0) (ex16 : x16 = Int32.toInt64 r1) (tx16 : x16.toInt = r1.toInt) (ex17 : x17 = (256 : Int64) * x16) (tx17 : x17.toInt = 256 * x16.toInt) (ex18 : x18 = k0 + (1 : Int32)) (tx18 : x18.toInt = k0.toInt + 1) (hr19 : (x18.toInt < (σ.1 1).toInt ∧ r19.toInt = ((σ.2.1 2) x18.toNatClampNeg).toInt) ∨ ((σ.1 1).toInt ≤ x18.toInt ∧ r19.toInt = 0)) (ex20 : x20 = Int32.toInt64 r19) (tx20 : x20.toInt = r19.toInt) (ex21 : x21 = x17 + x20) (tx21 : x21.toInt = x17.toInt + x20.toInt) (hr22 : n23.toInt = (σ.1 3).toInt + 1) (ex24 : x24 = k0 + (2 : Int32)) (tx24 : x24.toInt = k0.toInt + 2) : k0.toInt < x24.toInt ∧ x24.toInt ≤ (σ.1 1).toInt ∧ 0 ≤ n23.toInt ∧ n23.toInt ≤ x24.toInt ∧ TKok (upd (σ.2.1 4) (σ.1 3).toNatClampNeg (5 : Int32)) (vp_updL (σ.2.2.1 6) (σ.1 3).toNatClampNeg x21) (upd (σ.2.1 7) (σ.1 3).toNatClampNeg (0 : Int32)) n23.toInt ∧ 0 ≤ (σ.1 8).toInt ∧ (σ.1 8).toInt ≤ 3 := by
  have q0 : (0 : Int32).toInt = 0 := by decide +kernel
  have q1 : (1 : Int32).toInt = 1 := by decide +kernel
  have q2 : (2 : Int32).toInt = 2 := by decide +kernel
  have q5 : (5 : Int32).toInt = 5 := by decide +kernel
  have ql256 : (256 : Int64).toInt = 256 := by decide +kernel
  have hz := hpre_5
  and_intros <;> first | exact hz | exact tk_add hz (by omega) (clampZ (by omega)) (by omega) (by omega) (by omega) | omega
-- post2 @44
theorem v_sign_18 (σ : RS) (k0 : Int32) (r1 : Int32) (x2 : Int32) (r3 : Int32) (r4 : Int32) (x16 : Int64) (x17 : Int64) (x18 : Int32) (r19 : Int32) (x20 : Int64) (x21 : Int64) (n23 : Int32) (x24 : Int32) (hpre_0 : 0 ≤ (σ.1 1).toInt) (hpre_1 : (σ.1 1).toInt ≤ 40) (hpre_2 : 0 ≤ (σ.1 3).toInt) (hpre_3 : (σ.1 3).toInt ≤ k0.toInt) (hpre_4 : k0.toInt < (σ.1 1).toInt) (hpre_5 : TKok (σ.2.1 4) (σ.2.2.1 6) (σ.2.1 7) (σ.1 3).toInt) (hpre_6 : 0 ≤ (σ.1 8).toInt) (hpre_7 : (σ.1 8).toInt ≤ 3) (hr1y : r1.toInt = tx (σ.2.1 2) (σ.1 1) k0.toInt) (hr1 : (k0.toInt < (σ.1 1).toInt ∧ r1.toInt = ((σ.2.1 2) k0.toNatClampNeg).toInt) ∨ ((σ.1 1).toInt ≤ k0.toInt ∧ r1.toInt = 0)) (ex2 : x2 = k0 + (1 : Int32)) (tx2 : x2.toInt = k0.toInt + 1) (hr3y : r3.toInt = tx (σ.2.1 2) (σ.1 1) x2.toInt) (hr3 : (x2.toInt < (σ.1 1).toInt ∧ r3.toInt = ((σ.2.1 2) x2.toNatClampNeg).toInt) ∨ ((σ.1 1).toInt ≤ x2.toInt ∧ r3.toInt = 0)) (hr4y_0 : ¬ r4.toInt = 0 → TW r1.toInt r3.toInt) (hr4y_1 : r4.toInt = 0 → ¬ TW r1.toInt r3.toInt) (hr4 : ¬ r4.toInt = 0 → ¬ r3.toInt = 0) (c5 : ¬ r4.toInt = 0) (ex16 : x16 = Int32.toInt64 r1) (tx16 : x16.toInt = r1.toInt) (ex17 : x17 = (256 : Int64) * x16) (tx17 : x17.toInt = 256 * x16.toInt) (ex18 : x18 = k0 + (1 : Int32)) (tx18 : x18.toInt = k0.toInt + 1) (hr19y : r19.toInt = tx (σ.2.1 2) (σ.1 1) x18.toInt) (hr19 : (x18.toInt < (σ.1 1).toInt ∧ r19.toInt = ((σ.2.1 2) x18.toNatClampNeg).toInt) ∨ ((σ.1 1).toInt ≤ x18.toInt ∧ r19.toInt = 0)) (ex20 : x20 = Int32.toInt64 r19) (tx20 : x20.toInt = r19.toInt) (ex21 : x21 = x17 + x20) (tx21 : x21.toInt = x17.toInt + x20.toInt) (hr22 : n23.toInt = (σ.1 3).toInt + 1) (ex24 : x24 = k0 + (2 : Int32)) (tx24 : x24.toInt = k0.toInt + 2) : (σ.1 8).toInt = 0 → ¬ dg (tx (σ.2.1 2) (σ.1 1) k0.toInt) → ¬ lw (tx (σ.2.1 2) (σ.1 1) k0.toInt) → ¬ tx (σ.2.1 2) (σ.1 1) k0.toInt = 39 → ∃ r9, TokR (tx (σ.2.1 2) (σ.1 1)) ((σ.1 1).toInt) k0.toInt r9 ∧ LXo (σ.2.1 4) (σ.2.2.1 6) (σ.2.1 5) (σ.1 3) (upd (σ.2.1 4) (σ.1 3).toNatClampNeg (5 : Int32)) (vp_updL (σ.2.2.1 6) (σ.1 3).toNatClampNeg x21) (upd (σ.2.1 5) (σ.1 3).toNatClampNeg k0) n23 (σ.1 8) (σ.1 9) k0.toInt x24.toInt r9 := by
  have q1 : (1 : Int32).toInt = 1 := by decide +kernel
  have q2 : (2 : Int32).toInt = 2 := by decide +kernel
  have q5 : (5 : Int32).toInt = 5 := by decide +kernel
  have ql256 : (256 : Int64).toInt = 256 := by decide +kernel
  intro h0 h1 h2 h3
  simp only [clampN] at *
  have zx2 : tx (σ.2.1 2) (σ.1 1) (k0.toInt + 1) = tx (σ.2.1 2) (σ.1 1) x2.toInt := by rw [tx2]
  have zx18 : tx (σ.2.1 2) (σ.1 1) (k0.toInt + 1) = tx (σ.2.1 2) (σ.1 1) x18.toInt := by rw [tx18]
  have h4 := hr4y_0 c5
  rw [hr1y, hr3y, ← zx2] at h4
  exact ⟨_, sgnN h1 h2 h3 h4 rfl rfl, LXo_add (clampZ (by omega)) (by omega) (by omega) (by omega) (by unfold TCv; rw [if_pos (by omega)]; omega) (if_neg (by omega)) rfl (by intro _; omega)⟩
set_option maxHeartbeats 4000000 in
set_option maxRecDepth 100000 in
theorem M_sign (l : Launch) (D : va_G) (cy : Nat → ClassId) (sz0 : Nat) (sa : Nat → Nat) (ad : Nat → Nat) (σ : RS) (sz : Nat) (k0 : Int32) (hpre : 0 ≤ (σ.1 1).toInt ∧ (σ.1 1).toInt ≤ 40 ∧ 0 ≤ (σ.1 3).toInt ∧ (σ.1 3).toInt ≤ k0.toInt ∧ k0.toInt < (σ.1 1).toInt ∧ TKok (σ.2.1 4) (σ.2.2.1 6) (σ.2.1 7) (σ.1 3).toInt ∧ 0 ≤ (σ.1 8).toInt ∧ (σ.1 8).toInt ≤ 3) : Met l yX12_sign (Cond.code yX12_sign cX12_sign 3 (some .int) :: GWm) ({ frames := 1, cells := 0, slots := 0, locals := 24 }) (PcR D cy sz0 sa ad [.ref (ad 0), .int k0] σ sz) (va_Qi (fun (r : Int32) (u : Int32 × (Nat → Int32) × (Nat → Int32) × (Nat → Int64) × (Nat → Int32) × Int32 × Int32) => (k0.toInt < r.toInt ∧ r.toInt ≤ (σ.1 1).toInt ∧ 0 ≤ u.1.toInt ∧ u.1.toInt ≤ r.toInt ∧ TKok u.2.1 u.2.2.2.1 u.2.2.2.2.1 u.1.toInt ∧ 0 ≤ u.2.2.2.2.2.1.toInt ∧ u.2.2.2.2.2.1.toInt ≤ 3) ∧ ((σ.1 8).toInt = 0 → ¬ dg (tx (σ.2.1 2) (σ.1 1) k0.toInt) → ¬ lw (tx (σ.2.1 2) (σ.1 1) k0.toInt) → ¬ tx (σ.2.1 2) (σ.1 1) k0.toInt = 39 → ∃ r9, TokR (tx (σ.2.1 2) (σ.1 1)) ((σ.1 1).toInt) k0.toInt r9 ∧ LXo (σ.2.1 4) (σ.2.2.1 6) (σ.2.1 5) (σ.1 3) u.2.1 u.2.2.2.1 u.2.2.1 u.1 u.2.2.2.2.2.1 u.2.2.2.2.2.2 k0.toInt r.toInt r9)) (fun (u : Int32 × (Nat → Int32) × (Nat → Int32) × (Nat → Int64) × (Nat → Int32) × Int32 × Int32) (t : State) => RP D cy ad (rS (rS (rA (rJ (rA (rA (rS σ 3 u.1) 4 u.2.1) 5 u.2.2.1) 6 u.2.2.2.1) 7 u.2.2.2.2.1) 8 u.2.2.2.2.2.1) 9 u.2.2.2.2.2.2) t.heap) (AR cy ad sz)) 0 0 (AR cy ad sz) := by
  refine RM_of (loc0 := [(0, .ref (ad 0)), (1, .int k0)]) (by decide) rfl rfl (Nat.le_of_ble_eq_true rfl) ?_
  intro p e s m below meth c ls hsz C hP hS hl
  have hx := C.1
  have hb := C.2.1
  have hown := C.2.2.2.2.1
  have hw := C.2.2.2.2.2.1
  clear hsz
  obtain ⟨hpre_0, hpre_1, hpre_2, hpre_3, hpre_4, hpre_5, hpre_6, hpre_7⟩ := hpre
  refine lv_aload_n hx hb dX12_sign_0 rfl (lv_at hl 0 rfl) ?_
  refine lv_iload_n hx hb dX12_sign_1 rfl (lv_at hl 1 rfl) ?_
  refine r_callVi (As := [.int k0]) (rest := []) C hP hS hl.1 ⟨Nat.zero_le _, Nat.zero_le _⟩ (M_at l D cy sz0 sa ad σ s.heap.size k0 (v_sign_1 σ k0 hpre_0 hpre_1 hpre_2 hpre_3 hpre_4 hpre_5)) (n := 1) ⟨wm_7, wm_5, by decide +kernel⟩ ⟨wm_8, wm_9, wm_10⟩ rfl rfl (lv_room (Nat.le_of_ble_eq_true rfl)) ⟨Nat.le_of_ble_eq_true rfl, Nat.le_of_ble_eq_true rfl⟩ dX12_sign_2 (fun r1 u H locs hr1 hP hS => ?_)
  obtain ⟨hr1, hr1y⟩ := hr1
  have hr1y : r1.toInt = tx (σ.2.1 2) (σ.1 1) k0.toInt := hr1y
  have hr1 : (k0.toInt < (σ.1 1).toInt ∧ r1.toInt = ((σ.2.1 2) k0.toNatClampNeg).toInt) ∨ ((σ.1 1).toInt ≤ k0.toInt ∧ r1.toInt = 0) := hr1
  refine lv_istore_n (lv' := [(2, .int r1), (0, .ref (ad 0)), (1, .int k0)]) hx hb dX12_sign_5 rfl hl (by decide) rfl (fun ls hl => ?_)
  refine lv_iload_n hx hb dX12_sign_6 rfl (lv_at hl 0 rfl) ?_
  refine lv_aload_n hx hb dX12_sign_7 rfl (lv_at hl 1 rfl) ?_
  refine lv_iload_n hx hb dX12_sign_8 rfl (lv_at hl 2 rfl) ?_
  refine lv_iconst (v := 1) hx hb dX12_sign_9 (by decide +kernel) ?_
  refine lv_iadd hx hb dX12_sign_10 ?_
  refine lv_topi (fun x2 ex2 => ?_)
  have tx2 : x2.toInt = k0.toInt + 1 := (v_sign_2 σ k0 r1 x2 hpre_0 hpre_1 hpre_2 hpre_3 hpre_4 hpre_5 hr1 ex2)
  refine r_callVi (As := [.int x2]) (rest := [.int r1]) C hP hS hl.1 ⟨Nat.zero_le _, Nat.zero_le _⟩ (M_at l D cy sz0 sa ad σ H.size x2 (v_sign_3 σ k0 r1 x2 hpre_0 hpre_1 hpre_2 hpre_3 hpre_4 hpre_5 hr1 ex2 tx2)) (n := 1) ⟨wm_7, wm_5, by decide +kernel⟩ ⟨wm_8, wm_9, wm_10⟩ rfl rfl (lv_room (Nat.le_of_ble_eq_true rfl)) ⟨Nat.le_of_ble_eq_true rfl, Nat.le_of_ble_eq_true rfl⟩ dX12_sign_11 (fun r3 u H locs hr3 hP hS => ?_)
  obtain ⟨hr3, hr3y⟩ := hr3
  have hr3y : r3.toInt = tx (σ.2.1 2) (σ.1 1) x2.toInt := hr3y
  have hr3 : (x2.toInt < (σ.1 1).toInt ∧ r3.toInt = ((σ.2.1 2) x2.toNatClampNeg).toInt) ∨ ((σ.1 1).toInt ≤ x2.toInt ∧ r3.toInt = 0) := hr3
  refine r_callSi (As := [.int r1, .int r3]) (rest := []) C hP hS hl.1 ⟨Nat.zero_le _, Nat.zero_le _⟩ (M_twice l D cy sz0 sa ad σ H.size r1 r3 trivial) (n := 2) ⟨wm_44, wm_41, by decide +kernel⟩ ⟨wm_45, wm_10⟩ rfl rfl (lv_room (Nat.le_of_ble_eq_true rfl)) ⟨Nat.le_of_ble_eq_true rfl, Nat.le_of_ble_eq_true rfl⟩ dX12_sign_14 (fun r4 u H locs hr4 hP hS => ?_)
  obtain ⟨hr4, hr4y⟩ := hr4
  have hr4y : (¬ r4.toInt = 0 → TW r1.toInt r3.toInt) ∧ (r4.toInt = 0 → ¬ TW r1.toInt r3.toInt) := hr4y
  have hr4 : ¬ r4.toInt = 0 → ¬ r3.toInt = 0 := hr4
  obtain ⟨hr4y_0, hr4y_1⟩ := hr4y
  refine lv_if_eq (tgt := 45) hx hb dX12_sign_17 (by decide) (fun c5 => ?_) (fun c5 => ?_)
  · have c5 : r4.toInt = 0 := by have h := z_eq c5; rw [show (0 : Int32).toInt = 0 from by decide +kernel] at h; exact h
    refine lv_iload_n hx hb dX12_sign_45 rfl (lv_at hl 0 rfl) ?_
    refine r_callSi (As := [.int r1]) (rest := []) C hP hS hl.1 ⟨Nat.zero_le _, Nat.zero_le _⟩ (M_single l D cy sz0 sa ad σ H.size r1 trivial) (n := 1) ⟨wm_46, wm_40, by decide +kernel⟩ ⟨wm_47, wm_10⟩ rfl rfl (lv_room (Nat.le_of_ble_eq_true rfl)) ⟨Nat.le_of_ble_eq_true rfl, Nat.le_of_ble_eq_true rfl⟩ dX12_sign_46 (fun r6 u H locs hr6 hP hS => ?_)
    obtain ⟨hr6, hr6y⟩ := hr6
    have hr6y : (¬ r6.toInt = 0 → SI r1.toInt) ∧ (r6.toInt = 0 → ¬ SI r1.toInt) := hr6y
    have hr6 : True := hr6
    obtain ⟨hr6y_0, hr6y_1⟩ := hr6y
    refine lv_if_eq (tgt := 63) hx hb dX12_sign_49 (by decide) (fun c7 => ?_) (fun c7 => ?_)
    · have c7 : r6.toInt = 0 := by have h := z_eq c7; rw [show (0 : Int32).toInt = 0 from by decide +kernel] at h; exact h
      refine lv_aload_n hx hb dX12_sign_63 rfl (lv_at hl 1 rfl) ?_
      refine lv_iconst (v := 1) hx hb dX12_sign_64 (by decide +kernel) ?_
      refine lv_iload_n hx hb dX12_sign_65 rfl (lv_at hl 2 rfl) ?_
      refine r_callVv (As := [.int 1, .int k0]) (rest := []) C hP hS hl.1 ⟨Nat.zero_le _, Nat.zero_le _⟩ (M_wrong l D cy sz0 sa ad σ H.size (1 : Int32) k0 trivial) (n := 2) ⟨wm_27, wm_12, by decide +kernel⟩ ⟨wm_28, wm_29, wm_10⟩ rfl rfl (lv_room (Nat.le_of_ble_eq_true rfl)) ⟨Nat.le_of_ble_eq_true rfl, Nat.le_of_ble_eq_true rfl⟩ dX12_sign_66 (fun u H locs hr8 hP hS => ?_)
      obtain ⟨n9, n10⟩ := u
      obtain ⟨hr8, hr8y⟩ := hr8
      have hr8y : ((σ.1 8).toInt = 0 → n10.toInt = k0.toInt) ∧ (¬ (σ.1 8).toInt = 0 → n10.toInt = (σ.1 9).toInt) := hr8y
      have hr8 : ((σ.1 8).toInt = 0 → n9.toInt = (1 : Int32).toInt) ∧ (¬ (σ.1 8).toInt = 0 → n9.toInt = (σ.1 8).toInt) := hr8
      obtain ⟨hr8y_0, hr8y_1⟩ := hr8y
      obtain ⟨hr8_0, hr8_1⟩ := hr8
      have hP : RP D cy ad (rS (rS σ 8 n9) 9 n10) H := hP
      refine lv_iload_n hx hb dX12_sign_69 rfl (lv_at hl 2 rfl) ?_
      refine lv_iconst (v := 1) hx hb dX12_sign_70 (by decide +kernel) ?_
      refine lv_iadd hx hb dX12_sign_71 ?_
      refine lv_topi (fun x11 ex11 => ?_)
      have tx11 : x11.toInt = k0.toInt + 1 := (v_sign_4 σ k0 r1 x2 r3 x11 hpre_0 hpre_1 hpre_2 hpre_3 hpre_4 hpre_5 hr1 ex2 tx2 hr3 ex11)
      have hP : RP D cy ad (rS (rS (rA (rJ (rA (rA (rS σ 3 (σ.1 3)) 4 (σ.2.1 4)) 5 (σ.2.1 5)) 6 (σ.2.2.1 6)) 7 (σ.2.1 7)) 8 n9) 9 n10) H := RP.cong hP (Eq.trans (b := (σ.1 0)) rfl rfl) (Eq.trans (b := (σ.1 1)) rfl rfl) (Eq.trans (b := (σ.2.1 2)) rfl rfl) (Eq.trans (b := (σ.1 3)) rfl rfl) (Eq.trans (b := (σ.2.1 4)) rfl rfl) (Eq.trans (b := (σ.2.1 5)) rfl rfl) (Eq.trans (b := (σ.2.2.1 6)) rfl rfl) (Eq.trans (b := (σ.2.1 7)) rfl rfl) (Eq.trans (b := n9) rfl rfl) (Eq.trans (b := n10) rfl rfl) (Eq.trans (b := (σ.1 10)) rfl rfl) (Eq.trans (b := (σ.2.1 11)) rfl rfl) (Eq.trans (b := (σ.2.2.1 12)) rfl rfl) (Eq.trans (b := (σ.2.1 13)) rfl rfl) (Eq.trans (b := (σ.1 14)) rfl rfl) (Eq.trans (b := (σ.1 15)) rfl rfl) (Eq.trans (b := (σ.1 16)) rfl rfl) (Eq.trans (b := (σ.1 17)) rfl rfl) (Eq.trans (b := (σ.1 18)) rfl rfl) (Eq.trans (b := (σ.1 19)) rfl rfl) (Eq.trans (b := (σ.2.1 20)) rfl rfl) (Eq.trans (b := (σ.2.1 21)) rfl rfl) (Eq.trans (b := (σ.2.1 22)) rfl rfl) (Eq.trans (b := (σ.2.1 23)) rfl rfl) (Eq.trans (b := (σ.2.1 24)) rfl rfl) (Eq.trans (b := (σ.2.1 25)) rfl rfl) (Eq.trans (b := (σ.2.1 26)) rfl rfl) (Eq.trans (b := (σ.2.1 27)) rfl rfl) (Eq.trans (b := (σ.2.1 28)) rfl rfl) (Eq.trans (b := (σ.1 29)) rfl rfl) (Eq.trans (b := (σ.2.1 30)) rfl rfl) (Eq.trans (b := (σ.2.1 31)) rfl rfl) (Eq.trans (b := (σ.2.1 32)) rfl rfl) (Eq.trans (b := (σ.1 33)) rfl rfl) (Eq.trans (b := (σ.1 34)) rfl rfl) (Eq.trans (b := (σ.1 35)) rfl rfl) (Eq.trans (b := (σ.2.1 36)) rfl rfl) (Eq.trans (b := (σ.2.1 37)) rfl rfl) (Eq.trans (b := (σ.2.1 38)) rfl rfl) (Eq.trans (b := (σ.2.1 39)) rfl rfl) (Eq.trans (b := (σ.2.1 40)) rfl rfl) (Eq.trans (b := (σ.2.1 41)) rfl rfl) (Eq.trans (b := (σ.2.1 42)) rfl rfl) (Eq.trans (b := (σ.2.1 43)) rfl rfl) (Eq.trans (b := (σ.2.1 44)) rfl rfl) (Eq.trans (b := (σ.2.1 45)) rfl rfl) (Eq.trans (b := (σ.2.1 46)) rfl rfl) (Eq.trans (b := (σ.1 47)) rfl rfl) (Eq.trans (b := (σ.2.1 48)) rfl rfl) (Eq.trans (b := (σ.1 49)) rfl rfl) (Eq.trans (b := (σ.2.1 50)) rfl rfl) (Eq.trans (b := (σ.2.1 51)) rfl rfl) (Eq.trans (b := (σ.2.2.1 52)) rfl rfl) (Eq.trans (b := (σ.2.2.1 53)) rfl rfl) (Eq.trans (b := (σ.2.2.2)) rfl rfl) (Eq.trans (b := (σ.1 55)) rfl rfl) (Eq.trans (b := (σ.1 56)) rfl rfl) (Eq.trans (b := (σ.1 57)) rfl rfl) (Eq.trans (b := (σ.2.1 58)) rfl rfl) (Eq.trans (b := (σ.1 59)) rfl rfl)
      exact r_reti C ⟨(σ.1 3), (σ.2.1 4), (σ.2.1 5), (σ.2.2.1 6), (σ.2.1 7), n9, n10⟩ ⟨(v_sign_5 σ k0 r1 x2 r3 r4 n9 x11 hpre_0 hpre_1 hpre_2 hpre_3 hpre_4 hpre_5 hpre_6 hpre_7 hr1 ex2 tx2 hr3 hr4 c5 hr8_0 hr8_1 ex11 tx11), (v_sign_6 σ k0 r1 x2 r3 r4 r6 n9 n10 x11 hpre_0 hpre_1 hpre_2 hpre_3 hpre_4 hpre_5 hpre_6 hpre_7 hr1y hr1 ex2 tx2 hr3y hr3 hr4y_0 hr4y_1 hr4 c5 hr6y_0 hr6y_1 c7 hr8y_0 hr8y_1 hr8_0 hr8_1 ex11 tx11)⟩ hP hS dX12_sign_72
    · have c7 : ¬ r6.toInt = 0 := by have h := z_ne c7; rw [show (0 : Int32).toInt = 0 from by decide +kernel] at h; exact h
      refine lv_aload_n hx hb dX12_sign_52 rfl (lv_at hl 1 rfl) ?_
      refine lv_iconst (v := 5) hx hb dX12_sign_53 (by decide +kernel) ?_
      refine lv_iload_n hx hb dX12_sign_54 rfl (lv_at hl 2 rfl) ?_
      refine lv_iload_n hx hb dX12_sign_55 rfl (lv_at hl 0 rfl) ?_
      refine lv_i2l hx hb dX12_sign_56 rfl ?_
      refine lv_topl (fun x12 ex12 => ?_)
      have tx12 : x12.toInt = r1.toInt := by rw [ex12]; exact Int32.toInt_toInt64 _
      refine r_callVv (As := [.int 5, .int k0, .long x12]) (rest := []) C hP hS hl.1 ⟨Nat.zero_le _, Nat.zero_le _⟩ (M_add l D cy sz0 sa ad σ H.size (5 : Int32) k0 x12 (v_sign_7 σ k0 r1 x2 x12 hpre_0 hpre_1 hpre_2 hpre_3 hpre_4 hpre_5 hr1 ex2 tx2 ex12 tx12)) (n := 3) ⟨wm_30, wm_15, by decide +kernel⟩ ⟨wm_31, wm_32, wm_10⟩ rfl rfl (lv_room (Nat.le_of_ble_eq_true rfl)) ⟨Nat.le_of_ble_eq_true rfl, Nat.le_of_ble_eq_true rfl⟩ dX12_sign_57 (fun u H locs hr13 hP hS => ?_)
      obtain ⟨n14, rfl⟩ : ∃ z, z = u := ⟨_, rfl⟩
      have hr13 : n14.toInt = (σ.1 3).toInt + 1 := hr13
      have hP : RP D cy ad (rS (rA (rJ (rA (rA σ 4 (upd (σ.2.1 4) (σ.1 3).toNatClampNeg (5 : Int32))) 5 (upd (σ.2.1 5) (σ.1 3).toNatClampNeg k0)) 6 (vp_updL (σ.2.2.1 6) (σ.1 3).toNatClampNeg x12)) 7 (upd (σ.2.1 7) (σ.1 3).toNatClampNeg (0 : Int32))) 3 n14) H := hP
      refine lv_goto (tgt := 69) hx hb dX12_sign_60 (by decide) ?_
      refine lv_iload_n hx hb dX12_sign_69 rfl (lv_at hl 2 rfl) ?_
      refine lv_iconst (v := 1) hx hb dX12_sign_70 (by decide +kernel) ?_
      refine lv_iadd hx hb dX12_sign_71 ?_
      refine lv_topi (fun x15 ex15 => ?_)
      have tx15 : x15.toInt = k0.toInt + 1 := (v_sign_8 σ k0 r1 x2 r3 x12 n14 x15 hpre_0 hpre_1 hpre_2 hpre_3 hpre_4 hpre_5 hr1 ex2 tx2 hr3 ex12 tx12 hr13 ex15)
      have hP : RP D cy ad (rS (rS (rA (rJ (rA (rA (rS σ 3 n14) 4 (upd (σ.2.1 4) (σ.1 3).toNatClampNeg (5 : Int32))) 5 (upd (σ.2.1 5) (σ.1 3).toNatClampNeg k0)) 6 (vp_updL (σ.2.2.1 6) (σ.1 3).toNatClampNeg x12)) 7 (upd (σ.2.1 7) (σ.1 3).toNatClampNeg (0 : Int32))) 8 (σ.1 8)) 9 (σ.1 9)) H := RP.cong hP (Eq.trans (b := (σ.1 0)) rfl rfl) (Eq.trans (b := (σ.1 1)) rfl rfl) (Eq.trans (b := (σ.2.1 2)) rfl rfl) (Eq.trans (b := n14) rfl rfl) (Eq.trans (b := (upd (σ.2.1 4) (σ.1 3).toNatClampNeg (5 : Int32))) rfl rfl) (Eq.trans (b := (upd (σ.2.1 5) (σ.1 3).toNatClampNeg k0)) rfl rfl) (Eq.trans (b := (vp_updL (σ.2.2.1 6) (σ.1 3).toNatClampNeg x12)) rfl rfl) (Eq.trans (b := (upd (σ.2.1 7) (σ.1 3).toNatClampNeg (0 : Int32))) rfl rfl) (Eq.trans (b := (σ.1 8)) rfl rfl) (Eq.trans (b := (σ.1 9)) rfl rfl) (Eq.trans (b := (σ.1 10)) rfl rfl) (Eq.trans (b := (σ.2.1 11)) rfl rfl) (Eq.trans (b := (σ.2.2.1 12)) rfl rfl) (Eq.trans (b := (σ.2.1 13)) rfl rfl) (Eq.trans (b := (σ.1 14)) rfl rfl) (Eq.trans (b := (σ.1 15)) rfl rfl) (Eq.trans (b := (σ.1 16)) rfl rfl) (Eq.trans (b := (σ.1 17)) rfl rfl) (Eq.trans (b := (σ.1 18)) rfl rfl) (Eq.trans (b := (σ.1 19)) rfl rfl) (Eq.trans (b := (σ.2.1 20)) rfl rfl) (Eq.trans (b := (σ.2.1 21)) rfl rfl) (Eq.trans (b := (σ.2.1 22)) rfl rfl) (Eq.trans (b := (σ.2.1 23)) rfl rfl) (Eq.trans (b := (σ.2.1 24)) rfl rfl) (Eq.trans (b := (σ.2.1 25)) rfl rfl) (Eq.trans (b := (σ.2.1 26)) rfl rfl) (Eq.trans (b := (σ.2.1 27)) rfl rfl) (Eq.trans (b := (σ.2.1 28)) rfl rfl) (Eq.trans (b := (σ.1 29)) rfl rfl) (Eq.trans (b := (σ.2.1 30)) rfl rfl) (Eq.trans (b := (σ.2.1 31)) rfl rfl) (Eq.trans (b := (σ.2.1 32)) rfl rfl) (Eq.trans (b := (σ.1 33)) rfl rfl) (Eq.trans (b := (σ.1 34)) rfl rfl) (Eq.trans (b := (σ.1 35)) rfl rfl) (Eq.trans (b := (σ.2.1 36)) rfl rfl) (Eq.trans (b := (σ.2.1 37)) rfl rfl) (Eq.trans (b := (σ.2.1 38)) rfl rfl) (Eq.trans (b := (σ.2.1 39)) rfl rfl) (Eq.trans (b := (σ.2.1 40)) rfl rfl) (Eq.trans (b := (σ.2.1 41)) rfl rfl) (Eq.trans (b := (σ.2.1 42)) rfl rfl) (Eq.trans (b := (σ.2.1 43)) rfl rfl) (Eq.trans (b := (σ.2.1 44)) rfl rfl) (Eq.trans (b := (σ.2.1 45)) rfl rfl) (Eq.trans (b := (σ.2.1 46)) rfl rfl) (Eq.trans (b := (σ.1 47)) rfl rfl) (Eq.trans (b := (σ.2.1 48)) rfl rfl) (Eq.trans (b := (σ.1 49)) rfl rfl) (Eq.trans (b := (σ.2.1 50)) rfl rfl) (Eq.trans (b := (σ.2.1 51)) rfl rfl) (Eq.trans (b := (σ.2.2.1 52)) rfl rfl) (Eq.trans (b := (σ.2.2.1 53)) rfl rfl) (Eq.trans (b := (σ.2.2.2)) rfl rfl) (Eq.trans (b := (σ.1 55)) rfl rfl) (Eq.trans (b := (σ.1 56)) rfl rfl) (Eq.trans (b := (σ.1 57)) rfl rfl) (Eq.trans (b := (σ.2.1 58)) rfl rfl) (Eq.trans (b := (σ.1 59)) rfl rfl)
      exact r_reti C ⟨n14, (upd (σ.2.1 4) (σ.1 3).toNatClampNeg (5 : Int32)), (upd (σ.2.1 5) (σ.1 3).toNatClampNeg k0), (vp_updL (σ.2.2.1 6) (σ.1 3).toNatClampNeg x12), (upd (σ.2.1 7) (σ.1 3).toNatClampNeg (0 : Int32)), (σ.1 8), (σ.1 9)⟩ ⟨(v_sign_9 σ k0 r1 x2 r3 r4 x12 n14 x15 hpre_0 hpre_1 hpre_2 hpre_3 hpre_4 hpre_5 hpre_6 hpre_7 hr1 ex2 tx2 hr3 hr4 c5 ex12 tx12 hr13 ex15 tx15), (v_sign_10 σ k0 r1 x2 r3 r4 r6 x12 n14 x15 hpre_0 hpre_1 hpre_2 hpre_3 hpre_4 hpre_5 hpre_6 hpre_7 hr1y hr1 ex2 tx2 hr3y hr3 hr4y_0 hr4y_1 hr4 c5 hr6y_0 hr6y_1 c7 ex12 tx12 hr13 ex15 tx15)⟩ hP hS dX12_sign_72
  · have c5 : ¬ r4.toInt = 0 := by have h := z_ne c5; rw [show (0 : Int32).toInt = 0 from by decide +kernel] at h; exact h
    refine lv_aload_n hx hb dX12_sign_20 rfl (lv_at hl 1 rfl) ?_
    refine lv_iconst (v := 5) hx hb dX12_sign_21 (by decide +kernel) ?_
    refine lv_iload_n hx hb dX12_sign_22 rfl (lv_at hl 2 rfl) ?_
    refine lv_ldc2 (v := 256) hx hb hown (hw _ wm_43) dX12_sign_23 ?_
    refine lv_iload_n hx hb dX12_sign_26 rfl (lv_at hl 0 rfl) ?_
    refine lv_i2l hx hb dX12_sign_27 rfl ?_
    refine lv_topl (fun x16 ex16 => ?_)
    have tx16 : x16.toInt = r1.toInt := by rw [ex16]; exact Int32.toInt_toInt64 _
    refine lv_lmul hx hb dX12_sign_28 ?_
    refine lv_topl (fun x17 ex17 => ?_)
    have tx17 : x17.toInt = 256 * x16.toInt := (v_sign_11 σ k0 r1 x2 x16 x17 hpre_0 hpre_1 hpre_2 hpre_3 hpre_4 hpre_5 hr1 ex2 tx2 ex16 tx16 ex17)
    refine lv_aload_n hx hb dX12_sign_29 rfl (lv_at hl 1 rfl) ?_
    refine lv_iload_n hx hb dX12_sign_30 rfl (lv_at hl 2 rfl) ?_
    refine lv_iconst (v := 1) hx hb dX12_sign_31 (by decide +kernel) ?_
    refine lv_iadd hx hb dX12_sign_32 ?_
    refine lv_topi (fun x18 ex18 => ?_)
    have tx18 : x18.toInt = k0.toInt + 1 := (v_sign_12 σ k0 r1 x2 r3 x16 x17 x18 hpre_0 hpre_1 hpre_2 hpre_3 hpre_4 hpre_5 hr1 ex2 tx2 hr3 ex16 tx16 ex17 tx17 ex18)
    refine r_callVi (As := [.int x18]) (rest := [.long x17, .int k0, .int 5, .ref (ad 0)]) C hP hS hl.1 ⟨Nat.zero_le _, Nat.zero_le _⟩ (M_at l D cy sz0 sa ad σ H.size x18 (v_sign_13 σ k0 r1 x2 r3 r4 x16 x17 x18 hpre_0 hpre_1 hpre_2 hpre_3 hpre_4 hpre_5 hr1 ex2 tx2 hr3 hr4 c5 ex16 tx16 ex17 tx17 ex18 tx18)) (n := 1) ⟨wm_7, wm_5, by decide +kernel⟩ ⟨wm_8, wm_9, wm_10⟩ rfl rfl (lv_room (Nat.le_of_ble_eq_true rfl)) ⟨Nat.le_of_ble_eq_true rfl, Nat.le_of_ble_eq_true rfl⟩ dX12_sign_33 (fun r19 u H locs hr19 hP hS => ?_)
    obtain ⟨hr19, hr19y⟩ := hr19
    have hr19y : r19.toInt = tx (σ.2.1 2) (σ.1 1) x18.toInt := hr19y
    have hr19 : (x18.toInt < (σ.1 1).toInt ∧ r19.toInt = ((σ.2.1 2) x18.toNatClampNeg).toInt) ∨ ((σ.1 1).toInt ≤ x18.toInt ∧ r19.toInt = 0) := hr19
    refine lv_i2l hx hb dX12_sign_36 rfl ?_
    refine lv_topl (fun x20 ex20 => ?_)
    have tx20 : x20.toInt = r19.toInt := by rw [ex20]; exact Int32.toInt_toInt64 _
    refine lv_ladd hx hb dX12_sign_37 ?_
    refine lv_topl (fun x21 ex21 => ?_)
    have tx21 : x21.toInt = x17.toInt + x20.toInt := (v_sign_14 σ k0 r1 x2 x16 x17 x18 r19 x20 x21 hpre_0 hpre_1 hpre_2 hpre_3 hpre_4 hpre_5 ex2 tx2 ex16 tx16 ex17 tx17 ex18 tx18 hr19 ex20 tx20 ex21)
    refine r_callVv (As := [.int 5, .int k0, .long x21]) (rest := []) C hP hS hl.1 ⟨Nat.zero_le _, Nat.zero_le _⟩ (M_add l D cy sz0 sa ad σ H.size (5 : Int32) k0 x21 (v_sign_15 σ k0 r1 x2 x16 x17 x18 r19 x20 x21 hpre_0 hpre_1 hpre_2 hpre_3 hpre_4 hpre_5 hr1 ex2 tx2 ex16 tx16 ex17 tx17 ex18 tx18 ex20 tx20 ex21 tx21)) (n := 3) ⟨wm_30, wm_15, by decide +kernel⟩ ⟨wm_31, wm_32, wm_10⟩ rfl rfl (lv_room (Nat.le_of_ble_eq_true rfl)) ⟨Nat.le_of_ble_eq_true rfl, Nat.le_of_ble_eq_true rfl⟩ dX12_sign_38 (fun u H locs hr22 hP hS => ?_)
    obtain ⟨n23, rfl⟩ : ∃ z, z = u := ⟨_, rfl⟩
    have hr22 : n23.toInt = (σ.1 3).toInt + 1 := hr22
    have hP : RP D cy ad (rS (rA (rJ (rA (rA σ 4 (upd (σ.2.1 4) (σ.1 3).toNatClampNeg (5 : Int32))) 5 (upd (σ.2.1 5) (σ.1 3).toNatClampNeg k0)) 6 (vp_updL (σ.2.2.1 6) (σ.1 3).toNatClampNeg x21)) 7 (upd (σ.2.1 7) (σ.1 3).toNatClampNeg (0 : Int32))) 3 n23) H := hP
    refine lv_iload_n hx hb dX12_sign_41 rfl (lv_at hl 2 rfl) ?_
    refine lv_iconst (v := 2) hx hb dX12_sign_42 (by decide +kernel) ?_
    refine lv_iadd hx hb dX12_sign_43 ?_
    refine lv_topi (fun x24 ex24 => ?_)
    have tx24 : x24.toInt = k0.toInt + 2 := (v_sign_16 σ k0 r1 x2 r3 x16 x17 x18 r19 x20 x21 n23 x24 hpre_0 hpre_1 hpre_2 hpre_3 hpre_4 hpre_5 hr1 ex2 tx2 hr3 ex16 tx16 ex17 tx17 ex18 tx18 hr19 ex20 tx20 ex21 tx21 hr22 ex24)
    have hP : RP D cy ad (rS (rS (rA (rJ (rA (rA (rS σ 3 n23) 4 (upd (σ.2.1 4) (σ.1 3).toNatClampNeg (5 : Int32))) 5 (upd (σ.2.1 5) (σ.1 3).toNatClampNeg k0)) 6 (vp_updL (σ.2.2.1 6) (σ.1 3).toNatClampNeg x21)) 7 (upd (σ.2.1 7) (σ.1 3).toNatClampNeg (0 : Int32))) 8 (σ.1 8)) 9 (σ.1 9)) H := RP.cong hP (Eq.trans (b := (σ.1 0)) rfl rfl) (Eq.trans (b := (σ.1 1)) rfl rfl) (Eq.trans (b := (σ.2.1 2)) rfl rfl) (Eq.trans (b := n23) rfl rfl) (Eq.trans (b := (upd (σ.2.1 4) (σ.1 3).toNatClampNeg (5 : Int32))) rfl rfl) (Eq.trans (b := (upd (σ.2.1 5) (σ.1 3).toNatClampNeg k0)) rfl rfl) (Eq.trans (b := (vp_updL (σ.2.2.1 6) (σ.1 3).toNatClampNeg x21)) rfl rfl) (Eq.trans (b := (upd (σ.2.1 7) (σ.1 3).toNatClampNeg (0 : Int32))) rfl rfl) (Eq.trans (b := (σ.1 8)) rfl rfl) (Eq.trans (b := (σ.1 9)) rfl rfl) (Eq.trans (b := (σ.1 10)) rfl rfl) (Eq.trans (b := (σ.2.1 11)) rfl rfl) (Eq.trans (b := (σ.2.2.1 12)) rfl rfl) (Eq.trans (b := (σ.2.1 13)) rfl rfl) (Eq.trans (b := (σ.1 14)) rfl rfl) (Eq.trans (b := (σ.1 15)) rfl rfl) (Eq.trans (b := (σ.1 16)) rfl rfl) (Eq.trans (b := (σ.1 17)) rfl rfl) (Eq.trans (b := (σ.1 18)) rfl rfl) (Eq.trans (b := (σ.1 19)) rfl rfl) (Eq.trans (b := (σ.2.1 20)) rfl rfl) (Eq.trans (b := (σ.2.1 21)) rfl rfl) (Eq.trans (b := (σ.2.1 22)) rfl rfl) (Eq.trans (b := (σ.2.1 23)) rfl rfl) (Eq.trans (b := (σ.2.1 24)) rfl rfl) (Eq.trans (b := (σ.2.1 25)) rfl rfl) (Eq.trans (b := (σ.2.1 26)) rfl rfl) (Eq.trans (b := (σ.2.1 27)) rfl rfl) (Eq.trans (b := (σ.2.1 28)) rfl rfl) (Eq.trans (b := (σ.1 29)) rfl rfl) (Eq.trans (b := (σ.2.1 30)) rfl rfl) (Eq.trans (b := (σ.2.1 31)) rfl rfl) (Eq.trans (b := (σ.2.1 32)) rfl rfl) (Eq.trans (b := (σ.1 33)) rfl rfl) (Eq.trans (b := (σ.1 34)) rfl rfl) (Eq.trans (b := (σ.1 35)) rfl rfl) (Eq.trans (b := (σ.2.1 36)) rfl rfl) (Eq.trans (b := (σ.2.1 37)) rfl rfl) (Eq.trans (b := (σ.2.1 38)) rfl rfl) (Eq.trans (b := (σ.2.1 39)) rfl rfl) (Eq.trans (b := (σ.2.1 40)) rfl rfl) (Eq.trans (b := (σ.2.1 41)) rfl rfl) (Eq.trans (b := (σ.2.1 42)) rfl rfl) (Eq.trans (b := (σ.2.1 43)) rfl rfl) (Eq.trans (b := (σ.2.1 44)) rfl rfl) (Eq.trans (b := (σ.2.1 45)) rfl rfl) (Eq.trans (b := (σ.2.1 46)) rfl rfl) (Eq.trans (b := (σ.1 47)) rfl rfl) (Eq.trans (b := (σ.2.1 48)) rfl rfl) (Eq.trans (b := (σ.1 49)) rfl rfl) (Eq.trans (b := (σ.2.1 50)) rfl rfl) (Eq.trans (b := (σ.2.1 51)) rfl rfl) (Eq.trans (b := (σ.2.2.1 52)) rfl rfl) (Eq.trans (b := (σ.2.2.1 53)) rfl rfl) (Eq.trans (b := (σ.2.2.2)) rfl rfl) (Eq.trans (b := (σ.1 55)) rfl rfl) (Eq.trans (b := (σ.1 56)) rfl rfl) (Eq.trans (b := (σ.1 57)) rfl rfl) (Eq.trans (b := (σ.2.1 58)) rfl rfl) (Eq.trans (b := (σ.1 59)) rfl rfl)
    exact r_reti C ⟨n23, (upd (σ.2.1 4) (σ.1 3).toNatClampNeg (5 : Int32)), (upd (σ.2.1 5) (σ.1 3).toNatClampNeg k0), (vp_updL (σ.2.2.1 6) (σ.1 3).toNatClampNeg x21), (upd (σ.2.1 7) (σ.1 3).toNatClampNeg (0 : Int32)), (σ.1 8), (σ.1 9)⟩ ⟨(v_sign_17 σ k0 r1 x2 r3 r4 x16 x17 x18 r19 x20 x21 n23 x24 hpre_0 hpre_1 hpre_2 hpre_3 hpre_4 hpre_5 hpre_6 hpre_7 hr1 ex2 tx2 hr3 hr4 c5 ex16 tx16 ex17 tx17 ex18 tx18 hr19 ex20 tx20 ex21 tx21 hr22 ex24 tx24), (v_sign_18 σ k0 r1 x2 r3 r4 x16 x17 x18 r19 x20 x21 n23 x24 hpre_0 hpre_1 hpre_2 hpre_3 hpre_4 hpre_5 hpre_6 hpre_7 hr1y hr1 ex2 tx2 hr3y hr3 hr4y_0 hr4y_1 hr4 c5 ex16 tx16 ex17 tx17 ex18 tx18 hr19y hr19 ex20 tx20 ex21 tx21 hr22 ex24 tx24)⟩ hP hS dX12_sign_44
