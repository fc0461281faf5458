-- init@29 @29
theorem v_buildNumber_1   : 0 ≤ (0 : Int32).toInt ∧ (0 : Int32).toInt ≤ 10 := by
  have q0 : (0 : Int32).toInt = 0 := by decide +kernel
  refine ⟨?_, ?_⟩ <;> first | assumption | omega | (subst_vars; omega) | trivial
-- init2@29 @29
theorem v_buildNumber_2 (σ : RS) (k0 : Int32) (x2 : Int64) (hpre_0 : 0 ≤ (σ.1 59).toInt) (hpre_1 : (σ.1 59).toInt ≤ 48) (c1 : 0 ≤ k0.toInt) (ex2 : x2 = Int32.toInt64 k0) (tx2 : x2.toInt = k0.toInt) (c3 : 0 ≤ k0.toInt) : ∃ e9 : Nat, (e9 : Int) = (0 : Int32).toInt ∧ (1 : Int64).toInt = ((10 ^ e9 : Nat) : Int) ∧ e9 ≤ 10 ∧ (e9 = 0 ∨ 10 ^ e9 ≤ k0.toInt.natAbs) := by
  have q0 : (0 : Int32).toInt = 0 := by decide +kernel
  have ql1 : (1 : Int64).toInt = 1 := by decide +kernel
  first
  | exact ⟨0, by omega, by show (1 : Int64).toInt = _; decide +kernel, by omega, Or.inl rfl⟩
-- init@64 @64
theorem v_buildNumber_3 (σ : RS) (hpre_0 : 0 ≤ (σ.1 59).toInt) (hpre_1 : (σ.1 59).toInt ≤ 48) : 0 ≤ (σ.1 59).toInt ∧ (σ.1 59).toInt ≤ 48 ∧ 0 ≤ (0 : Int32).toInt ∧ (0 : Int32).toInt ≤ 11 := by
  have q0 : (0 : Int32).toInt = 0 := by decide +kernel
  refine ⟨?_, ?_, ?_, ?_⟩ <;> first | assumption | omega | (subst_vars; omega) | trivial
-- init2@64 @64
theorem v_buildNumber_4 (σ : RS) (k0 : Int32) (x2 : Int64) (y4 : Int32) (y5 : Int64) (hpre_0 : 0 ≤ (σ.1 59).toInt) (hpre_1 : (σ.1 59).toInt ≤ 48) (c1 : 0 ≤ k0.toInt) (ex2 : x2 = Int32.toInt64 k0) (tx2 : x2.toInt = k0.toInt) (c3 : 0 ≤ k0.toInt) (hi29_0 : 0 ≤ y4.toInt) (hi29_1 : y4.toInt ≤ 10) (hi29y : ∃ e9 : Nat, (e9 : Int) = y4.toInt ∧ y5.toInt = ((10 ^ e9 : Nat) : Int) ∧ e9 ≤ 10 ∧ (e9 = 0 ∨ 10 ^ e9 ≤ k0.toInt.natAbs)) (c6 : 10 ≤ y4.toInt) : QNL (σ.2.1 58) (σ.1 59) (σ.2.1 58) (σ.1 59) k0.toInt y5.toInt (0 : Int32).toInt := by
  have q0 : (0 : Int32).toInt = 0 := by decide +kernel
  have hr9 : x2.toInt = (k0.toInt.natAbs : Int) := by omega
  have hr8 := Int32.toInt_lt k0
  obtain ⟨e9, g1, g2, g3, g4⟩ := hi29y
  have gb := q_p10 g3
  have gx : e9 = 10 → (10 : Nat) ^ e9 = 10000000000 := fun h => by rw [h]
  refine QNL.start (e := e9) g2 (by omega) g4 (by rw [Nat.pow_succ]; rcases g4 with g4 | g4 <;> first | omega | (subst g4; omega)) ?_
  intro s9 h9 hl
  rw [if_neg (by omega), List.append_nil]; exact h9
-- post @109
theorem v_buildNumber_5 (n10 : Int32) (hi64_0 : 0 ≤ n10.toInt) (hi64_1 : n10.toInt ≤ 48) : 0 ≤ n10.toInt ∧ n10.toInt ≤ 48 := by
  refine ⟨?_, ?_⟩ <;> first | assumption | omega | (subst_vars; omega) | trivial
-- post2 @109
theorem v_buildNumber_6 (σ : RS) (k0 : Int32) (x2 : Int64) (y4 : Int32) (y5 : Int64) (y7 : Int32) (y8 : Int64) (F9 : (Nat → Int32)) (n10 : Int32) (hpre_0 : 0 ≤ (σ.1 59).toInt) (hpre_1 : (σ.1 59).toInt ≤ 48) (c1 : 0 ≤ k0.toInt) (ex2 : x2 = Int32.toInt64 k0) (tx2 : x2.toInt = k0.toInt) (c3 : 0 ≤ k0.toInt) (hi29_0 : 0 ≤ y4.toInt) (hi29_1 : y4.toInt ≤ 10) (hi29y : ∃ e9 : Nat, (e9 : Int) = y4.toInt ∧ y5.toInt = ((10 ^ e9 : Nat) : Int) ∧ e9 ≤ 10 ∧ (e9 = 0 ∨ 10 ^ e9 ≤ k0.toInt.natAbs)) (c6 : 10 ≤ y4.toInt) (hi64_0 : 0 ≤ n10.toInt) (hi64_1 : n10.toInt ≤ 48) (hi64_2 : 0 ≤ y7.toInt) (hi64_3 : y7.toInt ≤ 11) (hi64y : QNL (σ.2.1 58) (σ.1 59) F9 n10 k0.toInt y8.toInt y7.toInt) (c11 : 11 ≤ y7.toInt) : ∀ s9 : List Int, QB (σ.2.1 58) (σ.1 59) s9 → s9.length ≤ 36 → QB F9 n10 (s9 ++ qDec k0.toInt) := by
  have hr9 : x2.toInt = (k0.toInt.natAbs : Int) := by omega
  have hr8 := Int32.toInt_lt k0
  intro s9 h9 hl
  exact hi64y.fin h9 hl (by omega)
-- post2 @109
theorem v_buildNumber_7 (σ : RS) (k0 : Int32) (x2 : Int64) (y4 : Int32) (y5 : Int64) (y7 : Int32) (y8 : Int64) (F9 : (Nat → Int32)) (n10 : Int32) (x12 : Int32) (hpre_0 : 0 ≤ (σ.1 59).toInt) (hpre_1 : (σ.1 59).toInt ≤ 48) (c1 : 0 ≤ k0.toInt) (ex2 : x2 = Int32.toInt64 k0) (tx2 : x2.toInt = k0.toInt) (c3 : 0 ≤ k0.toInt) (hi29_0 : 0 ≤ y4.toInt) (hi29_1 : y4.toInt ≤ 10) (hi29y : ∃ e9 : Nat, (e9 : Int) = y4.toInt ∧ y5.toInt = ((10 ^ e9 : Nat) : Int) ∧ e9 ≤ 10 ∧ (e9 = 0 ∨ 10 ^ e9 ≤ k0.toInt.natAbs)) (c6 : 10 ≤ y4.toInt) (hi64_0 : 0 ≤ n10.toInt) (hi64_1 : n10.toInt ≤ 48) (hi64_2 : 0 ≤ y7.toInt) (hi64_3 : y7.toInt ≤ 11) (hi64y : QNL (σ.2.1 58) (σ.1 59) F9 n10 k0.toInt y8.toInt y7.toInt) (c11 : y7.toInt < 11) (tx12 : (x12.toInt = 0 ↔ y8.toInt = 0) ∧ (x12.toInt < 0 ↔ y8.toInt < 0)) (c13 : x12.toInt ≤ 0) : ∀ s9 : List Int, QB (σ.2.1 58) (σ.1 59) s9 → s9.length ≤ 36 → QB F9 n10 (s9 ++ qDec k0.toInt) := by
  have hr9 : x2.toInt = (k0.toInt.natAbs : Int) := by omega
  have hr8 := Int32.toInt_lt k0
  intro s9 h9 hl
  exact hi64y.fin h9 hl (by omega)
-- div@85 @85
theorem v_buildNumber_8 (y8 : Int64) (x12 : Int32) (tx12 : (x12.toInt = 0 ↔ y8.toInt = 0) ∧ (x12.toInt < 0 ↔ y8.toInt < 0)) (c13 : 0 < x12.toInt) : ¬ y8 = 0 := by
  intro h
  first
  | (have h := congrArg Int64.toInt h; have z9 : (0 : Int64).toInt = 0 := (by decide +kernel); omega)
  | (subst h; first | omega | simp_all)
-- nw@103 @103
theorem v_buildNumber_9 (y7 : Int32) (x22 : Int32) (hi64_2 : 0 ≤ y7.toInt) (hi64_3 : y7.toInt ≤ 11) (c11 : y7.toInt < 11) (ex22 : x22 = y7 + (1 : Int32)) : x22.toInt = y7.toInt + 1 := by
  have q1 : (1 : Int32).toInt = 1 := by decide +kernel
  have z9 : (1 : Int32).toInt = 1 := by decide +kernel
  rw [ex22, z_add (by omega) (by omega)]; first | done | omega
-- inv@64 @64
theorem v_buildNumber_10 (y7 : Int32) (n20 : Int32) (x22 : Int32) (hi64_2 : 0 ≤ y7.toInt) (hi64_3 : y7.toInt ≤ 11) (c11 : y7.toInt < 11) (hr18_0 : 0 ≤ n20.toInt) (hr18_1 : n20.toInt ≤ 48) (ex22 : x22 = y7 + (1 : Int32)) (tx22 : x22.toInt = y7.toInt + 1) : 0 ≤ n20.toInt ∧ n20.toInt ≤ 48 ∧ 0 ≤ x22.toInt ∧ x22.toInt ≤ 11 := by
  have q1 : (1 : Int32).toInt = 1 := by decide +kernel
  refine ⟨?_, ?_, ?_, ?_⟩ <;> first | assumption | omega | (subst_vars; omega) | trivial
-- inv2@64 @64
theorem v_buildNumber_11 (σ : RS) (k0 : Int32) (x2 : Int64) (y4 : Int32) (y5 : Int64) (y7 : Int32) (y8 : Int64) (F9 : (Nat → Int32)) (n10 : Int32) (x12 : Int32) (x14 : Int64) (x15 : Int64) (x16 : Int64) (x17 : Int32) (F19 : (Nat → Int32)) (n20 : Int32) (x21 : Int64) (x22 : Int32) (hpre_0 : 0 ≤ (σ.1 59).toInt) (hpre_1 : (σ.1 59).toInt ≤ 48) (c1 : 0 ≤ k0.toInt) (ex2 : x2 = Int32.toInt64 k0) (tx2 : x2.toInt = k0.toInt) (c3 : 0 ≤ k0.toInt) (hi29_0 : 0 ≤ y4.toInt) (hi29_1 : y4.toInt ≤ 10) (hi29y : ∃ e9 : Nat, (e9 : Int) = y4.toInt ∧ y5.toInt = ((10 ^ e9 : Nat) : Int) ∧ e9 ≤ 10 ∧ (e9 = 0 ∨ 10 ^ e9 ≤ k0.toInt.natAbs)) (c6 : 10 ≤ y4.toInt) (hi64_0 : 0 ≤ n10.toInt) (hi64_1 : n10.toInt ≤ 48) (hi64_2 : 0 ≤ y7.toInt) (hi64_3 : y7.toInt ≤ 11) (hi64y : QNL (σ.2.1 58) (σ.1 59) F9 n10 k0.toInt y8.toInt y7.toInt) (c11 : y7.toInt < 11) (tx12 : (x12.toInt = 0 ↔ y8.toInt = 0) ∧ (x12.toInt < 0 ↔ y8.toInt < 0)) (c13 : 0 < x12.toInt) (ex14 : x14 = x2 / y8) (ex15 : x15 = x14 - x14 / (10 : Int64) * (10 : Int64)) (ex16 : x16 = (48 : Int64) + x15) (ex17 : x17 = Int64.toInt32 x16) (tx17 : -2147483648 ≤ x16.toInt → x16.toInt < 2147483648 → x17.toInt = x16.toInt) (hr18y : ∀ s9 : List Int, QB F9 n10 s9 → s9.length < 48 → QB F19 n20 (s9 ++ [x17.toInt])) (hr18_0 : 0 ≤ n20.toInt) (hr18_1 : n20.toInt ≤ 48) (ex21 : x21 = y8 / (10 : Int64)) (ex22 : x22 = y7 + (1 : Int32)) (tx22 : x22.toInt = y7.toInt + 1) : QNL (σ.2.1 58) (σ.1 59) F19 n20 k0.toInt x21.toInt x22.toInt := by
  have q1 : (1 : Int32).toInt = 1 := by decide +kernel
  have ql10 : (10 : Int64).toInt = 10 := by decide +kernel
  have ql48 : (48 : Int64).toInt = 48 := by decide +kernel
  have hr9 : x2.toInt = (k0.toInt.natAbs : Int) := by omega
  have hr8 := Int32.toInt_lt k0
  have u0 : 0 < y8.toInt := by omega
  have q9 : x14.toInt = x2.toInt / y8.toInt := by rw [ex14]; exact q_div (by omega) u0
  have u9 : x21.toInt = y8.toInt / 10 := by rw [ex21]; exact q_div (by omega) (by decide +kernel)
  have qb := hi64y.ub u0 (by omega)
  have qn : 0 ≤ x14.toInt := by rw [q9]; exact Int.ediv_nonneg (by omega) (by omega)
  have m9 : x15.toInt = x14.toInt % 10 := by rw [ex15]; exact q_mod10 qn
  have a9 : x16.toInt = 48 + x14.toInt % 10 := by rw [ex16, zl_add (by omega) (by omega), m9, show (48 : Int64).toInt = 48 by decide +kernel]
  have i9 := tx17 (by omega) (by omega)
  refine hi64y.step (u2 := x21.toInt) (d := x17.toInt) u0 (by omega) (by omega) (by omega) u9 (by rw [i9, a9, q9, hr9]) hr18y
-- meas@64 @64
theorem v_buildNumber_12 (y7 : Int32) (x22 : Int32) (hi64_2 : 0 ≤ y7.toInt) (hi64_3 : y7.toInt ≤ 11) (c11 : y7.toInt < 11) (ex22 : x22 = y7 + (1 : Int32)) (tx22 : x22.toInt = y7.toInt + 1) : (11 - x22.toInt).toNat < (11 - y7.toInt).toNat := by
  have q1 : (1 : Int32).toInt = 1 := by decide +kernel
  first | assumption | omega | (subst_vars; omega) | trivial
-- init2@64 @64
theorem v_buildNumber_13 (σ : RS) (k0 : Int32) (x2 : Int64) (y4 : Int32) (y5 : Int64) (x23 : Int64) (x24 : Int32) (hpre_0 : 0 ≤ (σ.1 59).toInt) (hpre_1 : (σ.1 59).toInt ≤ 48) (c1 : 0 ≤ k0.toInt) (ex2 : x2 = Int32.toInt64 k0) (tx2 : x2.toInt = k0.toInt) (c3 : 0 ≤ k0.toInt) (hi29_0 : 0 ≤ y4.toInt) (hi29_1 : y4.toInt ≤ 10) (hi29y : ∃ e9 : Nat, (e9 : Int) = y4.toInt ∧ y5.toInt = ((10 ^ e9 : Nat) : Int) ∧ e9 ≤ 10 ∧ (e9 = 0 ∨ 10 ^ e9 ≤ k0.toInt.natAbs)) (c6 : y4.toInt < 10) (ex23 : x23 = y5 * (10 : Int64)) (tx24 : (x24.toInt = 0 ↔ x23.toInt = x2.toInt) ∧ (x24.toInt < 0 ↔ x23.toInt < x2.toInt)) (c25 : 0 < x24.toInt) : QNL (σ.2.1 58) (σ.1 59) (σ.2.1 58) (σ.1 59) k0.toInt y5.toInt (0 : Int32).toInt := by
  have q0 : (0 : Int32).toInt = 0 := by decide +kernel
  have ql10 : (10 : Int64).toInt = 10 := by decide +kernel
  have hr9 : x2.toInt = (k0.toInt.natAbs : Int) := by omega
  have hr8 := Int32.toInt_lt k0
  obtain ⟨e9, g1, g2, g3, g4⟩ := hi29y
  have gb := q_p10 g3
  have x239 : x23.toInt = 10 * y5.toInt := by rw [ex23]; exact q_mul10 (by omega) (by omega)
  have gx : e9 = 10 → (10 : Nat) ^ e9 = 10000000000 := fun h => by rw [h]
  refine QNL.start (e := e9) g2 (by omega) g4 (by rw [Nat.pow_succ]; rcases g4 with g4 | g4 <;> first | omega | (subst g4; omega)) ?_
  intro s9 h9 hl
  rw [if_neg (by omega), List.append_nil]; exact h9
-- post @109
theorem v_buildNumber_14 (n29 : Int32) (hi64_0 : 0 ≤ n29.toInt) (hi64_1 : n29.toInt ≤ 48) : 0 ≤ n29.toInt ∧ n29.toInt ≤ 48 := by
  refine ⟨?_, ?_⟩ <;> first | assumption | omega | (subst_vars; omega) | trivial
-- post2 @109
theorem v_buildNumber_15 (σ : RS) (k0 : Int32) (x2 : Int64) (y4 : Int32) (y5 : Int64) (x23 : Int64) (x24 : Int32) (y26 : Int32) (y27 : Int64) (F28 : (Nat → Int32)) (n29 : Int32) (hpre_0 : 0 ≤ (σ.1 59).toInt) (hpre_1 : (σ.1 59).toInt ≤ 48) (c1 : 0 ≤ k0.toInt) (ex2 : x2 = Int32.toInt64 k0) (tx2 : x2.toInt = k0.toInt) (c3 : 0 ≤ k0.toInt) (hi29_0 : 0 ≤ y4.toInt) (hi29_1 : y4.toInt ≤ 10) (hi29y : ∃ e9 : Nat, (e9 : Int) = y4.toInt ∧ y5.toInt = ((10 ^ e9 : Nat) : Int) ∧ e9 ≤ 10 ∧ (e9 = 0 ∨ 10 ^ e9 ≤ k0.toInt.natAbs)) (c6 : y4.toInt < 10) (ex23 : x23 = y5 * (10 : Int64)) (tx24 : (x24.toInt = 0 ↔ x23.toInt = x2.toInt) ∧ (x24.toInt < 0 ↔ x23.toInt < x2.toInt)) (c25 : 0 < x24.toInt) (hi64_0 : 0 ≤ n29.toInt) (hi64_1 : n29.toInt ≤ 48) (hi64_2 : 0 ≤ y26.toInt) (hi64_3 : y26.toInt ≤ 11) (hi64y : QNL (σ.2.1 58) (σ.1 59) F28 n29 k0.toInt y27.toInt y26.toInt) (c30 : 11 ≤ y26.toInt) : ∀ s9 : List Int, QB (σ.2.1 58) (σ.1 59) s9 → s9.length ≤ 36 → QB F28 n29 (s9 ++ qDec k0.toInt) := by
  have ql10 : (10 : Int64).toInt = 10 := by decide +kernel
  have hr9 : x2.toInt = (k0.toInt.natAbs : Int) := by omega
  have hr8 := Int32.toInt_lt k0
  intro s9 h9 hl
  exact hi64y.fin h9 hl (by omega)
-- post2 @109
theorem v_buildNumber_16 (σ : RS) (k0 : Int32) (x2 : Int64) (y4 : Int32) (y5 : Int64) (x23 : Int64) (x24 : Int32) (y26 : Int32) (y27 : Int64) (F28 : (Nat → Int32)) (n29 : Int32) (x31 : Int32) (hpre_0 : 0 ≤ (σ.1 59).toInt) (hpre_1 : (σ.1 59).toInt ≤ 48) (c1 : 0 ≤ k0.toInt) (ex2 : x2 = Int32.toInt64 k0) (tx2 : x2.toInt = k0.toInt) (c3 : 0 ≤ k0.toInt) (hi29_0 : 0 ≤ y4.toInt) (hi29_1 : y4.toInt ≤ 10) (hi29y : ∃ e9 : Nat, (e9 : Int) = y4.toInt ∧ y5.toInt = ((10 ^ e9 : Nat) : Int) ∧ e9 ≤ 10 ∧ (e9 = 0 ∨ 10 ^ e9 ≤ k0.toInt.natAbs)) (c6 : y4.toInt < 10) (ex23 : x23 = y5 * (10 : Int64)) (tx24 : (x24.toInt = 0 ↔ x23.toInt = x2.toInt) ∧ (x24.toInt < 0 ↔ x23.toInt < x2.toInt)) (c25 : 0 < x24.toInt) (hi64_0 : 0 ≤ n29.toInt) (hi64_1 : n29.toInt ≤ 48) (hi64_2 : 0 ≤ y26.toInt) (hi64_3 : y26.toInt ≤ 11) (hi64y : QNL (σ.2.1 58) (σ.1 59) F28 n29 k0.toInt y27.toInt y26.toInt) (c30 : y26.toInt < 11) (tx31 : (x31.toInt = 0 ↔ y27.toInt = 0) ∧ (x31.toInt < 0 ↔ y27.toInt < 0)) (c32 : x31.toInt ≤ 0) : ∀ s9 : List Int, QB (σ.2.1 58) (σ.1 59) s9 → s9.length ≤ 36 → QB F28 n29 (s9 ++ qDec k0.toInt) := by
  have ql10 : (10 : Int64).toInt = 10 := by decide +kernel
  have hr9 : x2.toInt = (k0.toInt.natAbs : Int) := by omega
  have hr8 := Int32.toInt_lt k0
  intro s9 h9 hl
  exact hi64y.fin h9 hl (by omega)
-- div@85 @85
theorem v_buildNumber_17 (y27 : Int64) (x31 : Int32) (tx31 : (x31.toInt = 0 ↔ y27.toInt = 0) ∧ (x31.toInt < 0 ↔ y27.toInt < 0)) (c32 : 0 < x31.toInt) : ¬ y27 = 0 := by
  intro h
  first
  | (have h := congrArg Int64.toInt h; have z9 : (0 : Int64).toInt = 0 := (by decide +kernel); omega)
  | (subst h; first | omega | simp_all)
-- nw@103 @103
theorem v_buildNumber_18 (y26 : Int32) (x41 : Int32) (hi64_2 : 0 ≤ y26.toInt) (hi64_3 : y26.toInt ≤ 11) (c30 : y26.toInt < 11) (ex41 : x41 = y26 + (1 : Int32)) : x41.toInt = y26.toInt + 1 := by
  have q1 : (1 : Int32).toInt = 1 := by decide +kernel
  have z9 : (1 : Int32).toInt = 1 := by decide +kernel
  rw [ex41, z_add (by omega) (by omega)]; first | done | omega
-- inv@64 @64
theorem v_buildNumber_19 (y26 : Int32) (n39 : Int32) (x41 : Int32) (hi64_2 : 0 ≤ y26.toInt) (hi64_3 : y26.toInt ≤ 11) (c30 : y26.toInt < 11) (hr37_0 : 0 ≤ n39.toInt) (hr37_1 : n39.toInt ≤ 48) (ex41 : x41 = y26 + (1 : Int32)) (tx41 : x41.toInt = y26.toInt + 1) : 0 ≤ n39.toInt ∧ n39.toInt ≤ 48 ∧ 0 ≤ x41.toInt ∧ x41.toInt ≤ 11 := by
  have q1 : (1 : Int32).toInt = 1 := by decide +kernel
  refine ⟨?_, ?_, ?_, ?_⟩ <;> first | assumption | omega | (subst_vars; omega) | trivial
-- inv2@64 @64
theorem v_buildNumber_20 (σ : RS) (k0 : Int32) (x2 : Int64) (y4 : Int32) (y5 : Int64) (x23 : Int64) (x24 : Int32) (y26 : Int32) (y27 : Int64) (F28 : (Nat → Int32)) (n29 : Int32) (x31 : Int32) (x33 : Int64) (x34 : Int64) (x35 : Int64) (x36 : Int32) (F38 : (Nat → Int32)) (n39 : Int32) (x40 : Int64) (x41 : Int32) (hpre_0 : 0 ≤ (σ.1 59).toInt) (hpre_1 : (σ.1 59).toInt ≤ 48) (c1 : 0 ≤ k0.toInt) (ex2 : x2 = Int32.toInt64 k0) (tx2 : x2.toInt = k0.toInt) (c3 : 0 ≤ k0.toInt) (hi29_0 : 0 ≤ y4.toInt) (hi29_1 : y4.toInt ≤ 10) (hi29y : ∃ e9 : Nat, (e9 : Int) = y4.toInt ∧ y5.toInt = ((10 ^ e9 : Nat) : Int) ∧ e9 ≤ 10 ∧ (e9 = 0 ∨ 10 ^ e9 ≤ k0.toInt.natAbs)) (c6 : y4.toInt < 10) (ex23 : x23 = y5 * (10 : Int64)) (tx24 : (x24.toInt = 0 ↔ x23.toInt = x2.toInt) ∧ (x24.toInt < 0 ↔ x23.toInt < x2.toInt)) (c25 : 0 < x24.toInt) (hi64_0 : 0 ≤ n29.toInt) (hi64_1 : n29.toInt ≤ 48) (hi64_2 : 0 ≤ y26.toInt) (hi64_3 : y26.toInt ≤ 11) (hi64y : QNL (σ.2.1 58) (σ.1 59) F28 n29 k0.toInt y27.toInt y26.toInt) (c30 : y26.toInt < 11) (tx31 : (x31.toInt = 0 ↔ y27.toInt = 0) ∧ (x31.toInt < 0 ↔ y27.toInt < 0)) (c32 : 0 < x31.toInt) (ex33 : x33 = x2 / y27) (ex34 : x34 = x33 - x33 / (10 : Int64) * (10 : Int64)) (ex35 : x35 = (48 : Int64) + x34) (ex36 : x36 = Int64.toInt32 x35) (tx36 : -2147483648 ≤ x35.toInt → x35.toInt < 2147483648 → x36.toInt = x35.toInt) (hr37y : ∀ s9 : List Int, QB F28 n29 s9 → s9.length < 48 → QB F38 n39 (s9 ++ [x36.toInt])) (hr37_0 : 0 ≤ n39.toInt) (hr37_1 : n39.toInt ≤ 48) (ex40 : x40 = y27 / (10 : Int64)) (ex41 : x41 = y26 + (1 : Int32)) (tx41 : x41.toInt = y26.toInt + 1) : QNL (σ.2.1 58) (σ.1 59) F38 n39 k0.toInt x40.toInt x41.toInt := by
  have q1 : (1 : Int32).toInt = 1 := by decide +kernel
  have ql10 : (10 : Int64).toInt = 10 := by decide +kernel
  have ql48 : (48 : Int64).toInt = 48 := by decide +kernel
  have hr9 : x2.toInt = (k0.toInt.natAbs : Int) := by omega
  have hr8 := Int32.toInt_lt k0
  have u0 : 0 < y27.toInt := by omega
  have q9 : x33.toInt = x2.toInt / y27.toInt := by rw [ex33]; exact q_div (by omega) u0
  have u9 : x40.toInt = y27.toInt / 10 := by rw [ex40]; exact q_div (by omega) (by decide +kernel)
  have qb := hi64y.ub u0 (by omega)
  have qn : 0 ≤ x33.toInt := by rw [q9]; exact Int.ediv_nonneg (by omega) (by omega)
  have m9 : x34.toInt = x33.toInt % 10 := by rw [ex34]; exact q_mod10 qn
  have a9 : x35.toInt = 48 + x33.toInt % 10 := by rw [ex35, zl_add (by omega) (by omega), m9, show (48 : Int64).toInt = 48 by decide +kernel]
  have i9 := tx36 (by omega) (by omega)
  refine hi64y.step (u2 := x40.toInt) (d := x36.toInt) u0 (by omega) (by omega) (by omega) u9 (by rw [i9, a9, q9, hr9]) hr37y
-- meas@64 @64
theorem v_buildNumber_21 (y26 : Int32) (x41 : Int32) (hi64_2 : 0 ≤ y26.toInt) (hi64_3 : y26.toInt ≤ 11) (c30 : y26.toInt < 11) (ex41 : x41 = y26 + (1 : Int32)) (tx41 : x41.toInt = y26.toInt + 1) : (11 - x41.toInt).toNat < (11 - y26.toInt).toNat := by
  have q1 : (1 : Int32).toInt = 1 := by decide +kernel
  first | assumption | omega | (subst_vars; omega) | trivial
-- nw@55 @55
theorem v_buildNumber_22 (y4 : Int32) (x43 : Int32) (hi29_0 : 0 ≤ y4.toInt) (hi29_1 : y4.toInt ≤ 10) (c6 : y4.toInt < 10) (ex43 : x43 = y4 + (1 : Int32)) : x43.toInt = y4.toInt + 1 := by
  have q1 : (1 : Int32).toInt = 1 := by decide +kernel
  have z9 : (1 : Int32).toInt = 1 := by decide +kernel
  rw [ex43, z_add (by omega) (by omega)]; first | done | omega
-- inv@29 @29
theorem v_buildNumber_23 (y4 : Int32) (x43 : Int32) (hi29_0 : 0 ≤ y4.toInt) (hi29_1 : y4.toInt ≤ 10) (c6 : y4.toInt < 10) (ex43 : x43 = y4 + (1 : Int32)) (tx43 : x43.toInt = y4.toInt + 1) : 0 ≤ x43.toInt ∧ x43.toInt ≤ 10 := by
  have q1 : (1 : Int32).toInt = 1 := by decide +kernel
  refine ⟨?_, ?_⟩ <;> first | assumption | omega | (subst_vars; omega) | trivial
-- inv2@29 @29
theorem v_buildNumber_24 (σ : RS) (k0 : Int32) (x2 : Int64) (y4 : Int32) (y5 : Int64) (x23 : Int64) (x24 : Int32) (x42 : Int64) (x43 : Int32) (hpre_0 : 0 ≤ (σ.1 59).toInt) (hpre_1 : (σ.1 59).toInt ≤ 48) (c1 : 0 ≤ k0.toInt) (ex2 : x2 = Int32.toInt64 k0) (tx2 : x2.toInt = k0.toInt) (c3 : 0 ≤ k0.toInt) (hi29_0 : 0 ≤ y4.toInt) (hi29_1 : y4.toInt ≤ 10) (hi29y : ∃ e9 : Nat, (e9 : Int) = y4.toInt ∧ y5.toInt = ((10 ^ e9 : Nat) : Int) ∧ e9 ≤ 10 ∧ (e9 = 0 ∨ 10 ^ e9 ≤ k0.toInt.natAbs)) (c6 : y4.toInt < 10) (ex23 : x23 = y5 * (10 : Int64)) (tx24 : (x24.toInt = 0 ↔ x23.toInt = x2.toInt) ∧ (x24.toInt < 0 ↔ x23.toInt < x2.toInt)) (c25 : x24.toInt ≤ 0) (ex42 : x42 = y5 * (10 : Int64)) (ex43 : x43 = y4 + (1 : Int32)) (tx43 : x43.toInt = y4.toInt + 1) : ∃ e9 : Nat, (e9 : Int) = x43.toInt ∧ x42.toInt = ((10 ^ e9 : Nat) : Int) ∧ e9 ≤ 10 ∧ (e9 = 0 ∨ 10 ^ e9 ≤ k0.toInt.natAbs) := by
  have q1 : (1 : Int32).toInt = 1 := by decide +kernel
  have ql10 : (10 : Int64).toInt = 10 := by decide +kernel
  have hr9 : x2.toInt = (k0.toInt.natAbs : Int) := by omega
  have hr8 := Int32.toInt_lt k0
  obtain ⟨e9, g1, g2, g3, g4⟩ := hi29y
  have gb := q_p10 g3
  have x239 : x23.toInt = 10 * y5.toInt := by rw [ex23]; exact q_mul10 (by omega) (by omega)
  have x429 : x42.toInt = 10 * y5.toInt := by rw [ex42]; exact q_mul10 (by omega) (by omega)
  refine ⟨e9 + 1, by omega, by rw [Nat.pow_succ]; omega, by omega, Or.inr (by rw [Nat.pow_succ]; omega)⟩
-- meas@29 @29
theorem v_buildNumber_25 (y4 : Int32) (x43 : Int32) (hi29_0 : 0 ≤ y4.toInt) (hi29_1 : y4.toInt ≤ 10) (c6 : y4.toInt < 10) (ex43 : x43 = y4 + (1 : Int32)) (tx43 : x43.toInt = y4.toInt + 1) : (10 - x43.toInt).toNat < (10 - y4.toInt).toNat := by
  have q1 : (1 : Int32).toInt = 1 := by decide +kernel
  first | assumption | omega | (subst_vars; omega) | trivial
-- dead@14 @17
theorem v_buildNumber_26 (k0 : Int32) (x2 : Int64) (c1 : 0 ≤ k0.toInt) (ex2 : x2 = Int32.toInt64 k0) (tx2 : x2.toInt = k0.toInt) (c3 : k0.toInt < 0) : False := by
  first | assumption | omega | (subst_vars; omega) | trivial
-- dead@14 @23
theorem v_buildNumber_27 (k0 : Int32) (x44 : Int64) (c1 : k0.toInt < 0) (ex44 : x44 = Int32.toInt64 k0) (tx44 : x44.toInt = k0.toInt) (c46 : 0 ≤ k0.toInt) : False := by
  first | assumption | omega | (subst_vars; omega) | trivial
-- pre:build@20 @20
theorem v_buildNumber_28 (σ : RS) (hpre_0 : 0 ≤ (σ.1 59).toInt) (hpre_1 : (σ.1 59).toInt ≤ 48) : 0 ≤ (σ.1 59).toInt ∧ (σ.1 59).toInt ≤ 48 := by
  refine ⟨?_, ?_⟩ <;> first | assumption | omega | (subst_vars; omega) | trivial
-- init2@29 @29
theorem v_buildNumber_29 (σ : RS) (k0 : Int32) (x44 : Int64) (x45 : Int64) (F48 : (Nat → Int32)) (n49 : Int32) (hpre_0 : 0 ≤ (σ.1 59).toInt) (hpre_1 : (σ.1 59).toInt ≤ 48) (c1 : k0.toInt < 0) (ex44 : x44 = Int32.toInt64 k0) (tx44 : x44.toInt = k0.toInt) (ex45 : x45 = -x44) (c46 : k0.toInt < 0) (hr47y : ∀ s9 : List Int, QB (σ.2.1 58) (σ.1 59) s9 → s9.length < 48 → QB F48 n49 (s9 ++ [(45 : Int32).toInt])) (hr47_0 : 0 ≤ n49.toInt) (hr47_1 : n49.toInt ≤ 48) : ∃ e9 : Nat, (e9 : Int) = (0 : Int32).toInt ∧ (1 : Int64).toInt = ((10 ^ e9 : Nat) : Int) ∧ e9 ≤ 10 ∧ (e9 = 0 ∨ 10 ^ e9 ≤ k0.toInt.natAbs) := by
  have q0 : (0 : Int32).toInt = 0 := by decide +kernel
  have q45 : (45 : Int32).toInt = 45 := by decide +kernel
  have ql1 : (1 : Int64).toInt = 1 := by decide +kernel
  first
  | exact ⟨0, by omega, by show (1 : Int64).toInt = _; decide +kernel, by omega, Or.inl rfl⟩
-- init@64 @64
theorem v_buildNumber_30 (n49 : Int32) (hr47_0 : 0 ≤ n49.toInt) (hr47_1 : n49.toInt ≤ 48) : 0 ≤ n49.toInt ∧ n49.toInt ≤ 48 ∧ 0 ≤ (0 : Int32).toInt ∧ (0 : Int32).toInt ≤ 11 := by
  have q0 : (0 : Int32).toInt = 0 := by decide +kernel
  refine ⟨?_, ?_, ?_, ?_⟩ <;> first | assumption | omega | (subst_vars; omega) | trivial
-- init2@64 @64
theorem v_buildNumber_31 (σ : RS) (k0 : Int32) (x44 : Int64) (x45 : Int64) (F48 : (Nat → Int32)) (n49 : Int32) (y50 : Int32) (y51 : Int64) (hpre_0 : 0 ≤ (σ.1 59).toInt) (hpre_1 : (σ.1 59).toInt ≤ 48) (c1 : k0.toInt < 0) (ex44 : x44 = Int32.toInt64 k0) (tx44 : x44.toInt = k0.toInt) (ex45 : x45 = -x44) (c46 : k0.toInt < 0) (hr47y : ∀ s9 : List Int, QB (σ.2.1 58) (σ.1 59) s9 → s9.length < 48 → QB F48 n49 (s9 ++ [(45 : Int32).toInt])) (hr47_0 : 0 ≤ n49.toInt) (hr47_1 : n49.toInt ≤ 48) (hi29_0 : 0 ≤ y50.toInt) (hi29_1 : y50.toInt ≤ 10) (hi29y : ∃ e9 : Nat, (e9 : Int) = y50.toInt ∧ y51.toInt = ((10 ^ e9 : Nat) : Int) ∧ e9 ≤ 10 ∧ (e9 = 0 ∨ 10 ^ e9 ≤ k0.toInt.natAbs)) (c52 : 10 ≤ y50.toInt) : QNL (σ.2.1 58) (σ.1 59) F48 n49 k0.toInt y51.toInt (0 : Int32).toInt := by
  have q0 : (0 : Int32).toInt = 0 := by decide +kernel
  have q45 : (45 : Int32).toInt = 45 := by decide +kernel
  have hr9 : x45.toInt = (k0.toInt.natAbs : Int) := by rw [ex45, q_neg64 (by have := Int32.le_toInt k0; omega)]; omega
  have hr8 := Int32.le_toInt k0
  obtain ⟨e9, g1, g2, g3, g4⟩ := hi29y
  have gb := q_p10 g3
  have gx : e9 = 10 → (10 : Nat) ^ e9 = 10000000000 := fun h => by rw [h]
  refine QNL.start (e := e9) g2 (by omega) g4 (by rw [Nat.pow_succ]; rcases g4 with g4 | g4 <;> first | omega | (subst g4; omega)) ?_
  intro s9 h9 hl
  have a0 := hr47y _ h9 (by omega)
  rw [if_pos (by omega)]; exact a0
-- post @109
theorem v_buildNumber_32 (n56 : Int32) (hi64_0 : 0 ≤ n56.toInt) (hi64_1 : n56.toInt ≤ 48) : 0 ≤ n56.toInt ∧ n56.toInt ≤ 48 := by
  refine ⟨?_, ?_⟩ <;> first | assumption | omega | (subst_vars; omega) | trivial
-- post2 @109
theorem v_buildNumber_33 (σ : RS) (k0 : Int32) (x44 : Int64) (x45 : Int64) (F48 : (Nat → Int32)) (n49 : Int32) (y50 : Int32) (y51 : Int64) (y53 : Int32) (y54 : Int64) (F55 : (Nat → Int32)) (n56 : Int32) (hpre_0 : 0 ≤ (σ.1 59).toInt) (hpre_1 : (σ.1 59).toInt ≤ 48) (c1 : k0.toInt < 0) (ex44 : x44 = Int32.toInt64 k0) (tx44 : x44.toInt = k0.toInt) (ex45 : x45 = -x44) (c46 : k0.toInt < 0) (hr47y : ∀ s9 : List Int, QB (σ.2.1 58) (σ.1 59) s9 → s9.length < 48 → QB F48 n49 (s9 ++ [(45 : Int32).toInt])) (hr47_0 : 0 ≤ n49.toInt) (hr47_1 : n49.toInt ≤ 48) (hi29_0 : 0 ≤ y50.toInt) (hi29_1 : y50.toInt ≤ 10) (hi29y : ∃ e9 : Nat, (e9 : Int) = y50.toInt ∧ y51.toInt = ((10 ^ e9 : Nat) : Int) ∧ e9 ≤ 10 ∧ (e9 = 0 ∨ 10 ^ e9 ≤ k0.toInt.natAbs)) (c52 : 10 ≤ y50.toInt) (hi64_0 : 0 ≤ n56.toInt) (hi64_1 : n56.toInt ≤ 48) (hi64_2 : 0 ≤ y53.toInt) (hi64_3 : y53.toInt ≤ 11) (hi64y : QNL (σ.2.1 58) (σ.1 59) F55 n56 k0.toInt y54.toInt y53.toInt) (c57 : 11 ≤ y53.toInt) : ∀ s9 : List Int, QB (σ.2.1 58) (σ.1 59) s9 → s9.length ≤ 36 → QB F55 n56 (s9 ++ qDec k0.toInt) := by
  have q45 : (45 : Int32).toInt = 45 := by decide +kernel
  have hr9 : x45.toInt = (k0.toInt.natAbs : Int) := by rw [ex45, q_neg64 (by have := Int32.le_toInt k0; omega)]; omega
  have hr8 := Int32.le_toInt k0
  intro s9 h9 hl
  exact hi64y.fin h9 hl (by omega)
-- post2 @109
theorem v_buildNumber_34 (σ : RS) (k0 : Int32) (x44 : Int64) (x45 : Int64) (F48 : (Nat → Int32)) (n49 : Int32) (y50 : Int32) (y51 : Int64) (y53 : Int32) (y54 : Int64) (F55 : (Nat → Int32)) (n56 : Int32) (x58 : Int32) (hpre_0 : 0 ≤ (σ.1 59).toInt) (hpre_1 : (σ.1 59).toInt ≤ 48) (c1 : k0.toInt < 0) (ex44 : x44 = Int32.toInt64 k0) (tx44 : x44.toInt = k0.toInt) (ex45 : x45 = -x44) (c46 : k0.toInt < 0) (hr47y : ∀ s9 : List Int, QB (σ.2.1 58) (σ.1 59) s9 → s9.length < 48 → QB F48 n49 (s9 ++ [(45 : Int32).toInt])) (hr47_0 : 0 ≤ n49.toInt) (hr47_1 : n49.toInt ≤ 48) (hi29_0 : 0 ≤ y50.toInt) (hi29_1 : y50.toInt ≤ 10) (hi29y : ∃ e9 : Nat, (e9 : Int) = y50.toInt ∧ y51.toInt = ((10 ^ e9 : Nat) : Int) ∧ e9 ≤ 10 ∧ (e9 = 0 ∨ 10 ^ e9 ≤ k0.toInt.natAbs)) (c52 : 10 ≤ y50.toInt) (hi64_0 : 0 ≤ n56.toInt) (hi64_1 : n56.toInt ≤ 48) (hi64_2 : 0 ≤ y53.toInt) (hi64_3 : y53.toInt ≤ 11) (hi64y : QNL (σ.2.1 58) (σ.1 59) F55 n56 k0.toInt y54.toInt y53.toInt) (c57 : y53.toInt < 11) (tx58 : (x58.toInt = 0 ↔ y54.toInt = 0) ∧ (x58.toInt < 0 ↔ y54.toInt < 0)) (c59 : x58.toInt ≤ 0) : ∀ s9 : List Int, QB (σ.2.1 58) (σ.1 59) s9 → s9.length ≤ 36 → QB F55 n56 (s9 ++ qDec k0.toInt) := by
  have q45 : (45 : Int32).toInt = 45 := by decide +kernel
  have hr9 : x45.toInt = (k0.toInt.natAbs : Int) := by rw [ex45, q_neg64 (by have := Int32.le_toInt k0; omega)]; omega
  have hr8 := Int32.le_toInt k0
  intro s9 h9 hl
  exact hi64y.fin h9 hl (by omega)
-- div@85 @85
theorem v_buildNumber_35 (y54 : Int64) (x58 : Int32) (tx58 : (x58.toInt = 0 ↔ y54.toInt = 0) ∧ (x58.toInt < 0 ↔ y54.toInt < 0)) (c59 : 0 < x58.toInt) : ¬ y54 = 0 := by
  intro h
  first
  | (have h := congrArg Int64.toInt h; have z9 : (0 : Int64).toInt = 0 := (by decide +kernel); omega)
  | (subst h; first | omega | simp_all)
-- nw@103 @103
theorem v_buildNumber_36 (y53 : Int32) (x68 : Int32) (hi64_2 : 0 ≤ y53.toInt) (hi64_3 : y53.toInt ≤ 11) (c57 : y53.toInt < 11) (ex68 : x68 = y53 + (1 : Int32)) : x68.toInt = y53.toInt + 1 := by
  have q1 : (1 : Int32).toInt = 1 := by decide +kernel
  have z9 : (1 : Int32).toInt = 1 := by decide +kernel
  rw [ex68, z_add (by omega) (by omega)]; first | done | omega
-- inv@64 @64
theorem v_buildNumber_37 (y53 : Int32) (n66 : Int32) (x68 : Int32) (hi64_2 : 0 ≤ y53.toInt) (hi64_3 : y53.toInt ≤ 11) (c57 : y53.toInt < 11) (hr64_0 : 0 ≤ n66.toInt) (hr64_1 : n66.toInt ≤ 48) (ex68 : x68 = y53 + (1 : Int32)) (tx68 : x68.toInt = y53.toInt + 1) : 0 ≤ n66.toInt ∧ n66.toInt ≤ 48 ∧ 0 ≤ x68.toInt ∧ x68.toInt ≤ 11 := by
  have q1 : (1 : Int32).toInt = 1 := by decide +kernel
  refine ⟨?_, ?_, ?_, ?_⟩ <;> first | assumption | omega | (subst_vars; omega) | trivial
-- inv2@64 @64
theorem v_buildNumber_38 (σ : RS) (k0 : Int32) (x44 : Int64) (x45 : Int64) (F48 : (Nat → Int32)) (n49 : Int32) (y50 : Int32) (y51 : Int64) (y53 : Int32) (y54 : Int64) (F55 : (Nat → Int32)) (n56 : Int32) (x58 : Int32) (x60 : Int64) (x61 : Int64) (x62 : Int64) (x63 : Int32) (F65 : (Nat → Int32)) (n66 : Int32) (x67 : Int64) (x68 : Int32) (hpre_0 : 0 ≤ (σ.1 59).toInt) (hpre_1 : (σ.1 59).toInt ≤ 48) (c1 : k0.toInt < 0) (ex44 : x44 = Int32.toInt64 k0) (tx44 : x44.toInt = k0.toInt) (ex45 : x45 = -x44) (c46 : k0.toInt < 0) (hr47y : ∀ s9 : List Int, QB (σ.2.1 58) (σ.1 59) s9 → s9.length < 48 → QB F48 n49 (s9 ++ [(45 : Int32).toInt])) (hr47_0 : 0 ≤ n49.toInt) (hr47_1 : n49.toInt ≤ 48) (hi29_0 : 0 ≤ y50.toInt) (hi29_1 : y50.toInt ≤ 10) (hi29y : ∃ e9 : Nat, (e9 : Int) = y50.toInt ∧ y51.toInt = ((10 ^ e9 : Nat) : Int) ∧ e9 ≤ 10 ∧ (e9 = 0 ∨ 10 ^ e9 ≤ k0.toInt.natAbs)) (c52 : 10 ≤ y50.toInt) (hi64_0 : 0 ≤ n56.toInt) (hi64_1 : n56.toInt ≤ 48) (hi64_2 : 0 ≤ y53.toInt) (hi64_3 : y53.toInt ≤ 11) (hi64y : QNL (σ.2.1 58) (σ.1 59) F55 n56 k0.toInt y54.toInt y53.toInt) (c57 : y53.toInt < 11) (tx58 : (x58.toInt = 0 ↔ y54.toInt = 0) ∧ (x58.toInt < 0 ↔ y54.toInt < 0)) (c59 : 0 < x58.toInt) (ex60 : x60 = x45 / y54) (ex61 : x61 = x60 - x60 / (10 : Int64) * (10 : Int64)) (ex62 : x62 = (48 : Int64) + x61) (ex63 : x63 = Int64.toInt32 x62) (tx63 : -2147483648 ≤ x62.toInt → x62.toInt < 2147483648 → x63.toInt = x62.toInt) (hr64y : ∀ s9 : List Int, QB F55 n56 s9 → s9.length < 48 → QB F65 n66 (s9 ++ [x63.toInt])) (hr64_0 : 0 ≤ n66.toInt) (hr64_1 : n66.toInt ≤ 48) (ex67 : x67 = y54 / (10 : Int64)) (ex68 : x68 = y53 + (1 : Int32)) (tx68 : x68.toInt = y53.toInt + 1) : QNL (σ.2.1 58) (σ.1 59) F65 n66 k0.toInt x67.toInt x68.toInt := by
  have q1 : (1 : Int32).toInt = 1 := by decide +kernel
  have q45 : (45 : Int32).toInt = 45 := by decide +kernel
  have ql10 : (10 : Int64).toInt = 10 := by decide +kernel
  have ql48 : (48 : Int64).toInt = 48 := by decide +kernel
  have hr9 : x45.toInt = (k0.toInt.natAbs : Int) := by rw [ex45, q_neg64 (by have := Int32.le_toInt k0; omega)]; omega
  have hr8 := Int32.le_toInt k0
  have u0 : 0 < y54.toInt := by omega
  have q9 : x60.toInt = x45.toInt / y54.toInt := by rw [ex60]; exact q_div (by omega) u0
  have u9 : x67.toInt = y54.toInt / 10 := by rw [ex67]; exact q_div (by omega) (by decide +kernel)
  have qb := hi64y.ub u0 (by omega)
  have qn : 0 ≤ x60.toInt := by rw [q9]; exact Int.ediv_nonneg (by omega) (by omega)
  have m9 : x61.toInt = x60.toInt % 10 := by rw [ex61]; exact q_mod10 qn
  have a9 : x62.toInt = 48 + x60.toInt % 10 := by rw [ex62, zl_add (by omega) (by omega), m9, show (48 : Int64).toInt = 48 by decide +kernel]
  have i9 := tx63 (by omega) (by omega)
  refine hi64y.step (u2 := x67.toInt) (d := x63.toInt) u0 (by omega) (by omega) (by omega) u9 (by rw [i9, a9, q9, hr9]) hr64y
-- meas@64 @64
theorem v_buildNumber_39 (y53 : Int32) (x68 : Int32) (hi64_2 : 0 ≤ y53.toInt) (hi64_3 : y53.toInt ≤ 11) (c57 : y53.toInt < 11) (ex68 : x68 = y53 + (1 : Int32)) (tx68 : x68.toInt = y53.toInt + 1) : (11 - x68.toInt).toNat < (11 - y53.toInt).toNat := by
  have q1 : (1 : Int32).toInt = 1 := by decide +kernel
  first | assumption | omega | (subst_vars; omega) | trivial
-- init2@64 @64
theorem v_buildNumber_40 (σ : RS) (k0 : Int32) (x44 : Int64) (x45 : Int64) (F48 : (Nat → Int32)) (n49 : Int32) (y50 : Int32) (y51 : Int64) (x69 : Int64) (x70 : Int32) (hpre_0 : 0 ≤ (σ.1 59).toInt) (hpre_1 : (σ.1 59).toInt ≤ 48) (c1 : k0.toInt < 0) (ex44 : x44 = Int32.toInt64 k0) (tx44 : x44.toInt = k0.toInt) (ex45 : x45 = -x44) (c46 : k0.toInt < 0) (hr47y : ∀ s9 : List Int, QB (σ.2.1 58) (σ.1 59) s9 → s9.length < 48 → QB F48 n49 (s9 ++ [(45 : Int32).toInt])) (hr47_0 : 0 ≤ n49.toInt) (hr47_1 : n49.toInt ≤ 48) (hi29_0 : 0 ≤ y50.toInt) (hi29_1 : y50.toInt ≤ 10) (hi29y : ∃ e9 : Nat, (e9 : Int) = y50.toInt ∧ y51.toInt = ((10 ^ e9 : Nat) : Int) ∧ e9 ≤ 10 ∧ (e9 = 0 ∨ 10 ^ e9 ≤ k0.toInt.natAbs)) (c52 : y50.toInt < 10) (ex69 : x69 = y51 * (10 : Int64)) (tx70 : (x70.toInt = 0 ↔ x69.toInt = x45.toInt) ∧ (x70.toInt < 0 ↔ x69.toInt < x45.toInt)) (c71 : 0 < x70.toInt) : QNL (σ.2.1 58) (σ.1 59) F48 n49 k0.toInt y51.toInt (0 : Int32).toInt := by
  have q0 : (0 : Int32).toInt = 0 := by decide +kernel
  have q45 : (45 : Int32).toInt = 45 := by decide +kernel
  have ql10 : (10 : Int64).toInt = 10 := by decide +kernel
  have hr9 : x45.toInt = (k0.toInt.natAbs : Int) := by rw [ex45, q_neg64 (by have := Int32.le_toInt k0; omega)]; omega
  have hr8 := Int32.le_toInt k0
  obtain ⟨e9, g1, g2, g3, g4⟩ := hi29y
  have gb := q_p10 g3
  have x699 : x69.toInt = 10 * y51.toInt := by rw [ex69]; exact q_mul10 (by omega) (by omega)
  have gx : e9 = 10 → (10 : Nat) ^ e9 = 10000000000 := fun h => by rw [h]
  refine QNL.start (e := e9) g2 (by omega) g4 (by rw [Nat.pow_succ]; rcases g4 with g4 | g4 <;> first | omega | (subst g4; omega)) ?_
  intro s9 h9 hl
  have a0 := hr47y _ h9 (by omega)
  rw [if_pos (by omega)]; exact a0
-- post @109
theorem v_buildNumber_41 (n75 : Int32) (hi64_0 : 0 ≤ n75.toInt) (hi64_1 : n75.toInt ≤ 48) : 0 ≤ n75.toInt ∧ n75.toInt ≤ 48 := by
  refine ⟨?_, ?_⟩ <;> first | assumption | omega | (subst_vars; omega) | trivial
-- post2 @109
theorem v_buildNumber_42 (σ : RS) (k0 : Int32) (x44 : Int64) (x45 : Int64) (F48 : (Nat → Int32)) (n49 : Int32) (y50 : Int32) (y51 : Int64) (x69 : Int64) (x70 : Int32) (y72 : Int32) (y73 : Int64) (F74 : (Nat → Int32)) (n75 : Int32) (hpre_0 : 0 ≤ (σ.1 59).toInt) (hpre_1 : (σ.1 59).toInt ≤ 48) (c1 : k0.toInt < 0) (ex44 : x44 = Int32.toInt64 k0) (tx44 : x44.toInt = k0.toInt) (ex45 : x45 = -x44) (c46 : k0.toInt < 0) (hr47y : ∀ s9 : List Int, QB (σ.2.1 58) (σ.1 59) s9 → s9.length < 48 → QB F48 n49 (s9 ++ [(45 : Int32).toInt])) (hr47_0 : 0 ≤ n49.toInt) (hr47_1 : n49.toInt ≤ 48) (hi29_0 : 0 ≤ y50.toInt) (hi29_1 : y50.toInt ≤ 10) (hi29y : ∃ e9 : Nat, (e9 : Int) = y50.toInt ∧ y51.toInt = ((10 ^ e9 : Nat) : Int) ∧ e9 ≤ 10 ∧ (e9 = 0 ∨ 10 ^ e9 ≤ k0.toInt.natAbs)) (c52 : y50.toInt < 10) (ex69 : x69 = y51 * (10 : Int64)) (tx70 : (x70.toInt = 0 ↔ x69.toInt = x45.toInt) ∧ (x70.toInt < 0 ↔ x69.toInt < x45.toInt)) (c71 : 0 < x70.toInt) (hi64_0 : 0 ≤ n75.toInt) (hi64_1 : n75.toInt ≤ 48) (hi64_2 : 0 ≤ y72.toInt) (hi64_3 : y72.toInt ≤ 11) (hi64y : QNL (σ.2.1 58) (σ.1 59) F74 n75 k0.toInt y73.toInt y72.toInt) (c76 : 11 ≤ y72.toInt) : ∀ s9 : List Int, QB (σ.2.1 58) (σ.1 59) s9 → s9.length ≤ 36 → QB F74 n75 (s9 ++ qDec k0.toInt) := by
  have q45 : (45 : Int32).toInt = 45 := by decide +kernel
  have ql10 : (10 : Int64).toInt = 10 := by decide +kernel
  have hr9 : x45.toInt = (k0.toInt.natAbs : Int) := by rw [ex45, q_neg64 (by have := Int32.le_toInt k0; omega)]; omega
  have hr8 := Int32.le_toInt k0
  intro s9 h9 hl
  exact hi64y.fin h9 hl (by omega)
-- post2 @109
theorem v_buildNumber_43 (σ : RS) (k0 : Int32) (x44 : Int64) (x45 : Int64) (F48 : (Nat → Int32)) (n49 : Int32) (y50 : Int32) (y51 : Int64) (x69 : Int64) (x70 : Int32) (y72 : Int32) (y73 : Int64) (F74 : (Nat → Int32)) (n75 : Int32) (x77 : Int32) (hpre_0 : 0 ≤ (σ.1 59).toInt) (hpre_1 : (σ.1 59).toInt ≤ 48) (c1 : k0.toInt < 0) (ex44 : x44 = Int32.toInt64 k0) (tx44 : x44.toInt = k0.toInt) (ex45 : x45 = -x44) (c46 : k0.toInt < 0) (hr47y : ∀ s9 : List Int, QB (σ.2.1 58) (σ.1 59) s9 → s9.length < 48 → QB F48 n49 (s9 ++ [(45 : Int32).toInt])) (hr47_0 : 0 ≤ n49.toInt) (hr47_1 : n49.toInt ≤ 48) (hi29_0 : 0 ≤ y50.toInt) (hi29_1 : y50.toInt ≤ 10) (hi29y : ∃ e9 : Nat, (e9 : Int) = y50.toInt ∧ y51.toInt = ((10 ^ e9 : Nat) : Int) ∧ e9 ≤ 10 ∧ (e9 = 0 ∨ 10 ^ e9 ≤ k0.toInt.natAbs)) (c52 : y50.toInt < 10) (ex69 : x69 = y51 * (10 : Int64)) (tx70 : (x70.toInt = 0 ↔ x69.toInt = x45.toInt) ∧ (x70.toInt < 0 ↔ x69.toInt < x45.toInt)) (c71 : 0 < x70.toInt) (hi64_0 : 0 ≤ n75.toInt) (hi64_1 : n75.toInt ≤ 48) (hi64_2 : 0 ≤ y72.toInt) (hi64_3 : y72.toInt ≤ 11) (hi64y : QNL (σ.2.1 58) (σ.1 59) F74 n75 k0.toInt y73.toInt y72.toInt) (c76 : y72.toInt < 11) (tx77 : (x77.toInt = 0 ↔ y73.toInt = 0) ∧ (x77.toInt < 0 ↔ y73.toInt < 0)) (c78 : x77.toInt ≤ 0) : ∀ s9 : List Int, QB (σ.2.1 58) (σ.1 59) s9 → s9.length ≤ 36 → QB F74 n75 (s9 ++ qDec k0.toInt) := by
  have q45 : (45 : Int32).toInt = 45 := by decide +kernel
  have ql10 : (10 : Int64).toInt = 10 := by decide +kernel
  have hr9 : x45.toInt = (k0.toInt.natAbs : Int) := by rw [ex45, q_neg64 (by have := Int32.le_toInt k0; omega)]; omega
  have hr8 := Int32.le_toInt k0
  intro s9 h9 hl
  exact hi64y.fin h9 hl (by omega)
-- div@85 @85
theorem v_buildNumber_44 (y73 : Int64) (x77 : Int32) (tx77 : (x77.toInt = 0 ↔ y73.toInt = 0) ∧ (x77.toInt < 0 ↔ y73.toInt < 0)) (c78 : 0 < x77.toInt) : ¬ y73 = 0 := by
  intro h
  first
  | (have h := congrArg Int64.toInt h; have z9 : (0 : Int64).toInt = 0 := (by decide +kernel); omega)
  | (subst h; first | omega | simp_all)
-- nw@103 @103
theorem v_buildNumber_45 (y72 : Int32) (x87 : Int32) (hi64_2 : 0 ≤ y72.toInt) (hi64_3 : y72.toInt ≤ 11) (c76 : y72.toInt < 11) (ex87 : x87 = y72 + (1 : Int32)) : x87.toInt = y72.toInt + 1 := by
  have q1 : (1 : Int32).toInt = 1 := by decide +kernel
  have z9 : (1 : Int32).toInt = 1 := by decide +kernel
  rw [ex87, z_add (by omega) (by omega)]; first | done | omega
-- inv@64 @64
theorem v_buildNumber_46 (y72 : Int32) (n85 : Int32) (x87 : Int32) (hi64_2 : 0 ≤ y72.toInt) (hi64_3 : y72.toInt ≤ 11) (c76 : y72.toInt < 11) (hr83_0 : 0 ≤ n85.toInt) (hr83_1 : n85.toInt ≤ 48) (ex87 : x87 = y72 + (1 : Int32)) (tx87 : x87.toInt = y72.toInt + 1) : 0 ≤ n85.toInt ∧ n85.toInt ≤ 48 ∧ 0 ≤ x87.toInt ∧ x87.toInt ≤ 11 := by
  have q1 : (1 : Int32).toInt = 1 := by decide +kernel
  refine ⟨?_, ?_, ?_, ?_⟩ <;> first | assumption | omega | (subst_vars; omega) | trivial
-- inv2@64 @64
theorem v_buildNumber_47 (σ : RS) (k0 : Int32) (x44 : Int64) (x45 : Int64) (F48 : (Nat → Int32)) (n49 : Int32) (y50 : Int32) (y51 : Int64) (x69 : Int64) (x70 : Int32) (y72 : Int32) (y73 : Int64) (F74 : (Nat → Int32)) (n75 : Int32) (x77 : Int32) (x79 : Int64) (x80 : Int64) (x81 : Int64) (x82 : Int32) (F84 : (Nat → Int32)) (n85 : Int32) (x86 : Int64) (x87 : Int32) (hpre_0 : 0 ≤ (σ.1 59).toInt) (hpre_1 : (σ.1 59).toInt ≤ 48) (c1 : k0.toInt < 0) (ex44 : x44 = Int32.toInt64 k0) (tx44 : x44.toInt = k0.toInt) (ex45 : x45 = -x44) (c46 : k0.toInt < 0) (hr47y : ∀ s9 : List Int, QB (σ.2.1 58) (σ.1 59) s9 → s9.length < 48 → QB F48 n49 (s9 ++ [(45 : Int32).toInt])) (hr47_0 : 0 ≤ n49.toInt) (hr47_1 : n49.toInt ≤ 48) (hi29_0 : 0 ≤ y50.toInt) (hi29_1 : y50.toInt ≤ 10) (hi29y : ∃ e9 : Nat, (e9 : Int) = y50.toInt ∧ y51.toInt = ((10 ^ e9 : Nat) : Int) ∧ e9 ≤ 10 ∧ (e9 = 0 ∨ 10 ^ e9 ≤ k0.toInt.natAbs)) (c52 : y50.toInt < 10) (ex69 : x69 = y51 * (10 : Int64)) (tx70 : (x70.toInt = 0 ↔ x69.toInt = x45.toInt) ∧ (x70.toInt < 0 ↔ x69.toInt < x45.toInt)) (c71 : 0 < x70.toInt) (hi64_0 : 0 ≤ n75.toInt) (hi64_1 : n75.toInt ≤ 48) (hi64_2 : 0 ≤ y72.toInt) (hi64_3 : y72.toInt ≤ 11) (hi64y : QNL (σ.2.1 58) (σ.1 59) F74 n75 k0.toInt y73.toInt y72.toInt) (c76 : y72.toInt < 11) (tx77 : (x77.toInt = 0 ↔ y73.toInt = 0) ∧ (x77.toInt < 0 ↔ y73.toInt < 0)) (c78 : 0 < x77.toInt) (ex79 : x79 = x45 / y73) (ex80 : x80 = x79 - x79 / (10 : Int64) * (10 : Int64)) (ex81 : x81 = (48 : Int64) + x80) (ex82 : x82 = Int64.toInt32 x81) (tx82 : -2147483648 ≤ x81.toInt → x81.toInt < 2147483648 → x82.toInt = x81.toInt) (hr83y : ∀ s9 : List Int, QB F74 n75 s9 → s9.length < 48 → QB F84 n85 (s9 ++ [x82.toInt])) (hr83_0 : 0 ≤ n85.toInt) (hr83_1 : n85.toInt ≤ 48) (ex86 : x86 = y73 / (10 : Int64)) (ex87 : x87 = y72 + (1 : Int32)) (tx87 : x87.toInt = y72.toInt + 1) : QNL (σ.2.1 58) (σ.1 59) F84 n85 k0.toInt x86.toInt x87.toInt := by
  have q1 : (1 : Int32).toInt = 1 := by decide +kernel
  have q45 : (45 : Int32).toInt = 45 := by decide +kernel
  have ql10 : (10 : Int64).toInt = 10 := by decide +kernel
  have ql48 : (48 : Int64).toInt = 48 := by decide +kernel
  have hr9 : x45.toInt = (k0.toInt.natAbs : Int) := by rw [ex45, q_neg64 (by have := Int32.le_toInt k0; omega)]; omega
  have hr8 := Int32.le_toInt k0
  have u0 : 0 < y73.toInt := by omega
  have q9 : x79.toInt = x45.toInt / y73.toInt := by rw [ex79]; exact q_div (by omega) u0
  have u9 : x86.toInt = y73.toInt / 10 := by rw [ex86]; exact q_div (by omega) (by decide +kernel)
  have qb := hi64y.ub u0 (by omega)
  have qn : 0 ≤ x79.toInt := by rw [q9]; exact Int.ediv_nonneg (by omega) (by omega)
  have m9 : x80.toInt = x79.toInt % 10 := by rw [ex80]; exact q_mod10 qn
  have a9 : x81.toInt = 48 + x79.toInt % 10 := by rw [ex81, zl_add (by omega) (by omega), m9, show (48 : Int64).toInt = 48 by decide +kernel]
  have i9 := tx82 (by omega) (by omega)
  refine hi64y.step (u2 := x86.toInt) (d := x82.toInt) u0 (by omega) (by omega) (by omega) u9 (by rw [i9, a9, q9, hr9]) hr83y
-- meas@64 @64
theorem v_buildNumber_48 (y72 : Int32) (x87 : Int32) (hi64_2 : 0 ≤ y72.toInt) (hi64_3 : y72.toInt ≤ 11) (c76 : y72.toInt < 11) (ex87 : x87 = y72 + (1 : Int32)) (tx87 : x87.toInt = y72.toInt + 1) : (11 - x87.toInt).toNat < (11 - y72.toInt).toNat := by
  have q1 : (1 : Int32).toInt = 1 := by decide +kernel
  first | assumption | omega | (subst_vars; omega) | trivial
-- nw@55 @55
theorem v_buildNumber_49 (y50 : Int32) (x89 : Int32) (hi29_0 : 0 ≤ y50.toInt) (hi29_1 : y50.toInt ≤ 10) (c52 : y50.toInt < 10) (ex89 : x89 = y50 + (1 : Int32)) : x89.toInt = y50.toInt + 1 := by
  have q1 : (1 : Int32).toInt = 1 := by decide +kernel
  have z9 : (1 : Int32).toInt = 1 := by decide +kernel
  rw [ex89, z_add (by omega) (by omega)]; first | done | omega
-- inv@29 @29
theorem v_buildNumber_50 (y50 : Int32) (x89 : Int32) (hi29_0 : 0 ≤ y50.toInt) (hi29_1 : y50.toInt ≤ 10) (c52 : y50.toInt < 10) (ex89 : x89 = y50 + (1 : Int32)) (tx89 : x89.toInt = y50.toInt + 1) : 0 ≤ x89.toInt ∧ x89.toInt ≤ 10 := by
  have q1 : (1 : Int32).toInt = 1 := by decide +kernel
  refine ⟨?_, ?_⟩ <;> first | assumption | omega | (subst_vars; omega) | trivial
-- inv2@29 @29
theorem v_buildNumber_51 (σ : RS) (k0 : Int32) (x44 : Int64) (x45 : Int64) (F48 : (Nat → Int32)) (n49 : Int32) (y50 : Int32) (y51 : Int64) (x69 : Int64) (x70 : Int32) (x88 : Int64) (x89 : Int32) (hpre_0 : 0 ≤ (σ.1 59).toInt) (hpre_1 : (σ.1 59).toInt ≤ 48) (c1 : k0.toInt < 0) (ex44 : x44 = Int32.toInt64 k0) (tx44 : x44.toInt = k0.toInt) (ex45 : x45 = -x44) (c46 : k0.toInt < 0) (hr47y : ∀ s9 : List Int, QB (σ.2.1 58) (σ.1 59) s9 → s9.length < 48 → QB F48 n49 (s9 ++ [(45 : Int32).toInt])) (hr47_0 : 0 ≤ n49.toInt) (hr47_1 : n49.toInt ≤ 48) (hi29_0 : 0 ≤ y50.toInt) (hi29_1 : y50.toInt ≤ 10) (hi29y : ∃ e9 : Nat, (e9 : Int) = y50.toInt ∧ y51.toInt = ((10 ^ e9 : Nat) : Int) ∧ e9 ≤ 10 ∧ (e9 = 0 ∨ 10 ^ e9 ≤ k0.toInt.natAbs)) (c52 : y50.toInt < 10) (ex69 : x69 = y51 * (10 : Int64)) (tx70 : (x70.toInt = 0 ↔ x69.toInt = x45.toInt) ∧ (x70.toInt < 0 ↔ x69.toInt < x45.toInt)) (c71 : x70.toInt ≤ 0) (ex88 : x88 = y51 * (10 : Int64)) (ex89 : x89 = y50 + (1 : Int32)) (tx89 : x89.toInt = y50.toInt + 1) : ∃ e9 : Nat, (e9 : Int) = x89.toInt ∧ x88.toInt = ((10 ^ e9 : Nat) : Int) ∧ e9 ≤ 10 ∧ (e9 = 0 ∨ 10 ^ e9 ≤ k0.toInt.natAbs) := by
  have q1 : (1 : Int32).toInt = 1 := by decide +kernel
  have q45 : (45 : Int32).toInt = 45 := by decide +kernel
  have ql10 : (10 : Int64).toInt = 10 := by decide +kernel
  have hr9 : x45.toInt = (k0.toInt.natAbs : Int) := by rw [ex45, q_neg64 (by have := Int32.le_toInt k0; omega)]; omega
  have hr8 := Int32.le_toInt k0
  obtain ⟨e9, g1, g2, g3, g4⟩ := hi29y
  have gb := q_p10 g3
  have x699 : x69.toInt = 10 * y51.toInt := by rw [ex69]; exact q_mul10 (by omega) (by omega)
  have x889 : x88.toInt = 10 * y51.toInt := by rw [ex88]; exact q_mul10 (by omega) (by omega)
  refine ⟨e9 + 1, by omega, by rw [Nat.pow_succ]; omega, by omega, Or.inr (by rw [Nat.pow_succ]; omega)⟩
-- meas@29 @29
theorem v_buildNumber_52 (y50 : Int32) (x89 : Int32) (hi29_0 : 0 ≤ y50.toInt) (hi29_1 : y50.toInt ≤ 10) (c52 : y50.toInt < 10) (ex89 : x89 = y50 + (1 : Int32)) (tx89 : x89.toInt = y50.toInt + 1) : (10 - x89.toInt).toNat < (10 - y50.toInt).toNat := by
  have q1 : (1 : Int32).toInt = 1 := by decide +kernel
  first | assumption | omega | (subst_vars; omega) | trivial
set_option maxHeartbeats 4000000 in
set_option maxRecDepth 100000 in
theorem L_buildNumber_64_2 {p : Program} {e : Env} {s : State} {m : MethodId} {below : List Frame} {meth : Method} {c : Code} (l : Launch) (D : va_G) (cy : Nat → ClassId) (sz0 : Nat) (sa : Nat → Nat) (ad : Nat → Nat) (sz : Nat) (σ : RS) (k0 : Int32) (x2 : Int64) (y4 : Int32) (y5 : Int64) (C : RC p s m #[.ref (ad 0), .int k0] meth c cX12_buildNumber 7 none D cy sz0 sa ad (AR cy ad sz)) (hpre_0 : 0 ≤ (σ.1 59).toInt) (hpre_1 : (σ.1 59).toInt ≤ 48) (c1 : 0 ≤ k0.toInt) (ex2 : x2 = Int32.toInt64 k0) (tx2 : x2.toInt = k0.toInt) (c3 : 0 ≤ k0.toInt) (hi29_0 : 0 ≤ y4.toInt) (hi29_1 : y4.toInt ≤ 10) (hi29y : ∃ e9 : Nat, (e9 : Int) = y4.toInt ∧ y5.toInt = ((10 ^ e9 : Nat) : Int) ∧ e9 ≤ 10 ∧ (e9 = 0 ∨ 10 ^ e9 ≤ k0.toInt.natAbs)) (c6 : 10 ≤ y4.toInt) (n29 : Nat) (hn29 : (10 - y4.toInt).toNat < n29 + 1) (ih29 : ∀ (y4 : Int32) (y5 : Int64) (H : Heap) (locs : List Loc) (ls : Array Slot), (10 - y4.toInt).toNat < n29 → ((0 ≤ y4.toInt ∧ y4.toInt ≤ 10) ∧ (∃ e9 : Nat, (e9 : Int) = y4.toInt ∧ y5.toInt = ((10 ^ e9 : Nat) : Int) ∧ e9 ≤ 10 ∧ (e9 = 0 ∨ 10 ^ e9 ≤ k0.toInt.natAbs))) → RP D cy ad σ H → va_S (AR cy ad sz) s.heap H locs → lv_has ls 7 [(6, .int y4), (4, .long y5), (2, .long x2), (0, .ref (ad 0)), (1, .int k0)] → W p l e (headSpec (Cond.code yX12_buildNumber cX12_buildNumber 7 none :: GWm) ({ frames := 1, cells := 0, slots := 0, locals := 21 })).room s m #[.ref (ad 0), .int k0] below meth c H locs 0 0 (MQ below (va_Qv (fun (u : (Nat → Int32) × Int32) => (0 ≤ u.2.toInt ∧ u.2.toInt ≤ 48) ∧ (∀ s9 : List Int, QB (σ.2.1 58) (σ.1 59) s9 → s9.length ≤ 36 → QB u.1 u.2 (s9 ++ qDec k0.toInt))) (fun (u : (Nat → Int32) × Int32) (t : State) => RP D cy ad (rS (rA σ 58 u.1) 59 u.2) t.heap) (AR cy ad sz)) #[.ref (ad 0), .int k0] s 0 0 (AR cy ad sz)) (F0 m 29 ls [])) : ∀ (n : Nat) (y7 : Int32) (y8 : Int64) (F9 : (Nat → Int32)) (n10 : Int32) (H : Heap) (locs : List Loc) (ls : Array Slot), (11 - y7.toInt).toNat < n → ((0 ≤ n10.toInt ∧ n10.toInt ≤ 48 ∧ 0 ≤ y7.toInt ∧ y7.toInt ≤ 11) ∧ (QNL (σ.2.1 58) (σ.1 59) F9 n10 k0.toInt y8.toInt y7.toInt)) → RP D cy ad (rS (rA σ 58 F9) 59 n10) H → va_S (AR cy ad sz) s.heap H locs → lv_has ls 7 [(6, .int y7), (4, .long y8), (2, .long x2), (0, .ref (ad 0)), (1, .int k0)] → W p l e (headSpec (Cond.code yX12_buildNumber cX12_buildNumber 7 none :: GWm) ({ frames := 1, cells := 0, slots := 0, locals := 21 })).room s m #[.ref (ad 0), .int k0] below meth c H locs 0 0 (MQ below (va_Qv (fun (u : (Nat → Int32) × Int32) => (0 ≤ u.2.toInt ∧ u.2.toInt ≤ 48) ∧ (∀ s9 : List Int, QB (σ.2.1 58) (σ.1 59) s9 → s9.length ≤ 36 → QB u.1 u.2 (s9 ++ qDec k0.toInt))) (fun (u : (Nat → Int32) × Int32) (t : State) => RP D cy ad (rS (rA σ 58 u.1) 59 u.2) t.heap) (AR cy ad sz)) #[.ref (ad 0), .int k0] s 0 0 (AR cy ad sz)) (F0 m 64 ls []) := by
  have hx := C.1
  have hb := C.2.1
  have hown := C.2.2.2.2.1
  have hw := C.2.2.2.2.2.1
  intro n
  induction n with
  | zero => intro y7 y8 F9 n10 H locs ls hn; exact absurd hn (Nat.not_lt_zero _)
  | succ n64 ih64 =>
    intro y7 y8 F9 n10 H locs ls hn64 hi64 hP hS hl
    obtain ⟨hi64, hi64y⟩ := hi64
    obtain ⟨hi64_0, hi64_1, hi64_2, hi64_3⟩ := hi64
    refine lv_iload hx hb dX12_buildNumber_64 (lv_at hl 0 rfl) ?_
    refine lv_bipush (v := 11) hx hb dX12_buildNumber_66 (by decide +kernel) ?_
    refine lv_icmp_ge (tgt := 109) hx hb dX12_buildNumber_68 (by decide) (fun c11 => ?_) (fun c11 => ?_)
    · have c11 : 11 ≤ y7.toInt := by have h := z_le c11; rw [show (11 : Int32).toInt = 11 from by decide +kernel] at h; exact h
      exact r_retv C ⟨F9, n10⟩ ⟨(v_buildNumber_5 n10 hi64_0 hi64_1), (v_buildNumber_6 σ k0 x2 y4 y5 y7 y8 F9 n10 hpre_0 hpre_1 c1 ex2 tx2 c3 hi29_0 hi29_1 hi29y c6 hi64_0 hi64_1 hi64_2 hi64_3 hi64y c11)⟩ hP hS dX12_buildNumber_109
    · have c11 : y7.toInt < 11 := by have h := z_nle c11; rw [show (11 : Int32).toInt = 11 from by decide +kernel] at h; exact h
      refine lv_lload hx hb dX12_buildNumber_71 (lv_at hl 1 rfl) ?_
      refine lv_lconst (v := 0) hx hb dX12_buildNumber_73 rfl ?_
      refine W.lcmp hx hb dX12_buildNumber_74 ?_
      refine lv_topi (fun x12 ex12 => ?_)
      have tx12 : (x12.toInt = 0 ↔ y8.toInt = 0) ∧ (x12.toInt < 0 ↔ y8.toInt < 0) := z_lcmp ex12 rfl (by decide +kernel)
      refine lv_if_le (tgt := 109) hx hb dX12_buildNumber_75 (by decide) (fun c13 => ?_) (fun c13 => ?_)
      · have c13 : x12.toInt ≤ 0 := by have h := z_le c13; rw [show (0 : Int32).toInt = 0 from by decide +kernel] at h; exact h
        exact r_retv C ⟨F9, n10⟩ ⟨(v_buildNumber_5 n10 hi64_0 hi64_1), (v_buildNumber_7 σ k0 x2 y4 y5 y7 y8 F9 n10 x12 hpre_0 hpre_1 c1 ex2 tx2 c3 hi29_0 hi29_1 hi29y c6 hi64_0 hi64_1 hi64_2 hi64_3 hi64y c11 tx12 c13)⟩ hP hS dX12_buildNumber_109
      · have c13 : 0 < x12.toInt := by have h := z_nle c13; rw [show (0 : Int32).toInt = 0 from by decide +kernel] at h; exact h
        refine lv_aload_n hx hb dX12_buildNumber_78 rfl (lv_at hl 3 rfl) ?_
        refine lv_ldc2 (v := 48) hx hb hown (hw _ wm_23) dX12_buildNumber_79 ?_
        refine lv_lload_n hx hb dX12_buildNumber_82 rfl (lv_at hl 2 rfl) ?_
        refine lv_lload hx hb dX12_buildNumber_83 (lv_at hl 1 rfl) ?_
        refine lv_ldiv hx hb dX12_buildNumber_85 (v_buildNumber_8 y8 x12 tx12 c13) ?_
        refine lv_topl (fun x14 ex14 => ?_)
        refine lv_ldc2 (v := 10) hx hb hown (hw _ wm_22) dX12_buildNumber_86 ?_
        refine lv_lrem hx hb dX12_buildNumber_89 (by decide +kernel) ?_
        refine lv_topl (fun x15 ex15 => ?_)
        refine lv_ladd hx hb dX12_buildNumber_90 ?_
        refine lv_topl (fun x16 ex16 => ?_)
        refine lv_l2i hx hb dX12_buildNumber_91 rfl ?_
        refine lv_topi (fun x17 ex17 => ?_)
        have tx17 : -2147483648 ≤ x16.toInt → x16.toInt < 2147483648 → x17.toInt = x16.toInt := z_l2i ex17
        refine r_callVv (As := [.int x17]) (rest := []) C hP hS hl.1 ⟨Nat.zero_le _, Nat.zero_le _⟩ (M_build l D cy sz0 sa ad (rS (rA σ 58 F9) 59 n10) H.size x17 (v_buildNumber_5 n10 hi64_0 hi64_1)) (n := 1) ⟨wm_223, wm_219, by decide +kernel⟩ ⟨wm_224, wm_225, wm_10⟩ rfl rfl (lv_room (Nat.le_of_ble_eq_true rfl)) ⟨Nat.le_of_ble_eq_true rfl, Nat.le_of_ble_eq_true rfl⟩ dX12_buildNumber_92 (fun u H locs hr18 hP hS => ?_)
        obtain ⟨F19, n20⟩ := u
        obtain ⟨hr18, hr18y⟩ := hr18
        have hr18y : ∀ s9 : List Int, QB F9 n10 s9 → s9.length < 48 → QB F19 n20 (s9 ++ [x17.toInt]) := hr18y
        have hr18 : 0 ≤ n20.toInt ∧ n20.toInt ≤ 48 := hr18
        obtain ⟨hr18_0, hr18_1⟩ := hr18
        have hP : RP D cy ad (rS (rA (rS (rA σ 58 F9) 59 n10) 58 F19) 59 n20) H := hP
        refine lv_lload hx hb dX12_buildNumber_95 (lv_at hl 1 rfl) ?_
        refine lv_ldc2 (v := 10) hx hb hown (hw _ wm_22) dX12_buildNumber_97 ?_
        refine lv_ldiv hx hb dX12_buildNumber_100 (by decide +kernel) ?_
        refine lv_topl (fun x21 ex21 => ?_)
        refine lv_lstore (lv' := [(4, .long x21), (6, .int y7), (2, .long x2), (0, .ref (ad 0)), (1, .int k0)]) hx hb dX12_buildNumber_101 hl (by decide) rfl (fun ls hl => ?_)
        obtain ⟨x22, ex22⟩ : ∃ y : Int32, y = y7 + (1 : Int32) := ⟨_, rfl⟩
        have tx22 : x22.toInt = y7.toInt + 1 := (v_buildNumber_9 y7 x22 hi64_2 hi64_3 c11 ex22)
        refine lv_iinc (v := x22) (lv' := [(6, .int x22), (4, .long x21), (2, .long x2), (0, .ref (ad 0)), (1, .int k0)]) hx hb dX12_buildNumber_103 hl (k := 1) rfl (by rw [ex22]; rfl) (by decide) rfl (fun ls hl => ?_)
        refine lv_goto (tgt := 64) hx hb dX12_buildNumber_106 (by decide) ?_
        have hP : RP D cy ad (rS (rA σ 58 F19) 59 n20) H := RP.cong hP (Eq.trans (b := (σ.1 0)) rfl rfl) (Eq.trans (b := (σ.1 1)) rfl rfl) (Eq.trans (b := (σ.2.1 2)) rfl rfl) (Eq.trans (b := (σ.1 3)) rfl rfl) (Eq.trans (b := (σ.2.1 4)) rfl rfl) (Eq.trans (b := (σ.2.1 5)) rfl rfl) (Eq.trans (b := (σ.2.2.1 6)) rfl rfl) (Eq.trans (b := (σ.2.1 7)) rfl rfl) (Eq.trans (b := (σ.1 8)) rfl rfl) (Eq.trans (b := (σ.1 9)) rfl rfl) (Eq.trans (b := (σ.1 10)) rfl rfl) (Eq.trans (b := (σ.2.1 11)) rfl rfl) (Eq.trans (b := (σ.2.2.1 12)) rfl rfl) (Eq.trans (b := (σ.2.1 13)) rfl rfl) (Eq.trans (b := (σ.1 14)) rfl rfl) (Eq.trans (b := (σ.1 15)) rfl rfl) (Eq.trans (b := (σ.1 16)) rfl rfl) (Eq.trans (b := (σ.1 17)) rfl rfl) (Eq.trans (b := (σ.1 18)) rfl rfl) (Eq.trans (b := (σ.1 19)) rfl rfl) (Eq.trans (b := (σ.2.1 20)) rfl rfl) (Eq.trans (b := (σ.2.1 21)) rfl rfl) (Eq.trans (b := (σ.2.1 22)) rfl rfl) (Eq.trans (b := (σ.2.1 23)) rfl rfl) (Eq.trans (b := (σ.2.1 24)) rfl rfl) (Eq.trans (b := (σ.2.1 25)) rfl rfl) (Eq.trans (b := (σ.2.1 26)) rfl rfl) (Eq.trans (b := (σ.2.1 27)) rfl rfl) (Eq.trans (b := (σ.2.1 28)) rfl rfl) (Eq.trans (b := (σ.1 29)) rfl rfl) (Eq.trans (b := (σ.2.1 30)) rfl rfl) (Eq.trans (b := (σ.2.1 31)) rfl rfl) (Eq.trans (b := (σ.2.1 32)) rfl rfl) (Eq.trans (b := (σ.1 33)) rfl rfl) (Eq.trans (b := (σ.1 34)) rfl rfl) (Eq.trans (b := (σ.1 35)) rfl rfl) (Eq.trans (b := (σ.2.1 36)) rfl rfl) (Eq.trans (b := (σ.2.1 37)) rfl rfl) (Eq.trans (b := (σ.2.1 38)) rfl rfl) (Eq.trans (b := (σ.2.1 39)) rfl rfl) (Eq.trans (b := (σ.2.1 40)) rfl rfl) (Eq.trans (b := (σ.2.1 41)) rfl rfl) (Eq.trans (b := (σ.2.1 42)) rfl rfl) (Eq.trans (b := (σ.2.1 43)) rfl rfl) (Eq.trans (b := (σ.2.1 44)) rfl rfl) (Eq.trans (b := (σ.2.1 45)) rfl rfl) (Eq.trans (b := (σ.2.1 46)) rfl rfl) (Eq.trans (b := (σ.1 47)) rfl rfl) (Eq.trans (b := (σ.2.1 48)) rfl rfl) (Eq.trans (b := (σ.1 49)) rfl rfl) (Eq.trans (b := (σ.2.1 50)) rfl rfl) (Eq.trans (b := (σ.2.1 51)) rfl rfl) (Eq.trans (b := (σ.2.2.1 52)) rfl rfl) (Eq.trans (b := (σ.2.2.1 53)) rfl rfl) (Eq.trans (b := (σ.2.2.2)) rfl rfl) (Eq.trans (b := (σ.1 55)) rfl rfl) (Eq.trans (b := (σ.1 56)) rfl rfl) (Eq.trans (b := (σ.1 57)) rfl rfl) (Eq.trans (b := F19) rfl rfl) (Eq.trans (b := n20) rfl rfl)
        exact ih64 x22 x21 F19 n20 _ _ _ (Nat.lt_of_lt_of_le (v_buildNumber_12 y7 x22 hi64_2 hi64_3 c11 ex22 tx22) (Nat.le_of_lt_succ hn64)) ⟨(v_buildNumber_10 y7 n20 x22 hi64_2 hi64_3 c11 hr18_0 hr18_1 ex22 tx22), (v_buildNumber_11 σ k0 x2 y4 y5 y7 y8 F9 n10 x12 x14 x15 x16 x17 F19 n20 x21 x22 hpre_0 hpre_1 c1 ex2 tx2 c3 hi29_0 hi29_1 hi29y c6 hi64_0 hi64_1 hi64_2 hi64_3 hi64y c11 tx12 c13 ex14 ex15 ex16 ex17 tx17 hr18y hr18_0 hr18_1 ex21 ex22 tx22)⟩ hP hS (lv_sub hl [0, 1, 2, 3, 4] rfl)
set_option maxHeartbeats 4000000 in
set_option maxRecDepth 100000 in
theorem L_buildNumber_64_3 {p : Program} {e : Env} {s : State} {m : MethodId} {below : List Frame} {meth : Method} {c : Code} (l : Launch) (D : va_G) (cy : Nat → ClassId) (sz0 : Nat) (sa : Nat → Nat) (ad : Nat → Nat) (sz : Nat) (σ : RS) (k0 : Int32) (x2 : Int64) (y4 : Int32) (y5 : Int64) (x23 : Int64) (x24 : Int32) (C : RC p s m #[.ref (ad 0), .int k0] meth c cX12_buildNumber 7 none D cy sz0 sa ad (AR cy ad sz)) (hpre_0 : 0 ≤ (σ.1 59).toInt) (hpre_1 : (σ.1 59).toInt ≤ 48) (c1 : 0 ≤ k0.toInt) (ex2 : x2 = Int32.toInt64 k0) (tx2 : x2.toInt = k0.toInt) (c3 : 0 ≤ k0.toInt) (hi29_0 : 0 ≤ y4.toInt) (hi29_1 : y4.toInt ≤ 10) (hi29y : ∃ e9 : Nat, (e9 : Int) = y4.toInt ∧ y5.toInt = ((10 ^ e9 : Nat) : Int) ∧ e9 ≤ 10 ∧ (e9 = 0 ∨ 10 ^ e9 ≤ k0.toInt.natAbs)) (c6 : y4.toInt < 10) (ex23 : x23 = y5 * (10 : Int64)) (tx24 : (x24.toInt = 0 ↔ x23.toInt = x2.toInt) ∧ (x24.toInt < 0 ↔ x23.toInt < x2.toInt)) (c25 : 0 < x24.toInt) (n29 : Nat) (hn29 : (10 - y4.toInt).toNat < n29 + 1) (ih29 : ∀ (y4 : Int32) (y5 : Int64) (H : Heap) (locs : List Loc) (ls : Array Slot), (10 - y4.toInt).toNat < n29 → ((0 ≤ y4.toInt ∧ y4.toInt ≤ 10) ∧ (∃ e9 : Nat, (e9 : Int) = y4.toInt ∧ y5.toInt = ((10 ^ e9 : Nat) : Int) ∧ e9 ≤ 10 ∧ (e9 = 0 ∨ 10 ^ e9 ≤ k0.toInt.natAbs))) → RP D cy ad σ H → va_S (AR cy ad sz) s.heap H locs → lv_has ls 7 [(6, .int y4), (4, .long y5), (2, .long x2), (0, .ref (ad 0)), (1, .int k0)] → W p l e (headSpec (Cond.code yX12_buildNumber cX12_buildNumber 7 none :: GWm) ({ frames := 1, cells := 0, slots := 0, locals := 21 })).room s m #[.ref (ad 0), .int k0] below meth c H locs 0 0 (MQ below (va_Qv (fun (u : (Nat → Int32) × Int32) => (0 ≤ u.2.toInt ∧ u.2.toInt ≤ 48) ∧ (∀ s9 : List Int, QB (σ.2.1 58) (σ.1 59) s9 → s9.length ≤ 36 → QB u.1 u.2 (s9 ++ qDec k0.toInt))) (fun (u : (Nat → Int32) × Int32) (t : State) => RP D cy ad (rS (rA σ 58 u.1) 59 u.2) t.heap) (AR cy ad sz)) #[.ref (ad 0), .int k0] s 0 0 (AR cy ad sz)) (F0 m 29 ls [])) : ∀ (n : Nat) (y26 : Int32) (y27 : Int64) (F28 : (Nat → Int32)) (n29 : Int32) (H : Heap) (locs : List Loc) (ls : Array Slot), (11 - y26.toInt).toNat < n → ((0 ≤ n29.toInt ∧ n29.toInt ≤ 48 ∧ 0 ≤ y26.toInt ∧ y26.toInt ≤ 11) ∧ (QNL (σ.2.1 58) (σ.1 59) F28 n29 k0.toInt y27.toInt y26.toInt)) → RP D cy ad (rS (rA σ 58 F28) 59 n29) H → va_S (AR cy ad sz) s.heap H locs → lv_has ls 7 [(6, .int y26), (4, .long y27), (2, .long x2), (0, .ref (ad 0)), (1, .int k0)] → W p l e (headSpec (Cond.code yX12_buildNumber cX12_buildNumber 7 none :: GWm) ({ frames := 1, cells := 0, slots := 0, locals := 21 })).room s m #[.ref (ad 0), .int k0] below meth c H locs 0 0 (MQ below (va_Qv (fun (u : (Nat → Int32) × Int32) => (0 ≤ u.2.toInt ∧ u.2.toInt ≤ 48) ∧ (∀ s9 : List Int, QB (σ.2.1 58) (σ.1 59) s9 → s9.length ≤ 36 → QB u.1 u.2 (s9 ++ qDec k0.toInt))) (fun (u : (Nat → Int32) × Int32) (t : State) => RP D cy ad (rS (rA σ 58 u.1) 59 u.2) t.heap) (AR cy ad sz)) #[.ref (ad 0), .int k0] s 0 0 (AR cy ad sz)) (F0 m 64 ls []) := by
  have hx := C.1
  have hb := C.2.1
  have hown := C.2.2.2.2.1
  have hw := C.2.2.2.2.2.1
  intro n
  induction n with
  | zero => intro y26 y27 F28 n29 H locs ls hn; exact absurd hn (Nat.not_lt_zero _)
  | succ n64 ih64 =>
    intro y26 y27 F28 n29 H locs ls hn64 hi64 hP hS hl
    obtain ⟨hi64, hi64y⟩ := hi64
    obtain ⟨hi64_0, hi64_1, hi64_2, hi64_3⟩ := hi64
    refine lv_iload hx hb dX12_buildNumber_64 (lv_at hl 0 rfl) ?_
    refine lv_bipush (v := 11) hx hb dX12_buildNumber_66 (by decide +kernel) ?_
    refine lv_icmp_ge (tgt := 109) hx hb dX12_buildNumber_68 (by decide) (fun c30 => ?_) (fun c30 => ?_)
    · have c30 : 11 ≤ y26.toInt := by have h := z_le c30; rw [show (11 : Int32).toInt = 11 from by decide +kernel] at h; exact h
      exact r_retv C ⟨F28, n29⟩ ⟨(v_buildNumber_14 n29 hi64_0 hi64_1), (v_buildNumber_15 σ k0 x2 y4 y5 x23 x24 y26 y27 F28 n29 hpre_0 hpre_1 c1 ex2 tx2 c3 hi29_0 hi29_1 hi29y c6 ex23 tx24 c25 hi64_0 hi64_1 hi64_2 hi64_3 hi64y c30)⟩ hP hS dX12_buildNumber_109
    · have c30 : y26.toInt < 11 := by have h := z_nle c30; rw [show (11 : Int32).toInt = 11 from by decide +kernel] at h; exact h
      refine lv_lload hx hb dX12_buildNumber_71 (lv_at hl 1 rfl) ?_
      refine lv_lconst (v := 0) hx hb dX12_buildNumber_73 rfl ?_
      refine W.lcmp hx hb dX12_buildNumber_74 ?_
      refine lv_topi (fun x31 ex31 => ?_)
      have tx31 : (x31.toInt = 0 ↔ y27.toInt = 0) ∧ (x31.toInt < 0 ↔ y27.toInt < 0) := z_lcmp ex31 rfl (by decide +kernel)
      refine lv_if_le (tgt := 109) hx hb dX12_buildNumber_75 (by decide) (fun c32 => ?_) (fun c32 => ?_)
      · have c32 : x31.toInt ≤ 0 := by have h := z_le c32; rw [show (0 : Int32).toInt = 0 from by decide +kernel] at h; exact h
        exact r_retv C ⟨F28, n29⟩ ⟨(v_buildNumber_14 n29 hi64_0 hi64_1), (v_buildNumber_16 σ k0 x2 y4 y5 x23 x24 y26 y27 F28 n29 x31 hpre_0 hpre_1 c1 ex2 tx2 c3 hi29_0 hi29_1 hi29y c6 ex23 tx24 c25 hi64_0 hi64_1 hi64_2 hi64_3 hi64y c30 tx31 c32)⟩ hP hS dX12_buildNumber_109
      · have c32 : 0 < x31.toInt := by have h := z_nle c32; rw [show (0 : Int32).toInt = 0 from by decide +kernel] at h; exact h
        refine lv_aload_n hx hb dX12_buildNumber_78 rfl (lv_at hl 3 rfl) ?_
        refine lv_ldc2 (v := 48) hx hb hown (hw _ wm_23) dX12_buildNumber_79 ?_
        refine lv_lload_n hx hb dX12_buildNumber_82 rfl (lv_at hl 2 rfl) ?_
        refine lv_lload hx hb dX12_buildNumber_83 (lv_at hl 1 rfl) ?_
        refine lv_ldiv hx hb dX12_buildNumber_85 (v_buildNumber_17 y27 x31 tx31 c32) ?_
        refine lv_topl (fun x33 ex33 => ?_)
        refine lv_ldc2 (v := 10) hx hb hown (hw _ wm_22) dX12_buildNumber_86 ?_
        refine lv_lrem hx hb dX12_buildNumber_89 (by decide +kernel) ?_
        refine lv_topl (fun x34 ex34 => ?_)
        refine lv_ladd hx hb dX12_buildNumber_90 ?_
        refine lv_topl (fun x35 ex35 => ?_)
        refine lv_l2i hx hb dX12_buildNumber_91 rfl ?_
        refine lv_topi (fun x36 ex36 => ?_)
        have tx36 : -2147483648 ≤ x35.toInt → x35.toInt < 2147483648 → x36.toInt = x35.toInt := z_l2i ex36
        refine r_callVv (As := [.int x36]) (rest := []) C hP hS hl.1 ⟨Nat.zero_le _, Nat.zero_le _⟩ (M_build l D cy sz0 sa ad (rS (rA σ 58 F28) 59 n29) H.size x36 (v_buildNumber_14 n29 hi64_0 hi64_1)) (n := 1) ⟨wm_223, wm_219, by decide +kernel⟩ ⟨wm_224, wm_225, wm_10⟩ rfl rfl (lv_room (Nat.le_of_ble_eq_true rfl)) ⟨Nat.le_of_ble_eq_true rfl, Nat.le_of_ble_eq_true rfl⟩ dX12_buildNumber_92 (fun u H locs hr37 hP hS => ?_)
        obtain ⟨F38, n39⟩ := u
        obtain ⟨hr37, hr37y⟩ := hr37
        have hr37y : ∀ s9 : List Int, QB F28 n29 s9 → s9.length < 48 → QB F38 n39 (s9 ++ [x36.toInt]) := hr37y
        have hr37 : 0 ≤ n39.toInt ∧ n39.toInt ≤ 48 := hr37
        obtain ⟨hr37_0, hr37_1⟩ := hr37
        have hP : RP D cy ad (rS (rA (rS (rA σ 58 F28) 59 n29) 58 F38) 59 n39) H := hP
        refine lv_lload hx hb dX12_buildNumber_95 (lv_at hl 1 rfl) ?_
        refine lv_ldc2 (v := 10) hx hb hown (hw _ wm_22) dX12_buildNumber_97 ?_
        refine lv_ldiv hx hb dX12_buildNumber_100 (by decide +kernel) ?_
        refine lv_topl (fun x40 ex40 => ?_)
        refine lv_lstore (lv' := [(4, .long x40), (6, .int y26), (2, .long x2), (0, .ref (ad 0)), (1, .int k0)]) hx hb dX12_buildNumber_101 hl (by decide) rfl (fun ls hl => ?_)
        obtain ⟨x41, ex41⟩ : ∃ y : Int32, y = y26 + (1 : Int32) := ⟨_, rfl⟩
        have tx41 : x41.toInt = y26.toInt + 1 := (v_buildNumber_18 y26 x41 hi64_2 hi64_3 c30 ex41)
        refine lv_iinc (v := x41) (lv' := [(6, .int x41), (4, .long x40), (2, .long x2), (0, .ref (ad 0)), (1, .int k0)]) hx hb dX12_buildNumber_103 hl (k := 1) rfl (by rw [ex41]; rfl) (by decide) rfl (fun ls hl => ?_)
        refine lv_goto (tgt := 64) hx hb dX12_buildNumber_106 (by decide) ?_
        have hP : RP D cy ad (rS (rA σ 58 F38) 59 n39) H := RP.cong hP (Eq.trans (b := (σ.1 0)) rfl rfl) (Eq.trans (b := (σ.1 1)) rfl rfl) (Eq.trans (b := (σ.2.1 2)) rfl rfl) (Eq.trans (b := (σ.1 3)) rfl rfl) (Eq.trans (b := (σ.2.1 4)) rfl rfl) (Eq.trans (b := (σ.2.1 5)) rfl rfl) (Eq.trans (b := (σ.2.2.1 6)) rfl rfl) (Eq.trans (b := (σ.2.1 7)) rfl rfl) (Eq.trans (b := (σ.1 8)) rfl rfl) (Eq.trans (b := (σ.1 9)) rfl rfl) (Eq.trans (b := (σ.1 10)) rfl rfl) (Eq.trans (b := (σ.2.1 11)) rfl rfl) (Eq.trans (b := (σ.2.2.1 12)) rfl rfl) (Eq.trans (b := (σ.2.1 13)) rfl rfl) (Eq.trans (b := (σ.1 14)) rfl rfl) (Eq.trans (b := (σ.1 15)) rfl rfl) (Eq.trans (b := (σ.1 16)) rfl rfl) (Eq.trans (b := (σ.1 17)) rfl rfl) (Eq.trans (b := (σ.1 18)) rfl rfl) (Eq.trans (b := (σ.1 19)) rfl rfl) (Eq.trans (b := (σ.2.1 20)) rfl rfl) (Eq.trans (b := (σ.2.1 21)) rfl rfl) (Eq.trans (b := (σ.2.1 22)) rfl rfl) (Eq.trans (b := (σ.2.1 23)) rfl rfl) (Eq.trans (b := (σ.2.1 24)) rfl rfl) (Eq.trans (b := (σ.2.1 25)) rfl rfl) (Eq.trans (b := (σ.2.1 26)) rfl rfl) (Eq.trans (b := (σ.2.1 27)) rfl rfl) (Eq.trans (b := (σ.2.1 28)) rfl rfl) (Eq.trans (b := (σ.1 29)) rfl rfl) (Eq.trans (b := (σ.2.1 30)) rfl rfl) (Eq.trans (b := (σ.2.1 31)) rfl rfl) (Eq.trans (b := (σ.2.1 32)) rfl rfl) (Eq.trans (b := (σ.1 33)) rfl rfl) (Eq.trans (b := (σ.1 34)) rfl rfl) (Eq.trans (b := (σ.1 35)) rfl rfl) (Eq.trans (b := (σ.2.1 36)) rfl rfl) (Eq.trans (b := (σ.2.1 37)) rfl rfl) (Eq.trans (b := (σ.2.1 38)) rfl rfl) (Eq.trans (b := (σ.2.1 39)) rfl rfl) (Eq.trans (b := (σ.2.1 40)) rfl rfl) (Eq.trans (b := (σ.2.1 41)) rfl rfl) (Eq.trans (b := (σ.2.1 42)) rfl rfl) (Eq.trans (b := (σ.2.1 43)) rfl rfl) (Eq.trans (b := (σ.2.1 44)) rfl rfl) (Eq.trans (b := (σ.2.1 45)) rfl rfl) (Eq.trans (b := (σ.2.1 46)) rfl rfl) (Eq.trans (b := (σ.1 47)) rfl rfl) (Eq.trans (b := (σ.2.1 48)) rfl rfl) (Eq.trans (b := (σ.1 49)) rfl rfl) (Eq.trans (b := (σ.2.1 50)) rfl rfl) (Eq.trans (b := (σ.2.1 51)) rfl rfl) (Eq.trans (b := (σ.2.2.1 52)) rfl rfl) (Eq.trans (b := (σ.2.2.1 53)) rfl rfl) (Eq.trans (b := (σ.2.2.2)) rfl rfl) (Eq.trans (b := (σ.1 55)) rfl rfl) (Eq.trans (b := (σ.1 56)) rfl rfl) (Eq.trans (b := (σ.1 57)) rfl rfl) (Eq.trans (b := F38) rfl rfl) (Eq.trans (b := n39) rfl rfl)
        exact ih64 x41 x40 F38 n39 _ _ _ (Nat.lt_of_lt_of_le (v_buildNumber_21 y26 x41 hi64_2 hi64_3 c30 ex41 tx41) (Nat.le_of_lt_succ hn64)) ⟨(v_buildNumber_19 y26 n39 x41 hi64_2 hi64_3 c30 hr37_0 hr37_1 ex41 tx41), (v_buildNumber_20 σ k0 x2 y4 y5 x23 x24 y26 y27 F28 n29 x31 x33 x34 x35 x36 F38 n39 x40 x41 hpre_0 hpre_1 c1 ex2 tx2 c3 hi29_0 hi29_1 hi29y c6 ex23 tx24 c25 hi64_0 hi64_1 hi64_2 hi64_3 hi64y c30 tx31 c32 ex33 ex34 ex35 ex36 tx36 hr37y hr37_0 hr37_1 ex40 ex41 tx41)⟩ hP hS (lv_sub hl [0, 1, 2, 3, 4] rfl)
set_option maxHeartbeats 4000000 in
set_option maxRecDepth 100000 in
theorem L_buildNumber_29_1 {p : Program} {e : Env} {s : State} {m : MethodId} {below : List Frame} {meth : Method} {c : Code} (l : Launch) (D : va_G) (cy : Nat → ClassId) (sz0 : Nat) (sa : Nat → Nat) (ad : Nat → Nat) (sz : Nat) (σ : RS) (k0 : Int32) (x2 : Int64) (C : RC p s m #[.ref (ad 0), .int k0] meth c cX12_buildNumber 7 none D cy sz0 sa ad (AR cy ad sz)) (hpre_0 : 0 ≤ (σ.1 59).toInt) (hpre_1 : (σ.1 59).toInt ≤ 48) (c1 : 0 ≤ k0.toInt) (ex2 : x2 = Int32.toInt64 k0) (tx2 : x2.toInt = k0.toInt) (c3 : 0 ≤ k0.toInt) : ∀ (n : Nat) (y4 : Int32) (y5 : Int64) (H : Heap) (locs : List Loc) (ls : Array Slot), (10 - y4.toInt).toNat < n → ((0 ≤ y4.toInt ∧ y4.toInt ≤ 10) ∧ (∃ e9 : Nat, (e9 : Int) = y4.toInt ∧ y5.toInt = ((10 ^ e9 : Nat) : Int) ∧ e9 ≤ 10 ∧ (e9 = 0 ∨ 10 ^ e9 ≤ k0.toInt.natAbs))) → RP D cy ad σ H → va_S (AR cy ad sz) s.heap H locs → lv_has ls 7 [(6, .int y4), (4, .long y5), (2, .long x2), (0, .ref (ad 0)), (1, .int k0)] → W p l e (headSpec (Cond.code yX12_buildNumber cX12_buildNumber 7 none :: GWm) ({ frames := 1, cells := 0, slots := 0, locals := 21 })).room s m #[.ref (ad 0), .int k0] below meth c H locs 0 0 (MQ below (va_Qv (fun (u : (Nat → Int32) × Int32) => (0 ≤ u.2.toInt ∧ u.2.toInt ≤ 48) ∧ (∀ s9 : List Int, QB (σ.2.1 58) (σ.1 59) s9 → s9.length ≤ 36 → QB u.1 u.2 (s9 ++ qDec k0.toInt))) (fun (u : (Nat → Int32) × Int32) (t : State) => RP D cy ad (rS (rA σ 58 u.1) 59 u.2) t.heap) (AR cy ad sz)) #[.ref (ad 0), .int k0] s 0 0 (AR cy ad sz)) (F0 m 29 ls []) := by
  have hx := C.1
  have hb := C.2.1
  have hown := C.2.2.2.2.1
  have hw := C.2.2.2.2.2.1
  intro n
  induction n with
  | zero => intro y4 y5 H locs ls hn; exact absurd hn (Nat.not_lt_zero _)
  | succ n29 ih29 =>
    intro y4 y5 H locs ls hn29 hi29 hP hS hl
    obtain ⟨hi29, hi29y⟩ := hi29
    obtain ⟨hi29_0, hi29_1⟩ := hi29
    refine lv_iload hx hb dX12_buildNumber_29 (lv_at hl 0 rfl) ?_
    refine lv_bipush (v := 10) hx hb dX12_buildNumber_31 (by decide +kernel) ?_
    refine lv_icmp_ge (tgt := 61) hx hb dX12_buildNumber_33 (by decide) (fun c6 => ?_) (fun c6 => ?_)
    · have c6 : 10 ≤ y4.toInt := by have h := z_le c6; rw [show (10 : Int32).toInt = 10 from by decide +kernel] at h; exact h
      refine lv_iconst (v := 0) hx hb dX12_buildNumber_61 (by decide +kernel) ?_
      refine lv_istore (lv' := [(6, .int 0), (4, .long y5), (2, .long x2), (0, .ref (ad 0)), (1, .int k0)]) hx hb dX12_buildNumber_62 hl (by decide) rfl (fun ls hl => ?_)
      have hP : RP D cy ad (rS (rA σ 58 (σ.2.1 58)) 59 (σ.1 59)) H := RP.cong hP (Eq.trans (b := (σ.1 0)) rfl rfl) (Eq.trans (b := (σ.1 1)) rfl rfl) (Eq.trans (b := (σ.2.1 2)) rfl rfl) (Eq.trans (b := (σ.1 3)) rfl rfl) (Eq.trans (b := (σ.2.1 4)) rfl rfl) (Eq.trans (b := (σ.2.1 5)) rfl rfl) (Eq.trans (b := (σ.2.2.1 6)) rfl rfl) (Eq.trans (b := (σ.2.1 7)) rfl rfl) (Eq.trans (b := (σ.1 8)) rfl rfl) (Eq.trans (b := (σ.1 9)) rfl rfl) (Eq.trans (b := (σ.1 10)) rfl rfl) (Eq.trans (b := (σ.2.1 11)) rfl rfl) (Eq.trans (b := (σ.2.2.1 12)) rfl rfl) (Eq.trans (b := (σ.2.1 13)) rfl rfl) (Eq.trans (b := (σ.1 14)) rfl rfl) (Eq.trans (b := (σ.1 15)) rfl rfl) (Eq.trans (b := (σ.1 16)) rfl rfl) (Eq.trans (b := (σ.1 17)) rfl rfl) (Eq.trans (b := (σ.1 18)) rfl rfl) (Eq.trans (b := (σ.1 19)) rfl rfl) (Eq.trans (b := (σ.2.1 20)) rfl rfl) (Eq.trans (b := (σ.2.1 21)) rfl rfl) (Eq.trans (b := (σ.2.1 22)) rfl rfl) (Eq.trans (b := (σ.2.1 23)) rfl rfl) (Eq.trans (b := (σ.2.1 24)) rfl rfl) (Eq.trans (b := (σ.2.1 25)) rfl rfl) (Eq.trans (b := (σ.2.1 26)) rfl rfl) (Eq.trans (b := (σ.2.1 27)) rfl rfl) (Eq.trans (b := (σ.2.1 28)) rfl rfl) (Eq.trans (b := (σ.1 29)) rfl rfl) (Eq.trans (b := (σ.2.1 30)) rfl rfl) (Eq.trans (b := (σ.2.1 31)) rfl rfl) (Eq.trans (b := (σ.2.1 32)) rfl rfl) (Eq.trans (b := (σ.1 33)) rfl rfl) (Eq.trans (b := (σ.1 34)) rfl rfl) (Eq.trans (b := (σ.1 35)) rfl rfl) (Eq.trans (b := (σ.2.1 36)) rfl rfl) (Eq.trans (b := (σ.2.1 37)) rfl rfl) (Eq.trans (b := (σ.2.1 38)) rfl rfl) (Eq.trans (b := (σ.2.1 39)) rfl rfl) (Eq.trans (b := (σ.2.1 40)) rfl rfl) (Eq.trans (b := (σ.2.1 41)) rfl rfl) (Eq.trans (b := (σ.2.1 42)) rfl rfl) (Eq.trans (b := (σ.2.1 43)) rfl rfl) (Eq.trans (b := (σ.2.1 44)) rfl rfl) (Eq.trans (b := (σ.2.1 45)) rfl rfl) (Eq.trans (b := (σ.2.1 46)) rfl rfl) (Eq.trans (b := (σ.1 47)) rfl rfl) (Eq.trans (b := (σ.2.1 48)) rfl rfl) (Eq.trans (b := (σ.1 49)) rfl rfl) (Eq.trans (b := (σ.2.1 50)) rfl rfl) (Eq.trans (b := (σ.2.1 51)) rfl rfl) (Eq.trans (b := (σ.2.2.1 52)) rfl rfl) (Eq.trans (b := (σ.2.2.1 53)) rfl rfl) (Eq.trans (b := (σ.2.2.2)) rfl rfl) (Eq.trans (b := (σ.1 55)) rfl rfl) (Eq.trans (b := (σ.1 56)) rfl rfl) (Eq.trans (b := (σ.1 57)) rfl rfl) (Eq.trans (b := (σ.2.1 58)) rfl rfl) (Eq.trans (b := (σ.1 59)) rfl rfl)
      exact L_buildNumber_64_2 l D cy sz0 sa ad sz σ k0 x2 y4 y5 C hpre_0 hpre_1 c1 ex2 tx2 c3 hi29_0 hi29_1 hi29y c6 n29 hn29 ih29 ((11 - (0 : Int32).toInt).toNat + 1) (0 : Int32) y5 (σ.2.1 58) (σ.1 59) _ _ _ (Nat.lt_succ_self _) ⟨(v_buildNumber_3 σ hpre_0 hpre_1), (v_buildNumber_4 σ k0 x2 y4 y5 hpre_0 hpre_1 c1 ex2 tx2 c3 hi29_0 hi29_1 hi29y c6)⟩ hP hS (lv_sub hl [0, 1, 2, 3, 4] rfl)
    · have c6 : y4.toInt < 10 := by have h := z_nle c6; rw [show (10 : Int32).toInt = 10 from by decide +kernel] at h; exact h
      refine lv_lload hx hb dX12_buildNumber_36 (lv_at hl 1 rfl) ?_
      refine lv_ldc2 (v := 10) hx hb hown (hw _ wm_22) dX12_buildNumber_38 ?_
      refine lv_lmul hx hb dX12_buildNumber_41 ?_
      refine lv_topl (fun x23 ex23 => ?_)
      refine lv_lload_n hx hb dX12_buildNumber_42 rfl (lv_at hl 2 rfl) ?_
      refine W.lcmp hx hb dX12_buildNumber_43 ?_
      refine lv_topi (fun x24 ex24 => ?_)
      have tx24 : (x24.toInt = 0 ↔ x23.toInt = x2.toInt) ∧ (x24.toInt < 0 ↔ x23.toInt < x2.toInt) := z_lcmp ex24 rfl rfl
      refine lv_if_gt (tgt := 61) hx hb dX12_buildNumber_44 (by decide) (fun c25 => ?_) (fun c25 => ?_)
      · have c25 : 0 < x24.toInt := by have h := z_lt c25; rw [show (0 : Int32).toInt = 0 from by decide +kernel] at h; exact h
        refine lv_iconst (v := 0) hx hb dX12_buildNumber_61 (by decide +kernel) ?_
        refine lv_istore (lv' := [(6, .int 0), (4, .long y5), (2, .long x2), (0, .ref (ad 0)), (1, .int k0)]) hx hb dX12_buildNumber_62 hl (by decide) rfl (fun ls hl => ?_)
        have hP : RP D cy ad (rS (rA σ 58 (σ.2.1 58)) 59 (σ.1 59)) H := RP.cong hP (Eq.trans (b := (σ.1 0)) rfl rfl) (Eq.trans (b := (σ.1 1)) rfl rfl) (Eq.trans (b := (σ.2.1 2)) rfl rfl) (Eq.trans (b := (σ.1 3)) rfl rfl) (Eq.trans (b := (σ.2.1 4)) rfl rfl) (Eq.trans (b := (σ.2.1 5)) rfl rfl) (Eq.trans (b := (σ.2.2.1 6)) rfl rfl) (Eq.trans (b := (σ.2.1 7)) rfl rfl) (Eq.trans (b := (σ.1 8)) rfl rfl) (Eq.trans (b := (σ.1 9)) rfl rfl) (Eq.trans (b := (σ.1 10)) rfl rfl) (Eq.trans (b := (σ.2.1 11)) rfl rfl) (Eq.trans (b := (σ.2.2.1 12)) rfl rfl) (Eq.trans (b := (σ.2.1 13)) rfl rfl) (Eq.trans (b := (σ.1 14)) rfl rfl) (Eq.trans (b := (σ.1 15)) rfl rfl) (Eq.trans (b := (σ.1 16)) rfl rfl) (Eq.trans (b := (σ.1 17)) rfl rfl) (Eq.trans (b := (σ.1 18)) rfl rfl) (Eq.trans (b := (σ.1 19)) rfl rfl) (Eq.trans (b := (σ.2.1 20)) rfl rfl) (Eq.trans (b := (σ.2.1 21)) rfl rfl) (Eq.trans (b := (σ.2.1 22)) rfl rfl) (Eq.trans (b := (σ.2.1 23)) rfl rfl) (Eq.trans (b := (σ.2.1 24)) rfl rfl) (Eq.trans (b := (σ.2.1 25)) rfl rfl) (Eq.trans (b := (σ.2.1 26)) rfl rfl) (Eq.trans (b := (σ.2.1 27)) rfl rfl) (Eq.trans (b := (σ.2.1 28)) rfl rfl) (Eq.trans (b := (σ.1 29)) rfl rfl) (Eq.trans (b := (σ.2.1 30)) rfl rfl) (Eq.trans (b := (σ.2.1 31)) rfl rfl) (Eq.trans (b := (σ.2.1 32)) rfl rfl) (Eq.trans (b := (σ.1 33)) rfl rfl) (Eq.trans (b := (σ.1 34)) rfl rfl) (Eq.trans (b := (σ.1 35)) rfl rfl) (Eq.trans (b := (σ.2.1 36)) rfl rfl) (Eq.trans (b := (σ.2.1 37)) rfl rfl) (Eq.trans (b := (σ.2.1 38)) rfl rfl) (Eq.trans (b := (σ.2.1 39)) rfl rfl) (Eq.trans (b := (σ.2.1 40)) rfl rfl) (Eq.trans (b := (σ.2.1 41)) rfl rfl) (Eq.trans (b := (σ.2.1 42)) rfl rfl) (Eq.trans (b := (σ.2.1 43)) rfl rfl) (Eq.trans (b := (σ.2.1 44)) rfl rfl) (Eq.trans (b := (σ.2.1 45)) rfl rfl) (Eq.trans (b := (σ.2.1 46)) rfl rfl) (Eq.trans (b := (σ.1 47)) rfl rfl) (Eq.trans (b := (σ.2.1 48)) rfl rfl) (Eq.trans (b := (σ.1 49)) rfl rfl) (Eq.trans (b := (σ.2.1 50)) rfl rfl) (Eq.trans (b := (σ.2.1 51)) rfl rfl) (Eq.trans (b := (σ.2.2.1 52)) rfl rfl) (Eq.trans (b := (σ.2.2.1 53)) rfl rfl) (Eq.trans (b := (σ.2.2.2)) rfl rfl) (Eq.trans (b := (σ.1 55)) rfl rfl) (Eq.trans (b := (σ.1 56)) rfl rfl) (Eq.trans (b := (σ.1 57)) rfl rfl) (Eq.trans (b := (σ.2.1 58)) rfl rfl) (Eq.trans (b := (σ.1 59)) rfl rfl)
        exact L_buildNumber_64_3 l D cy sz0 sa ad sz σ k0 x2 y4 y5 x23 x24 C hpre_0 hpre_1 c1 ex2 tx2 c3 hi29_0 hi29_1 hi29y c6 ex23 tx24 c25 n29 hn29 ih29 ((11 - (0 : Int32).toInt).toNat + 1) (0 : Int32) y5 (σ.2.1 58) (σ.1 59) _ _ _ (Nat.lt_succ_self _) ⟨(v_buildNumber_3 σ hpre_0 hpre_1), (v_buildNumber_13 σ k0 x2 y4 y5 x23 x24 hpre_0 hpre_1 c1 ex2 tx2 c3 hi29_0 hi29_1 hi29y c6 ex23 tx24 c25)⟩ hP hS (lv_sub hl [0, 1, 2, 3, 4] rfl)
      · have c25 : x24.toInt ≤ 0 := by have h := z_nlt c25; rw [show (0 : Int32).toInt = 0 from by decide +kernel] at h; exact h
        refine lv_lload hx hb dX12_buildNumber_47 (lv_at hl 1 rfl) ?_
        refine lv_ldc2 (v := 10) hx hb hown (hw _ wm_22) dX12_buildNumber_49 ?_
        refine lv_lmul hx hb dX12_buildNumber_52 ?_
        refine lv_topl (fun x42 ex42 => ?_)
        refine lv_lstore (lv' := [(4, .long x42), (6, .int y4), (2, .long x2), (0, .ref (ad 0)), (1, .int k0)]) hx hb dX12_buildNumber_53 hl (by decide) rfl (fun ls hl => ?_)
        obtain ⟨x43, ex43⟩ : ∃ y : Int32, y = y4 + (1 : Int32) := ⟨_, rfl⟩
        have tx43 : x43.toInt = y4.toInt + 1 := (v_buildNumber_22 y4 x43 hi29_0 hi29_1 c6 ex43)
        refine lv_iinc (v := x43) (lv' := [(6, .int x43), (4, .long x42), (2, .long x2), (0, .ref (ad 0)), (1, .int k0)]) hx hb dX12_buildNumber_55 hl (k := 1) rfl (by rw [ex43]; rfl) (by decide) rfl (fun ls hl => ?_)
        refine lv_goto (tgt := 29) hx hb dX12_buildNumber_58 (by decide) ?_
        exact ih29 x43 x42 _ _ _ (Nat.lt_of_lt_of_le (v_buildNumber_25 y4 x43 hi29_0 hi29_1 c6 ex43 tx43) (Nat.le_of_lt_succ hn29)) ⟨(v_buildNumber_23 y4 x43 hi29_0 hi29_1 c6 ex43 tx43), (v_buildNumber_24 σ k0 x2 y4 y5 x23 x24 x42 x43 hpre_0 hpre_1 c1 ex2 tx2 c3 hi29_0 hi29_1 hi29y c6 ex23 tx24 c25 ex42 ex43 tx43)⟩ hP hS (lv_sub hl [0, 1, 2, 3, 4] rfl)
set_option maxHeartbeats 4000000 in
set_option maxRecDepth 100000 in
theorem L_buildNumber_64_5 {p : Program} {e : Env} {s : State} {m : MethodId} {below : List Frame} {meth : Method} {c : Code} (l : Launch) (D : va_G) (cy : Nat → ClassId) (sz0 : Nat) (sa : Nat → Nat) (ad : Nat → Nat) (sz : Nat) (σ : RS) (k0 : Int32) (x44 : Int64) (x45 : Int64) (F48 : (Nat → Int32)) (n49 : Int32) (y50 : Int32) (y51 : Int64) (C : RC p s m #[.ref (ad 0), .int k0] meth c cX12_buildNumber 7 none D cy sz0 sa ad (AR cy ad sz)) (hpre_0 : 0 ≤ (σ.1 59).toInt) (hpre_1 : (σ.1 59).toInt ≤ 48) (c1 : k0.toInt < 0) (ex44 : x44 = Int32.toInt64 k0) (tx44 : x44.toInt = k0.toInt) (ex45 : x45 = -x44) (c46 : k0.toInt < 0) (hr47y : ∀ s9 : List Int, QB (σ.2.1 58) (σ.1 59) s9 → s9.length < 48 → QB F48 n49 (s9 ++ [(45 : Int32).toInt])) (hr47_0 : 0 ≤ n49.toInt) (hr47_1 : n49.toInt ≤ 48) (hi29_0 : 0 ≤ y50.toInt) (hi29_1 : y50.toInt ≤ 10) (hi29y : ∃ e9 : Nat, (e9 : Int) = y50.toInt ∧ y51.toInt = ((10 ^ e9 : Nat) : Int) ∧ e9 ≤ 10 ∧ (e9 = 0 ∨ 10 ^ e9 ≤ k0.toInt.natAbs)) (c52 : 10 ≤ y50.toInt) (n29 : Nat) (hn29 : (10 - y50.toInt).toNat < n29 + 1) (ih29 : ∀ (y50 : Int32) (y51 : Int64) (H : Heap) (locs : List Loc) (ls : Array Slot), (10 - y50.toInt).toNat < n29 → ((0 ≤ y50.toInt ∧ y50.toInt ≤ 10) ∧ (∃ e9 : Nat, (e9 : Int) = y50.toInt ∧ y51.toInt = ((10 ^ e9 : Nat) : Int) ∧ e9 ≤ 10 ∧ (e9 = 0 ∨ 10 ^ e9 ≤ k0.toInt.natAbs))) → RP D cy ad (rS (rA σ 58 F48) 59 n49) H → va_S (AR cy ad sz) s.heap H locs → lv_has ls 7 [(6, .int y50), (4, .long y51), (2, .long x45), (0, .ref (ad 0)), (1, .int k0)] → W p l e (headSpec (Cond.code yX12_buildNumber cX12_buildNumber 7 none :: GWm) ({ frames := 1, cells := 0, slots := 0, locals := 21 })).room s m #[.ref (ad 0), .int k0] below meth c H locs 0 0 (MQ below (va_Qv (fun (u : (Nat → Int32) × Int32) => (0 ≤ u.2.toInt ∧ u.2.toInt ≤ 48) ∧ (∀ s9 : List Int, QB (σ.2.1 58) (σ.1 59) s9 → s9.length ≤ 36 → QB u.1 u.2 (s9 ++ qDec k0.toInt))) (fun (u : (Nat → Int32) × Int32) (t : State) => RP D cy ad (rS (rA σ 58 u.1) 59 u.2) t.heap) (AR cy ad sz)) #[.ref (ad 0), .int k0] s 0 0 (AR cy ad sz)) (F0 m 29 ls [])) : ∀ (n : Nat) (y53 : Int32) (y54 : Int64) (F55 : (Nat → Int32)) (n56 : Int32) (H : Heap) (locs : List Loc) (ls : Array Slot), (11 - y53.toInt).toNat < n → ((0 ≤ n56.toInt ∧ n56.toInt ≤ 48 ∧ 0 ≤ y53.toInt ∧ y53.toInt ≤ 11) ∧ (QNL (σ.2.1 58) (σ.1 59) F55 n56 k0.toInt y54.toInt y53.toInt)) → RP D cy ad (rS (rA (rS (rA σ 58 F48) 59 n49) 58 F55) 59 n56) H → va_S (AR cy ad sz) s.heap H locs → lv_has ls 7 [(6, .int y53), (4, .long y54), (2, .long x45), (0, .ref (ad 0)), (1, .int k0)] → W p l e (headSpec (Cond.code yX12_buildNumber cX12_buildNumber 7 none :: GWm) ({ frames := 1, cells := 0, slots := 0, locals := 21 })).room s m #[.ref (ad 0), .int k0] below meth c H locs 0 0 (MQ below (va_Qv (fun (u : (Nat → Int32) × Int32) => (0 ≤ u.2.toInt ∧ u.2.toInt ≤ 48) ∧ (∀ s9 : List Int, QB (σ.2.1 58) (σ.1 59) s9 → s9.length ≤ 36 → QB u.1 u.2 (s9 ++ qDec k0.toInt))) (fun (u : (Nat → Int32) × Int32) (t : State) => RP D cy ad (rS (rA σ 58 u.1) 59 u.2) t.heap) (AR cy ad sz)) #[.ref (ad 0), .int k0] s 0 0 (AR cy ad sz)) (F0 m 64 ls []) := by
  have hx := C.1
  have hb := C.2.1
  have hown := C.2.2.2.2.1
  have hw := C.2.2.2.2.2.1
  intro n
  induction n with
  | zero => intro y53 y54 F55 n56 H locs ls hn; exact absurd hn (Nat.not_lt_zero _)
  | succ n64 ih64 =>
    intro y53 y54 F55 n56 H locs ls hn64 hi64 hP hS hl
    obtain ⟨hi64, hi64y⟩ := hi64
    obtain ⟨hi64_0, hi64_1, hi64_2, hi64_3⟩ := hi64
    refine lv_iload hx hb dX12_buildNumber_64 (lv_at hl 0 rfl) ?_
    refine lv_bipush (v := 11) hx hb dX12_buildNumber_66 (by decide +kernel) ?_
    refine lv_icmp_ge (tgt := 109) hx hb dX12_buildNumber_68 (by decide) (fun c57 => ?_) (fun c57 => ?_)
    · have c57 : 11 ≤ y53.toInt := by have h := z_le c57; rw [show (11 : Int32).toInt = 11 from by decide +kernel] at h; exact h
      have hP : RP D cy ad (rS (rA σ 58 F55) 59 n56) H := RP.cong hP (Eq.trans (b := (σ.1 0)) rfl rfl) (Eq.trans (b := (σ.1 1)) rfl rfl) (Eq.trans (b := (σ.2.1 2)) rfl rfl) (Eq.trans (b := (σ.1 3)) rfl rfl) (Eq.trans (b := (σ.2.1 4)) rfl rfl) (Eq.trans (b := (σ.2.1 5)) rfl rfl) (Eq.trans (b := (σ.2.2.1 6)) rfl rfl) (Eq.trans (b := (σ.2.1 7)) rfl rfl) (Eq.trans (b := (σ.1 8)) rfl rfl) (Eq.trans (b := (σ.1 9)) rfl rfl) (Eq.trans (b := (σ.1 10)) rfl rfl) (Eq.trans (b := (σ.2.1 11)) rfl rfl) (Eq.trans (b := (σ.2.2.1 12)) rfl rfl) (Eq.trans (b := (σ.2.1 13)) rfl rfl) (Eq.trans (b := (σ.1 14)) rfl rfl) (Eq.trans (b := (σ.1 15)) rfl rfl) (Eq.trans (b := (σ.1 16)) rfl rfl) (Eq.trans (b := (σ.1 17)) rfl rfl) (Eq.trans (b := (σ.1 18)) rfl rfl) (Eq.trans (b := (σ.1 19)) rfl rfl) (Eq.trans (b := (σ.2.1 20)) rfl rfl) (Eq.trans (b := (σ.2.1 21)) rfl rfl) (Eq.trans (b := (σ.2.1 22)) rfl rfl) (Eq.trans (b := (σ.2.1 23)) rfl rfl) (Eq.trans (b := (σ.2.1 24)) rfl rfl) (Eq.trans (b := (σ.2.1 25)) rfl rfl) (Eq.trans (b := (σ.2.1 26)) rfl rfl) (Eq.trans (b := (σ.2.1 27)) rfl rfl) (Eq.trans (b := (σ.2.1 28)) rfl rfl) (Eq.trans (b := (σ.1 29)) rfl rfl) (Eq.trans (b := (σ.2.1 30)) rfl rfl) (Eq.trans (b := (σ.2.1 31)) rfl rfl) (Eq.trans (b := (σ.2.1 32)) rfl rfl) (Eq.trans (b := (σ.1 33)) rfl rfl) (Eq.trans (b := (σ.1 34)) rfl rfl) (Eq.trans (b := (σ.1 35)) rfl rfl) (Eq.trans (b := (σ.2.1 36)) rfl rfl) (Eq.trans (b := (σ.2.1 37)) rfl rfl) (Eq.trans (b := (σ.2.1 38)) rfl rfl) (Eq.trans (b := (σ.2.1 39)) rfl rfl) (Eq.trans (b := (σ.2.1 40)) rfl rfl) (Eq.trans (b := (σ.2.1 41)) rfl rfl) (Eq.trans (b := (σ.2.1 42)) rfl rfl) (Eq.trans (b := (σ.2.1 43)) rfl rfl) (Eq.trans (b := (σ.2.1 44)) rfl rfl) (Eq.trans (b := (σ.2.1 45)) rfl rfl) (Eq.trans (b := (σ.2.1 46)) rfl rfl) (Eq.trans (b := (σ.1 47)) rfl rfl) (Eq.trans (b := (σ.2.1 48)) rfl rfl) (Eq.trans (b := (σ.1 49)) rfl rfl) (Eq.trans (b := (σ.2.1 50)) rfl rfl) (Eq.trans (b := (σ.2.1 51)) rfl rfl) (Eq.trans (b := (σ.2.2.1 52)) rfl rfl) (Eq.trans (b := (σ.2.2.1 53)) rfl rfl) (Eq.trans (b := (σ.2.2.2)) rfl rfl) (Eq.trans (b := (σ.1 55)) rfl rfl) (Eq.trans (b := (σ.1 56)) rfl rfl) (Eq.trans (b := (σ.1 57)) rfl rfl) (Eq.trans (b := F55) rfl rfl) (Eq.trans (b := n56) rfl rfl)
      exact r_retv C ⟨F55, n56⟩ ⟨(v_buildNumber_32 n56 hi64_0 hi64_1), (v_buildNumber_33 σ k0 x44 x45 F48 n49 y50 y51 y53 y54 F55 n56 hpre_0 hpre_1 c1 ex44 tx44 ex45 c46 hr47y hr47_0 hr47_1 hi29_0 hi29_1 hi29y c52 hi64_0 hi64_1 hi64_2 hi64_3 hi64y c57)⟩ hP hS dX12_buildNumber_109
    · have c57 : y53.toInt < 11 := by have h := z_nle c57; rw [show (11 : Int32).toInt = 11 from by decide +kernel] at h; exact h
      refine lv_lload hx hb dX12_buildNumber_71 (lv_at hl 1 rfl) ?_
      refine lv_lconst (v := 0) hx hb dX12_buildNumber_73 rfl ?_
      refine W.lcmp hx hb dX12_buildNumber_74 ?_
      refine lv_topi (fun x58 ex58 => ?_)
      have tx58 : (x58.toInt = 0 ↔ y54.toInt = 0) ∧ (x58.toInt < 0 ↔ y54.toInt < 0) := z_lcmp ex58 rfl (by decide +kernel)
      refine lv_if_le (tgt := 109) hx hb dX12_buildNumber_75 (by decide) (fun c59 => ?_) (fun c59 => ?_)
      · have c59 : x58.toInt ≤ 0 := by have h := z_le c59; rw [show (0 : Int32).toInt = 0 from by decide +kernel] at h; exact h
        have hP : RP D cy ad (rS (rA σ 58 F55) 59 n56) H := RP.cong hP (Eq.trans (b := (σ.1 0)) rfl rfl) (Eq.trans (b := (σ.1 1)) rfl rfl) (Eq.trans (b := (σ.2.1 2)) rfl rfl) (Eq.trans (b := (σ.1 3)) rfl rfl) (Eq.trans (b := (σ.2.1 4)) rfl rfl) (Eq.trans (b := (σ.2.1 5)) rfl rfl) (Eq.trans (b := (σ.2.2.1 6)) rfl rfl) (Eq.trans (b := (σ.2.1 7)) rfl rfl) (Eq.trans (b := (σ.1 8)) rfl rfl) (Eq.trans (b := (σ.1 9)) rfl rfl) (Eq.trans (b := (σ.1 10)) rfl rfl) (Eq.trans (b := (σ.2.1 11)) rfl rfl) (Eq.trans (b := (σ.2.2.1 12)) rfl rfl) (Eq.trans (b := (σ.2.1 13)) rfl rfl) (Eq.trans (b := (σ.1 14)) rfl rfl) (Eq.trans (b := (σ.1 15)) rfl rfl) (Eq.trans (b := (σ.1 16)) rfl rfl) (Eq.trans (b := (σ.1 17)) rfl rfl) (Eq.trans (b := (σ.1 18)) rfl rfl) (Eq.trans (b := (σ.1 19)) rfl rfl) (Eq.trans (b := (σ.2.1 20)) rfl rfl) (Eq.trans (b := (σ.2.1 21)) rfl rfl) (Eq.trans (b := (σ.2.1 22)) rfl rfl) (Eq.trans (b := (σ.2.1 23)) rfl rfl) (Eq.trans (b := (σ.2.1 24)) rfl rfl) (Eq.trans (b := (σ.2.1 25)) rfl rfl) (Eq.trans (b := (σ.2.1 26)) rfl rfl) (Eq.trans (b := (σ.2.1 27)) rfl rfl) (Eq.trans (b := (σ.2.1 28)) rfl rfl) (Eq.trans (b := (σ.1 29)) rfl rfl) (Eq.trans (b := (σ.2.1 30)) rfl rfl) (Eq.trans (b := (σ.2.1 31)) rfl rfl) (Eq.trans (b := (σ.2.1 32)) rfl rfl) (Eq.trans (b := (σ.1 33)) rfl rfl) (Eq.trans (b := (σ.1 34)) rfl rfl) (Eq.trans (b := (σ.1 35)) rfl rfl) (Eq.trans (b := (σ.2.1 36)) rfl rfl) (Eq.trans (b := (σ.2.1 37)) rfl rfl) (Eq.trans (b := (σ.2.1 38)) rfl rfl) (Eq.trans (b := (σ.2.1 39)) rfl rfl) (Eq.trans (b := (σ.2.1 40)) rfl rfl) (Eq.trans (b := (σ.2.1 41)) rfl rfl) (Eq.trans (b := (σ.2.1 42)) rfl rfl) (Eq.trans (b := (σ.2.1 43)) rfl rfl) (Eq.trans (b := (σ.2.1 44)) rfl rfl) (Eq.trans (b := (σ.2.1 45)) rfl rfl) (Eq.trans (b := (σ.2.1 46)) rfl rfl) (Eq.trans (b := (σ.1 47)) rfl rfl) (Eq.trans (b := (σ.2.1 48)) rfl rfl) (Eq.trans (b := (σ.1 49)) rfl rfl) (Eq.trans (b := (σ.2.1 50)) rfl rfl) (Eq.trans (b := (σ.2.1 51)) rfl rfl) (Eq.trans (b := (σ.2.2.1 52)) rfl rfl) (Eq.trans (b := (σ.2.2.1 53)) rfl rfl) (Eq.trans (b := (σ.2.2.2)) rfl rfl) (Eq.trans (b := (σ.1 55)) rfl rfl) (Eq.trans (b := (σ.1 56)) rfl rfl) (Eq.trans (b := (σ.1 57)) rfl rfl) (Eq.trans (b := F55) rfl rfl) (Eq.trans (b := n56) rfl rfl)
        exact r_retv C ⟨F55, n56⟩ ⟨(v_buildNumber_32 n56 hi64_0 hi64_1), (v_buildNumber_34 σ k0 x44 x45 F48 n49 y50 y51 y53 y54 F55 n56 x58 hpre_0 hpre_1 c1 ex44 tx44 ex45 c46 hr47y hr47_0 hr47_1 hi29_0 hi29_1 hi29y c52 hi64_0 hi64_1 hi64_2 hi64_3 hi64y c57 tx58 c59)⟩ hP hS dX12_buildNumber_109
      · have c59 : 0 < x58.toInt := by have h := z_nle c59; rw [show (0 : Int32).toInt = 0 from by decide +kernel] at h; exact h
        refine lv_aload_n hx hb dX12_buildNumber_78 rfl (lv_at hl 3 rfl) ?_
        refine lv_ldc2 (v := 48) hx hb hown (hw _ wm_23) dX12_buildNumber_79 ?_
        refine lv_lload_n hx hb dX12_buildNumber_82 rfl (lv_at hl 2 rfl) ?_
        refine lv_lload hx hb dX12_buildNumber_83 (lv_at hl 1 rfl) ?_
        refine lv_ldiv hx hb dX12_buildNumber_85 (v_buildNumber_35 y54 x58 tx58 c59) ?_
        refine lv_topl (fun x60 ex60 => ?_)
        refine lv_ldc2 (v := 10) hx hb hown (hw _ wm_22) dX12_buildNumber_86 ?_
        refine lv_lrem hx hb dX12_buildNumber_89 (by decide +kernel) ?_
        refine lv_topl (fun x61 ex61 => ?_)
        refine lv_ladd hx hb dX12_buildNumber_90 ?_
        refine lv_topl (fun x62 ex62 => ?_)
        refine lv_l2i hx hb dX12_buildNumber_91 rfl ?_
        refine lv_topi (fun x63 ex63 => ?_)
        have tx63 : -2147483648 ≤ x62.toInt → x62.toInt < 2147483648 → x63.toInt = x62.toInt := z_l2i ex63
        refine r_callVv (As := [.int x63]) (rest := []) C hP hS hl.1 ⟨Nat.zero_le _, Nat.zero_le _⟩ (M_build l D cy sz0 sa ad (rS (rA (rS (rA σ 58 F48) 59 n49) 58 F55) 59 n56) H.size x63 (v_buildNumber_32 n56 hi64_0 hi64_1)) (n := 1) ⟨wm_223, wm_219, by decide +kernel⟩ ⟨wm_224, wm_225, wm_10⟩ rfl rfl (lv_room (Nat.le_of_ble_eq_true rfl)) ⟨Nat.le_of_ble_eq_true rfl, Nat.le_of_ble_eq_true rfl⟩ dX12_buildNumber_92 (fun u H locs hr64 hP hS => ?_)
        obtain ⟨F65, n66⟩ := u
        obtain ⟨hr64, hr64y⟩ := hr64
        have hr64y : ∀ s9 : List Int, QB F55 n56 s9 → s9.length < 48 → QB F65 n66 (s9 ++ [x63.toInt]) := hr64y
        have hr64 : 0 ≤ n66.toInt ∧ n66.toInt ≤ 48 := hr64
        obtain ⟨hr64_0, hr64_1⟩ := hr64
        have hP : RP D cy ad (rS (rA (rS (rA (rS (rA σ 58 F48) 59 n49) 58 F55) 59 n56) 58 F65) 59 n66) H := hP
        refine lv_lload hx hb dX12_buildNumber_95 (lv_at hl 1 rfl) ?_
        refine lv_ldc2 (v := 10) hx hb hown (hw _ wm_22) dX12_buildNumber_97 ?_
        refine lv_ldiv hx hb dX12_buildNumber_100 (by decide +kernel) ?_
        refine lv_topl (fun x67 ex67 => ?_)
        refine lv_lstore (lv' := [(4, .long x67), (6, .int y53), (2, .long x45), (0, .ref (ad 0)), (1, .int k0)]) hx hb dX12_buildNumber_101 hl (by decide) rfl (fun ls hl => ?_)
        obtain ⟨x68, ex68⟩ : ∃ y : Int32, y = y53 + (1 : Int32) := ⟨_, rfl⟩
        have tx68 : x68.toInt = y53.toInt + 1 := (v_buildNumber_36 y53 x68 hi64_2 hi64_3 c57 ex68)
        refine lv_iinc (v := x68) (lv' := [(6, .int x68), (4, .long x67), (2, .long x45), (0, .ref (ad 0)), (1, .int k0)]) hx hb dX12_buildNumber_103 hl (k := 1) rfl (by rw [ex68]; rfl) (by decide) rfl (fun ls hl => ?_)
        refine lv_goto (tgt := 64) hx hb dX12_buildNumber_106 (by decide) ?_
        have hP : RP D cy ad (rS (rA (rS (rA σ 58 F48) 59 n49) 58 F65) 59 n66) H := RP.cong hP (Eq.trans (b := (σ.1 0)) rfl rfl) (Eq.trans (b := (σ.1 1)) rfl rfl) (Eq.trans (b := (σ.2.1 2)) rfl rfl) (Eq.trans (b := (σ.1 3)) rfl rfl) (Eq.trans (b := (σ.2.1 4)) rfl rfl) (Eq.trans (b := (σ.2.1 5)) rfl rfl) (Eq.trans (b := (σ.2.2.1 6)) rfl rfl) (Eq.trans (b := (σ.2.1 7)) rfl rfl) (Eq.trans (b := (σ.1 8)) rfl rfl) (Eq.trans (b := (σ.1 9)) rfl rfl) (Eq.trans (b := (σ.1 10)) rfl rfl) (Eq.trans (b := (σ.2.1 11)) rfl rfl) (Eq.trans (b := (σ.2.2.1 12)) rfl rfl) (Eq.trans (b := (σ.2.1 13)) rfl rfl) (Eq.trans (b := (σ.1 14)) rfl rfl) (Eq.trans (b := (σ.1 15)) rfl rfl) (Eq.trans (b := (σ.1 16)) rfl rfl) (Eq.trans (b := (σ.1 17)) rfl rfl) (Eq.trans (b := (σ.1 18)) rfl rfl) (Eq.trans (b := (σ.1 19)) rfl rfl) (Eq.trans (b := (σ.2.1 20)) rfl rfl) (Eq.trans (b := (σ.2.1 21)) rfl rfl) (Eq.trans (b := (σ.2.1 22)) rfl rfl) (Eq.trans (b := (σ.2.1 23)) rfl rfl) (Eq.trans (b := (σ.2.1 24)) rfl rfl) (Eq.trans (b := (σ.2.1 25)) rfl rfl) (Eq.trans (b := (σ.2.1 26)) rfl rfl) (Eq.trans (b := (σ.2.1 27)) rfl rfl) (Eq.trans (b := (σ.2.1 28)) rfl rfl) (Eq.trans (b := (σ.1 29)) rfl rfl) (Eq.trans (b := (σ.2.1 30)) rfl rfl) (Eq.trans (b := (σ.2.1 31)) rfl rfl) (Eq.trans (b := (σ.2.1 32)) rfl rfl) (Eq.trans (b := (σ.1 33)) rfl rfl) (Eq.trans (b := (σ.1 34)) rfl rfl) (Eq.trans (b := (σ.1 35)) rfl rfl) (Eq.trans (b := (σ.2.1 36)) rfl rfl) (Eq.trans (b := (σ.2.1 37)) rfl rfl) (Eq.trans (b := (σ.2.1 38)) rfl rfl) (Eq.trans (b := (σ.2.1 39)) rfl rfl) (Eq.trans (b := (σ.2.1 40)) rfl rfl) (Eq.trans (b := (σ.2.1 41)) rfl rfl) (Eq.trans (b := (σ.2.1 42)) rfl rfl) (Eq.trans (b := (σ.2.1 43)) rfl rfl) (Eq.trans (b := (σ.2.1 44)) rfl rfl) (Eq.trans (b := (σ.2.1 45)) rfl rfl) (Eq.trans (b := (σ.2.1 46)) rfl rfl) (Eq.trans (b := (σ.1 47)) rfl rfl) (Eq.trans (b := (σ.2.1 48)) rfl rfl) (Eq.trans (b := (σ.1 49)) rfl rfl) (Eq.trans (b := (σ.2.1 50)) rfl rfl) (Eq.trans (b := (σ.2.1 51)) rfl rfl) (Eq.trans (b := (σ.2.2.1 52)) rfl rfl) (Eq.trans (b := (σ.2.2.1 53)) rfl rfl) (Eq.trans (b := (σ.2.2.2)) rfl rfl) (Eq.trans (b := (σ.1 55)) rfl rfl) (Eq.trans (b := (σ.1 56)) rfl rfl) (Eq.trans (b := (σ.1 57)) rfl rfl) (Eq.trans (b := F65) rfl rfl) (Eq.trans (b := n66) rfl rfl)
        exact ih64 x68 x67 F65 n66 _ _ _ (Nat.lt_of_lt_of_le (v_buildNumber_39 y53 x68 hi64_2 hi64_3 c57 ex68 tx68) (Nat.le_of_lt_succ hn64)) ⟨(v_buildNumber_37 y53 n66 x68 hi64_2 hi64_3 c57 hr64_0 hr64_1 ex68 tx68), (v_buildNumber_38 σ k0 x44 x45 F48 n49 y50 y51 y53 y54 F55 n56 x58 x60 x61 x62 x63 F65 n66 x67 x68 hpre_0 hpre_1 c1 ex44 tx44 ex45 c46 hr47y hr47_0 hr47_1 hi29_0 hi29_1 hi29y c52 hi64_0 hi64_1 hi64_2 hi64_3 hi64y c57 tx58 c59 ex60 ex61 ex62 ex63 tx63 hr64y hr64_0 hr64_1 ex67 ex68 tx68)⟩ hP hS (lv_sub hl [0, 1, 2, 3, 4] rfl)
set_option maxHeartbeats 4000000 in
set_option maxRecDepth 100000 in
theorem L_buildNumber_64_6 {p : Program} {e : Env} {s : State} {m : MethodId} {below : List Frame} {meth : Method} {c : Code} (l : Launch) (D : va_G) (cy : Nat → ClassId) (sz0 : Nat) (sa : Nat → Nat) (ad : Nat → Nat) (sz : Nat) (σ : RS) (k0 : Int32) (x44 : Int64) (x45 : Int64) (F48 : (Nat → Int32)) (n49 : Int32) (y50 : Int32) (y51 : Int64) (x69 : Int64) (x70 : Int32) (C : RC p s m #[.ref (ad 0), .int k0] meth c cX12_buildNumber 7 none D cy sz0 sa ad (AR cy ad sz)) (hpre_0 : 0 ≤ (σ.1 59).toInt) (hpre_1 : (σ.1 59).toInt ≤ 48) (c1 : k0.toInt < 0) (ex44 : x44 = Int32.toInt64 k0) (tx44 : x44.toInt = k0.toInt) (ex45 : x45 = -x44) (c46 : k0.toInt < 0) (hr47y : ∀ s9 : List Int, QB (σ.2.1 58) (σ.1 59) s9 → s9.length < 48 → QB F48 n49 (s9 ++ [(45 : Int32).toInt])) (hr47_0 : 0 ≤ n49.toInt) (hr47_1 : n49.toInt ≤ 48) (hi29_0 : 0 ≤ y50.toInt) (hi29_1 : y50.toInt ≤ 10) (hi29y : ∃ e9 : Nat, (e9 : Int) = y50.toInt ∧ y51.toInt = ((10 ^ e9 : Nat) : Int) ∧ e9 ≤ 10 ∧ (e9 = 0 ∨ 10 ^ e9 ≤ k0.toInt.natAbs)) (c52 : y50.toInt < 10) (ex69 : x69 = y51 * (10 : Int64)) (tx70 : (x70.toInt = 0 ↔ x69.toInt = x45.toInt) ∧ (x70.toInt < 0 ↔ x69.toInt < x45.toInt)) (c71 : 0 < x70.toInt) (n29 : Nat) (hn29 : (10 - y50.toInt).toNat < n29 + 1) (ih29 : ∀ (y50 : Int32) (y51 : Int64) (H : Heap) (locs : List Loc) (ls : Array Slot), (10 - y50.toInt).toNat < n29 → ((0 ≤ y50.toInt ∧ y50.toInt ≤ 10) ∧ (∃ e9 : Nat, (e9 : Int) = y50.toInt ∧ y51.toInt = ((10 ^ e9 : Nat) : Int) ∧ e9 ≤ 10 ∧ (e9 = 0 ∨ 10 ^ e9 ≤ k0.toInt.natAbs))) → RP D cy ad (rS (rA σ 58 F48) 59 n49) H → va_S (AR cy ad sz) s.heap H locs → lv_has ls 7 [(6, .int y50), (4, .long y51), (2, .long x45), (0, .ref (ad 0)), (1, .int k0)] → W p l e (headSpec (Cond.code yX12_buildNumber cX12_buildNumber 7 none :: GWm) ({ frames := 1, cells := 0, slots := 0, locals := 21 })).room s m #[.ref (ad 0), .int k0] below meth c H locs 0 0 (MQ below (va_Qv (fun (u : (Nat → Int32) × Int32) => (0 ≤ u.2.toInt ∧ u.2.toInt ≤ 48) ∧ (∀ s9 : List Int, QB (σ.2.1 58) (σ.1 59) s9 → s9.length ≤ 36 → QB u.1 u.2 (s9 ++ qDec k0.toInt))) (fun (u : (Nat → Int32) × Int32) (t : State) => RP D cy ad (rS (rA σ 58 u.1) 59 u.2) t.heap) (AR cy ad sz)) #[.ref (ad 0), .int k0] s 0 0 (AR cy ad sz)) (F0 m 29 ls [])) : ∀ (n : Nat) (y72 : Int32) (y73 : Int64) (F74 : (Nat → Int32)) (n75 : Int32) (H : Heap) (locs : List Loc) (ls : Array Slot), (11 - y72.toInt).toNat < n → ((0 ≤ n75.toInt ∧ n75.toInt ≤ 48 ∧ 0 ≤ y72.toInt ∧ y72.toInt ≤ 11) ∧ (QNL (σ.2.1 58) (σ.1 59) F74 n75 k0.toInt y73.toInt y72.toInt)) → RP D cy ad (rS (rA (rS (rA σ 58 F48) 59 n49) 58 F74) 59 n75) H → va_S (AR cy ad sz) s.heap H locs → lv_has ls 7 [(6, .int y72), (4, .long y73), (2, .long x45), (0, .ref (ad 0)), (1, .int k0)] → W p l e (headSpec (Cond.code yX12_buildNumber cX12_buildNumber 7 none :: GWm) ({ frames := 1, cells := 0, slots := 0, locals := 21 })).room s m #[.ref (ad 0), .int k0] below meth c H locs 0 0 (MQ below (va_Qv (fun (u : (Nat → Int32) × Int32) => (0 ≤ u.2.toInt ∧ u.2.toInt ≤ 48) ∧ (∀ s9 : List Int, QB (σ.2.1 58) (σ.1 59) s9 → s9.length ≤ 36 → QB u.1 u.2 (s9 ++ qDec k0.toInt))) (fun (u : (Nat → Int32) × Int32) (t : State) => RP D cy ad (rS (rA σ 58 u.1) 59 u.2) t.heap) (AR cy ad sz)) #[.ref (ad 0), .int k0] s 0 0 (AR cy ad sz)) (F0 m 64 ls []) := by
  have hx := C.1
  have hb := C.2.1
  have hown := C.2.2.2.2.1
  have hw := C.2.2.2.2.2.1
  intro n
  induction n with
  | zero => intro y72 y73 F74 n75 H locs ls hn; exact absurd hn (Nat.not_lt_zero _)
  | succ n64 ih64 =>
    intro y72 y73 F74 n75 H locs ls hn64 hi64 hP hS hl
    obtain ⟨hi64, hi64y⟩ := hi64
    obtain ⟨hi64_0, hi64_1, hi64_2, hi64_3⟩ := hi64
    refine lv_iload hx hb dX12_buildNumber_64 (lv_at hl 0 rfl) ?_
    refine lv_bipush (v := 11) hx hb dX12_buildNumber_66 (by decide +kernel) ?_
    refine lv_icmp_ge (tgt := 109) hx hb dX12_buildNumber_68 (by decide) (fun c76 => ?_) (fun c76 => ?_)
    · have c76 : 11 ≤ y72.toInt := by have h := z_le c76; rw [show (11 : Int32).toInt = 11 from by decide +kernel] at h; exact h
      have hP : RP D cy ad (rS (rA σ 58 F74) 59 n75) H := RP.cong hP (Eq.trans (b := (σ.1 0)) rfl rfl) (Eq.trans (b := (σ.1 1)) rfl rfl) (Eq.trans (b := (σ.2.1 2)) rfl rfl) (Eq.trans (b := (σ.1 3)) rfl rfl) (Eq.trans (b := (σ.2.1 4)) rfl rfl) (Eq.trans (b := (σ.2.1 5)) rfl rfl) (Eq.trans (b := (σ.2.2.1 6)) rfl rfl) (Eq.trans (b := (σ.2.1 7)) rfl rfl) (Eq.trans (b := (σ.1 8)) rfl rfl) (Eq.trans (b := (σ.1 9)) rfl rfl) (Eq.trans (b := (σ.1 10)) rfl rfl) (Eq.trans (b := (σ.2.1 11)) rfl rfl) (Eq.trans (b := (σ.2.2.1 12)) rfl rfl) (Eq.trans (b := (σ.2.1 13)) rfl rfl) (Eq.trans (b := (σ.1 14)) rfl rfl) (Eq.trans (b := (σ.1 15)) rfl rfl) (Eq.trans (b := (σ.1 16)) rfl rfl) (Eq.trans (b := (σ.1 17)) rfl rfl) (Eq.trans (b := (σ.1 18)) rfl rfl) (Eq.trans (b := (σ.1 19)) rfl rfl) (Eq.trans (b := (σ.2.1 20)) rfl rfl) (Eq.trans (b := (σ.2.1 21)) rfl rfl) (Eq.trans (b := (σ.2.1 22)) rfl rfl) (Eq.trans (b := (σ.2.1 23)) rfl rfl) (Eq.trans (b := (σ.2.1 24)) rfl rfl) (Eq.trans (b := (σ.2.1 25)) rfl rfl) (Eq.trans (b := (σ.2.1 26)) rfl rfl) (Eq.trans (b := (σ.2.1 27)) rfl rfl) (Eq.trans (b := (σ.2.1 28)) rfl rfl) (Eq.trans (b := (σ.1 29)) rfl rfl) (Eq.trans (b := (σ.2.1 30)) rfl rfl) (Eq.trans (b := (σ.2.1 31)) rfl rfl) (Eq.trans (b := (σ.2.1 32)) rfl rfl) (Eq.trans (b := (σ.1 33)) rfl rfl) (Eq.trans (b := (σ.1 34)) rfl rfl) (Eq.trans (b := (σ.1 35)) rfl rfl) (Eq.trans (b := (σ.2.1 36)) rfl rfl) (Eq.trans (b := (σ.2.1 37)) rfl rfl) (Eq.trans (b := (σ.2.1 38)) rfl rfl) (Eq.trans (b := (σ.2.1 39)) rfl rfl) (Eq.trans (b := (σ.2.1 40)) rfl rfl) (Eq.trans (b := (σ.2.1 41)) rfl rfl) (Eq.trans (b := (σ.2.1 42)) rfl rfl) (Eq.trans (b := (σ.2.1 43)) rfl rfl) (Eq.trans (b := (σ.2.1 44)) rfl rfl) (Eq.trans (b := (σ.2.1 45)) rfl rfl) (Eq.trans (b := (σ.2.1 46)) rfl rfl) (Eq.trans (b := (σ.1 47)) rfl rfl) (Eq.trans (b := (σ.2.1 48)) rfl rfl) (Eq.trans (b := (σ.1 49)) rfl rfl) (Eq.trans (b := (σ.2.1 50)) rfl rfl) (Eq.trans (b := (σ.2.1 51)) rfl rfl) (Eq.trans (b := (σ.2.2.1 52)) rfl rfl) (Eq.trans (b := (σ.2.2.1 53)) rfl rfl) (Eq.trans (b := (σ.2.2.2)) rfl rfl) (Eq.trans (b := (σ.1 55)) rfl rfl) (Eq.trans (b := (σ.1 56)) rfl rfl) (Eq.trans (b := (σ.1 57)) rfl rfl) (Eq.trans (b := F74) rfl rfl) (Eq.trans (b := n75) rfl rfl)
      exact r_retv C ⟨F74, n75⟩ ⟨(v_buildNumber_41 n75 hi64_0 hi64_1), (v_buildNumber_42 σ k0 x44 x45 F48 n49 y50 y51 x69 x70 y72 y73 F74 n75 hpre_0 hpre_1 c1 ex44 tx44 ex45 c46 hr47y hr47_0 hr47_1 hi29_0 hi29_1 hi29y c52 ex69 tx70 c71 hi64_0 hi64_1 hi64_2 hi64_3 hi64y c76)⟩ hP hS dX12_buildNumber_109
    · have c76 : y72.toInt < 11 := by have h := z_nle c76; rw [show (11 : Int32).toInt = 11 from by decide +kernel] at h; exact h
      refine lv_lload hx hb dX12_buildNumber_71 (lv_at hl 1 rfl) ?_
      refine lv_lconst (v := 0) hx hb dX12_buildNumber_73 rfl ?_
      refine W.lcmp hx hb dX12_buildNumber_74 ?_
      refine lv_topi (fun x77 ex77 => ?_)
      have tx77 : (x77.toInt = 0 ↔ y73.toInt = 0) ∧ (x77.toInt < 0 ↔ y73.toInt < 0) := z_lcmp ex77 rfl (by decide +kernel)
      refine lv_if_le (tgt := 109) hx hb dX12_buildNumber_75 (by decide) (fun c78 => ?_) (fun c78 => ?_)
      · have c78 : x77.toInt ≤ 0 := by have h := z_le c78; rw [show (0 : Int32).toInt = 0 from by decide +kernel] at h; exact h
        have hP : RP D cy ad (rS (rA σ 58 F74) 59 n75) H := RP.cong hP (Eq.trans (b := (σ.1 0)) rfl rfl) (Eq.trans (b := (σ.1 1)) rfl rfl) (Eq.trans (b := (σ.2.1 2)) rfl rfl) (Eq.trans (b := (σ.1 3)) rfl rfl) (Eq.trans (b := (σ.2.1 4)) rfl rfl) (Eq.trans (b := (σ.2.1 5)) rfl rfl) (Eq.trans (b := (σ.2.2.1 6)) rfl rfl) (Eq.trans (b := (σ.2.1 7)) rfl rfl) (Eq.trans (b := (σ.1 8)) rfl rfl) (Eq.trans (b := (σ.1 9)) rfl rfl) (Eq.trans (b := (σ.1 10)) rfl rfl) (Eq.trans (b := (σ.2.1 11)) rfl rfl) (Eq.trans (b := (σ.2.2.1 12)) rfl rfl) (Eq.trans (b := (σ.2.1 13)) rfl rfl) (Eq.trans (b := (σ.1 14)) rfl rfl) (Eq.trans (b := (σ.1 15)) rfl rfl) (Eq.trans (b := (σ.1 16)) rfl rfl) (Eq.trans (b := (σ.1 17)) rfl rfl) (Eq.trans (b := (σ.1 18)) rfl rfl) (Eq.trans (b := (σ.1 19)) rfl rfl) (Eq.trans (b := (σ.2.1 20)) rfl rfl) (Eq.trans (b := (σ.2.1 21)) rfl rfl) (Eq.trans (b := (σ.2.1 22)) rfl rfl) (Eq.trans (b := (σ.2.1 23)) rfl rfl) (Eq.trans (b := (σ.2.1 24)) rfl rfl) (Eq.trans (b := (σ.2.1 25)) rfl rfl) (Eq.trans (b := (σ.2.1 26)) rfl rfl) (Eq.trans (b := (σ.2.1 27)) rfl rfl) (Eq.trans (b := (σ.2.1 28)) rfl rfl) (Eq.trans (b := (σ.1 29)) rfl rfl) (Eq.trans (b := (σ.2.1 30)) rfl rfl) (Eq.trans (b := (σ.2.1 31)) rfl rfl) (Eq.trans (b := (σ.2.1 32)) rfl rfl) (Eq.trans (b := (σ.1 33)) rfl rfl) (Eq.trans (b := (σ.1 34)) rfl rfl) (Eq.trans (b := (σ.1 35)) rfl rfl) (Eq.trans (b := (σ.2.1 36)) rfl rfl) (Eq.trans (b := (σ.2.1 37)) rfl rfl) (Eq.trans (b := (σ.2.1 38)) rfl rfl) (Eq.trans (b := (σ.2.1 39)) rfl rfl) (Eq.trans (b := (σ.2.1 40)) rfl rfl) (Eq.trans (b := (σ.2.1 41)) rfl rfl) (Eq.trans (b := (σ.2.1 42)) rfl rfl) (Eq.trans (b := (σ.2.1 43)) rfl rfl) (Eq.trans (b := (σ.2.1 44)) rfl rfl) (Eq.trans (b := (σ.2.1 45)) rfl rfl) (Eq.trans (b := (σ.2.1 46)) rfl rfl) (Eq.trans (b := (σ.1 47)) rfl rfl) (Eq.trans (b := (σ.2.1 48)) rfl rfl) (Eq.trans (b := (σ.1 49)) rfl rfl) (Eq.trans (b := (σ.2.1 50)) rfl rfl) (Eq.trans (b := (σ.2.1 51)) rfl rfl) (Eq.trans (b := (σ.2.2.1 52)) rfl rfl) (Eq.trans (b := (σ.2.2.1 53)) rfl rfl) (Eq.trans (b := (σ.2.2.2)) rfl rfl) (Eq.trans (b := (σ.1 55)) rfl rfl) (Eq.trans (b := (σ.1 56)) rfl rfl) (Eq.trans (b := (σ.1 57)) rfl rfl) (Eq.trans (b := F74) rfl rfl) (Eq.trans (b := n75) rfl rfl)
        exact r_retv C ⟨F74, n75⟩ ⟨(v_buildNumber_41 n75 hi64_0 hi64_1), (v_buildNumber_43 σ k0 x44 x45 F48 n49 y50 y51 x69 x70 y72 y73 F74 n75 x77 hpre_0 hpre_1 c1 ex44 tx44 ex45 c46 hr47y hr47_0 hr47_1 hi29_0 hi29_1 hi29y c52 ex69 tx70 c71 hi64_0 hi64_1 hi64_2 hi64_3 hi64y c76 tx77 c78)⟩ hP hS dX12_buildNumber_109
      · have c78 : 0 < x77.toInt := by have h := z_nle c78; rw [show (0 : Int32).toInt = 0 from by decide +kernel] at h; exact h
        refine lv_aload_n hx hb dX12_buildNumber_78 rfl (lv_at hl 3 rfl) ?_
        refine lv_ldc2 (v := 48) hx hb hown (hw _ wm_23) dX12_buildNumber_79 ?_
        refine lv_lload_n hx hb dX12_buildNumber_82 rfl (lv_at hl 2 rfl) ?_
        refine lv_lload hx hb dX12_buildNumber_83 (lv_at hl 1 rfl) ?_
        refine lv_ldiv hx hb dX12_buildNumber_85 (v_buildNumber_44 y73 x77 tx77 c78) ?_
        refine lv_topl (fun x79 ex79 => ?_)
        refine lv_ldc2 (v := 10) hx hb hown (hw _ wm_22) dX12_buildNumber_86 ?_
        refine lv_lrem hx hb dX12_buildNumber_89 (by decide +kernel) ?_
        refine lv_topl (fun x80 ex80 => ?_)
        refine lv_ladd hx hb dX12_buildNumber_90 ?_
        refine lv_topl (fun x81 ex81 => ?_)
        refine lv_l2i hx hb dX12_buildNumber_91 rfl ?_
        refine lv_topi (fun x82 ex82 => ?_)
        have tx82 : -2147483648 ≤ x81.toInt → x81.toInt < 2147483648 → x82.toInt = x81.toInt := z_l2i ex82
        refine r_callVv (As := [.int x82]) (rest := []) C hP hS hl.1 ⟨Nat.zero_le _, Nat.zero_le _⟩ (M_build l D cy sz0 sa ad (rS (rA (rS (rA σ 58 F48) 59 n49) 58 F74) 59 n75) H.size x82 (v_buildNumber_41 n75 hi64_0 hi64_1)) (n := 1) ⟨wm_223, wm_219, by decide +kernel⟩ ⟨wm_224, wm_225, wm_10⟩ rfl rfl (lv_room (Nat.le_of_ble_eq_true rfl)) ⟨Nat.le_of_ble_eq_true rfl, Nat.le_of_ble_eq_true rfl⟩ dX12_buildNumber_92 (fun u H locs hr83 hP hS => ?_)
        obtain ⟨F84, n85⟩ := u
        obtain ⟨hr83, hr83y⟩ := hr83
        have hr83y : ∀ s9 : List Int, QB F74 n75 s9 → s9.length < 48 → QB F84 n85 (s9 ++ [x82.toInt]) := hr83y
        have hr83 : 0 ≤ n85.toInt ∧ n85.toInt ≤ 48 := hr83
        obtain ⟨hr83_0, hr83_1⟩ := hr83
        have hP : RP D cy ad (rS (rA (rS (rA (rS (rA σ 58 F48) 59 n49) 58 F74) 59 n75) 58 F84) 59 n85) H := hP
        refine lv_lload hx hb dX12_buildNumber_95 (lv_at hl 1 rfl) ?_
        refine lv_ldc2 (v := 10) hx hb hown (hw _ wm_22) dX12_buildNumber_97 ?_
        refine lv_ldiv hx hb dX12_buildNumber_100 (by decide +kernel) ?_
        refine lv_topl (fun x86 ex86 => ?_)
        refine lv_lstore (lv' := [(4, .long x86), (6, .int y72), (2, .long x45), (0, .ref (ad 0)), (1, .int k0)]) hx hb dX12_buildNumber_101 hl (by decide) rfl (fun ls hl => ?_)
        obtain ⟨x87, ex87⟩ : ∃ y : Int32, y = y72 + (1 : Int32) := ⟨_, rfl⟩
        have tx87 : x87.toInt = y72.toInt + 1 := (v_buildNumber_45 y72 x87 hi64_2 hi64_3 c76 ex87)
        refine lv_iinc (v := x87) (lv' := [(6, .int x87), (4, .long x86), (2, .long x45), (0, .ref (ad 0)), (1, .int k0)]) hx hb dX12_buildNumber_103 hl (k := 1) rfl (by rw [ex87]; rfl) (by decide) rfl (fun ls hl => ?_)
        refine lv_goto (tgt := 64) hx hb dX12_buildNumber_106 (by decide) ?_
        have hP : RP D cy ad (rS (rA (rS (rA σ 58 F48) 59 n49) 58 F84) 59 n85) H := RP.cong hP (Eq.trans (b := (σ.1 0)) rfl rfl) (Eq.trans (b := (σ.1 1)) rfl rfl) (Eq.trans (b := (σ.2.1 2)) rfl rfl) (Eq.trans (b := (σ.1 3)) rfl rfl) (Eq.trans (b := (σ.2.1 4)) rfl rfl) (Eq.trans (b := (σ.2.1 5)) rfl rfl) (Eq.trans (b := (σ.2.2.1 6)) rfl rfl) (Eq.trans (b := (σ.2.1 7)) rfl rfl) (Eq.trans (b := (σ.1 8)) rfl rfl) (Eq.trans (b := (σ.1 9)) rfl rfl) (Eq.trans (b := (σ.1 10)) rfl rfl) (Eq.trans (b := (σ.2.1 11)) rfl rfl) (Eq.trans (b := (σ.2.2.1 12)) rfl rfl) (Eq.trans (b := (σ.2.1 13)) rfl rfl) (Eq.trans (b := (σ.1 14)) rfl rfl) (Eq.trans (b := (σ.1 15)) rfl rfl) (Eq.trans (b := (σ.1 16)) rfl rfl) (Eq.trans (b := (σ.1 17)) rfl rfl) (Eq.trans (b := (σ.1 18)) rfl rfl) (Eq.trans (b := (σ.1 19)) rfl rfl) (Eq.trans (b := (σ.2.1 20)) rfl rfl) (Eq.trans (b := (σ.2.1 21)) rfl rfl) (Eq.trans (b := (σ.2.1 22)) rfl rfl) (Eq.trans (b := (σ.2.1 23)) rfl rfl) (Eq.trans (b := (σ.2.1 24)) rfl rfl) (Eq.trans (b := (σ.2.1 25)) rfl rfl) (Eq.trans (b := (σ.2.1 26)) rfl rfl) (Eq.trans (b := (σ.2.1 27)) rfl rfl) (Eq.trans (b := (σ.2.1 28)) rfl rfl) (Eq.trans (b := (σ.1 29)) rfl rfl) (Eq.trans (b := (σ.2.1 30)) rfl rfl) (Eq.trans (b := (σ.2.1 31)) rfl rfl) (Eq.trans (b := (σ.2.1 32)) rfl rfl) (Eq.trans (b := (σ.1 33)) rfl rfl) (Eq.trans (b := (σ.1 34)) rfl rfl) (Eq.trans (b := (σ.1 35)) rfl rfl) (Eq.trans (b := (σ.2.1 36)) rfl rfl) (Eq.trans (b := (σ.2.1 37)) rfl rfl) (Eq.trans (b := (σ.2.1 38)) rfl rfl) (Eq.trans (b := (σ.2.1 39)) rfl rfl) (Eq.trans (b := (σ.2.1 40)) rfl rfl) (Eq.trans (b := (σ.2.1 41)) rfl rfl) (Eq.trans (b := (σ.2.1 42)) rfl rfl) (Eq.trans (b := (σ.2.1 43)) rfl rfl) (Eq.trans (b := (σ.2.1 44)) rfl rfl) (Eq.trans (b := (σ.2.1 45)) rfl rfl) (Eq.trans (b := (σ.2.1 46)) rfl rfl) (Eq.trans (b := (σ.1 47)) rfl rfl) (Eq.trans (b := (σ.2.1 48)) rfl rfl) (Eq.trans (b := (σ.1 49)) rfl rfl) (Eq.trans (b := (σ.2.1 50)) rfl rfl) (Eq.trans (b := (σ.2.1 51)) rfl rfl) (Eq.trans (b := (σ.2.2.1 52)) rfl rfl) (Eq.trans (b := (σ.2.2.1 53)) rfl rfl) (Eq.trans (b := (σ.2.2.2)) rfl rfl) (Eq.trans (b := (σ.1 55)) rfl rfl) (Eq.trans (b := (σ.1 56)) rfl rfl) (Eq.trans (b := (σ.1 57)) rfl rfl) (Eq.trans (b := F84) rfl rfl) (Eq.trans (b := n85) rfl rfl)
        exact ih64 x87 x86 F84 n85 _ _ _ (Nat.lt_of_lt_of_le (v_buildNumber_48 y72 x87 hi64_2 hi64_3 c76 ex87 tx87) (Nat.le_of_lt_succ hn64)) ⟨(v_buildNumber_46 y72 n85 x87 hi64_2 hi64_3 c76 hr83_0 hr83_1 ex87 tx87), (v_buildNumber_47 σ k0 x44 x45 F48 n49 y50 y51 x69 x70 y72 y73 F74 n75 x77 x79 x80 x81 x82 F84 n85 x86 x87 hpre_0 hpre_1 c1 ex44 tx44 ex45 c46 hr47y hr47_0 hr47_1 hi29_0 hi29_1 hi29y c52 ex69 tx70 c71 hi64_0 hi64_1 hi64_2 hi64_3 hi64y c76 tx77 c78 ex79 ex80 ex81 ex82 tx82 hr83y hr83_0 hr83_1 ex86 ex87 tx87)⟩ hP hS (lv_sub hl [0, 1, 2, 3, 4] rfl)
set_option maxHeartbeats 4000000 in
set_option maxRecDepth 100000 in
theorem L_buildNumber_29_4 {p : Program} {e : Env} {s : State} {m : MethodId} {below : List Frame} {meth : Method} {c : Code} (l : Launch) (D : va_G) (cy : Nat → ClassId) (sz0 : Nat) (sa : Nat → Nat) (ad : Nat → Nat) (sz : Nat) (σ : RS) (k0 : Int32) (x44 : Int64) (x45 : Int64) (F48 : (Nat → Int32)) (n49 : Int32) (C : RC p s m #[.ref (ad 0), .int k0] meth c cX12_buildNumber 7 none D cy sz0 sa ad (AR cy ad sz)) (hpre_0 : 0 ≤ (σ.1 59).toInt) (hpre_1 : (σ.1 59).toInt ≤ 48) (c1 : k0.toInt < 0) (ex44 : x44 = Int32.toInt64 k0) (tx44 : x44.toInt = k0.toInt) (ex45 : x45 = -x44) (c46 : k0.toInt < 0) (hr47y : ∀ s9 : List Int, QB (σ.2.1 58) (σ.1 59) s9 → s9.length < 48 → QB F48 n49 (s9 ++ [(45 : Int32).toInt])) (hr47_0 : 0 ≤ n49.toInt) (hr47_1 : n49.toInt ≤ 48) : ∀ (n : Nat) (y50 : Int32) (y51 : Int64) (H : Heap) (locs : List Loc) (ls : Array Slot), (10 - y50.toInt).toNat < n → ((0 ≤ y50.toInt ∧ y50.toInt ≤ 10) ∧ (∃ e9 : Nat, (e9 : Int) = y50.toInt ∧ y51.toInt = ((10 ^ e9 : Nat) : Int) ∧ e9 ≤ 10 ∧ (e9 = 0 ∨ 10 ^ e9 ≤ k0.toInt.natAbs))) → RP D cy ad (rS (rA σ 58 F48) 59 n49) H → va_S (AR cy ad sz) s.heap H locs → lv_has ls 7 [(6, .int y50), (4, .long y51), (2, .long x45), (0, .ref (ad 0)), (1, .int k0)] → W p l e (headSpec (Cond.code yX12_buildNumber cX12_buildNumber 7 none :: GWm) ({ frames := 1, cells := 0, slots := 0, locals := 21 })).room s m #[.ref (ad 0), .int k0] below meth c H locs 0 0 (MQ below (va_Qv (fun (u : (Nat → Int32) × Int32) => (0 ≤ u.2.toInt ∧ u.2.toInt ≤ 48) ∧ (∀ s9 : List Int, QB (σ.2.1 58) (σ.1 59) s9 → s9.length ≤ 36 → QB u.1 u.2 (s9 ++ qDec k0.toInt))) (fun (u : (Nat → Int32) × Int32) (t : State) => RP D cy ad (rS (rA σ 58 u.1) 59 u.2) t.heap) (AR cy ad sz)) #[.ref (ad 0), .int k0] s 0 0 (AR cy ad sz)) (F0 m 29 ls []) := by
  have hx := C.1
  have hb := C.2.1
  have hown := C.2.2.2.2.1
  have hw := C.2.2.2.2.2.1
  intro n
  induction n with
  | zero => intro y50 y51 H locs ls hn; exact absurd hn (Nat.not_lt_zero _)
  | succ n29 ih29 =>
    intro y50 y51 H locs ls hn29 hi29 hP hS hl
    obtain ⟨hi29, hi29y⟩ := hi29
    obtain ⟨hi29_0, hi29_1⟩ := hi29
    refine lv_iload hx hb dX12_buildNumber_29 (lv_at hl 0 rfl) ?_
    refine lv_bipush (v := 10) hx hb dX12_buildNumber_31 (by decide +kernel) ?_
    refine lv_icmp_ge (tgt := 61) hx hb dX12_buildNumber_33 (by decide) (fun c52 => ?_) (fun c52 => ?_)
    · have c52 : 10 ≤ y50.toInt := by have h := z_le c52; rw [show (10 : Int32).toInt = 10 from by decide +kernel] at h; exact h
      refine lv_iconst (v := 0) hx hb dX12_buildNumber_61 (by decide +kernel) ?_
      refine lv_istore (lv' := [(6, .int 0), (4, .long y51), (2, .long x45), (0, .ref (ad 0)), (1, .int k0)]) hx hb dX12_buildNumber_62 hl (by decide) rfl (fun ls hl => ?_)
      have hP : RP D cy ad (rS (rA (rS (rA σ 58 F48) 59 n49) 58 F48) 59 n49) H := RP.cong hP (Eq.trans (b := (σ.1 0)) rfl rfl) (Eq.trans (b := (σ.1 1)) rfl rfl) (Eq.trans (b := (σ.2.1 2)) rfl rfl) (Eq.trans (b := (σ.1 3)) rfl rfl) (Eq.trans (b := (σ.2.1 4)) rfl rfl) (Eq.trans (b := (σ.2.1 5)) rfl rfl) (Eq.trans (b := (σ.2.2.1 6)) rfl rfl) (Eq.trans (b := (σ.2.1 7)) rfl rfl) (Eq.trans (b := (σ.1 8)) rfl rfl) (Eq.trans (b := (σ.1 9)) rfl rfl) (Eq.trans (b := (σ.1 10)) rfl rfl) (Eq.trans (b := (σ.2.1 11)) rfl rfl) (Eq.trans (b := (σ.2.2.1 12)) rfl rfl) (Eq.trans (b := (σ.2.1 13)) rfl rfl) (Eq.trans (b := (σ.1 14)) rfl rfl) (Eq.trans (b := (σ.1 15)) rfl rfl) (Eq.trans (b := (σ.1 16)) rfl rfl) (Eq.trans (b := (σ.1 17)) rfl rfl) (Eq.trans (b := (σ.1 18)) rfl rfl) (Eq.trans (b := (σ.1 19)) rfl rfl) (Eq.trans (b := (σ.2.1 20)) rfl rfl) (Eq.trans (b := (σ.2.1 21)) rfl rfl) (Eq.trans (b := (σ.2.1 22)) rfl rfl) (Eq.trans (b := (σ.2.1 23)) rfl rfl) (Eq.trans (b := (σ.2.1 24)) rfl rfl) (Eq.trans (b := (σ.2.1 25)) rfl rfl) (Eq.trans (b := (σ.2.1 26)) rfl rfl) (Eq.trans (b := (σ.2.1 27)) rfl rfl) (Eq.trans (b := (σ.2.1 28)) rfl rfl) (Eq.trans (b := (σ.1 29)) rfl rfl) (Eq.trans (b := (σ.2.1 30)) rfl rfl) (Eq.trans (b := (σ.2.1 31)) rfl rfl) (Eq.trans (b := (σ.2.1 32)) rfl rfl) (Eq.trans (b := (σ.1 33)) rfl rfl) (Eq.trans (b := (σ.1 34)) rfl rfl) (Eq.trans (b := (σ.1 35)) rfl rfl) (Eq.trans (b := (σ.2.1 36)) rfl rfl) (Eq.trans (b := (σ.2.1 37)) rfl rfl) (Eq.trans (b := (σ.2.1 38)) rfl rfl) (Eq.trans (b := (σ.2.1 39)) rfl rfl) (Eq.trans (b := (σ.2.1 40)) rfl rfl) (Eq.trans (b := (σ.2.1 41)) rfl rfl) (Eq.trans (b := (σ.2.1 42)) rfl rfl) (Eq.trans (b := (σ.2.1 43)) rfl rfl) (Eq.trans (b := (σ.2.1 44)) rfl rfl) (Eq.trans (b := (σ.2.1 45)) rfl rfl) (Eq.trans (b := (σ.2.1 46)) rfl rfl) (Eq.trans (b := (σ.1 47)) rfl rfl) (Eq.trans (b := (σ.2.1 48)) rfl rfl) (Eq.trans (b := (σ.1 49)) rfl rfl) (Eq.trans (b := (σ.2.1 50)) rfl rfl) (Eq.trans (b := (σ.2.1 51)) rfl rfl) (Eq.trans (b := (σ.2.2.1 52)) rfl rfl) (Eq.trans (b := (σ.2.2.1 53)) rfl rfl) (Eq.trans (b := (σ.2.2.2)) rfl rfl) (Eq.trans (b := (σ.1 55)) rfl rfl) (Eq.trans (b := (σ.1 56)) rfl rfl) (Eq.trans (b := (σ.1 57)) rfl rfl) (Eq.trans (b := F48) rfl rfl) (Eq.trans (b := n49) rfl rfl)
      exact L_buildNumber_64_5 l D cy sz0 sa ad sz σ k0 x44 x45 F48 n49 y50 y51 C hpre_0 hpre_1 c1 ex44 tx44 ex45 c46 hr47y hr47_0 hr47_1 hi29_0 hi29_1 hi29y c52 n29 hn29 ih29 ((11 - (0 : Int32).toInt).toNat + 1) (0 : Int32) y51 F48 n49 _ _ _ (Nat.lt_succ_self _) ⟨(v_buildNumber_30 n49 hr47_0 hr47_1), (v_buildNumber_31 σ k0 x44 x45 F48 n49 y50 y51 hpre_0 hpre_1 c1 ex44 tx44 ex45 c46 hr47y hr47_0 hr47_1 hi29_0 hi29_1 hi29y c52)⟩ hP hS (lv_sub hl [0, 1, 2, 3, 4] rfl)
    · have c52 : y50.toInt < 10 := by have h := z_nle c52; rw [show (10 : Int32).toInt = 10 from by decide +kernel] at h; exact h
      refine lv_lload hx hb dX12_buildNumber_36 (lv_at hl 1 rfl) ?_
      refine lv_ldc2 (v := 10) hx hb hown (hw _ wm_22) dX12_buildNumber_38 ?_
      refine lv_lmul hx hb dX12_buildNumber_41 ?_
      refine lv_topl (fun x69 ex69 => ?_)
      refine lv_lload_n hx hb dX12_buildNumber_42 rfl (lv_at hl 2 rfl) ?_
      refine W.lcmp hx hb dX12_buildNumber_43 ?_
      refine lv_topi (fun x70 ex70 => ?_)
      have tx70 : (x70.toInt = 0 ↔ x69.toInt = x45.toInt) ∧ (x70.toInt < 0 ↔ x69.toInt < x45.toInt) := z_lcmp ex70 rfl rfl
      refine lv_if_gt (tgt := 61) hx hb dX12_buildNumber_44 (by decide) (fun c71 => ?_) (fun c71 => ?_)
      · have c71 : 0 < x70.toInt := by have h := z_lt c71; rw [show (0 : Int32).toInt = 0 from by decide +kernel] at h; exact h
        refine lv_iconst (v := 0) hx hb dX12_buildNumber_61 (by decide +kernel) ?_
        refine lv_istore (lv' := [(6, .int 0), (4, .long y51), (2, .long x45), (0, .ref (ad 0)), (1, .int k0)]) hx hb dX12_buildNumber_62 hl (by decide) rfl (fun ls hl => ?_)
        have hP : RP D cy ad (rS (rA (rS (rA σ 58 F48) 59 n49) 58 F48) 59 n49) H := RP.cong hP (Eq.trans (b := (σ.1 0)) rfl rfl) (Eq.trans (b := (σ.1 1)) rfl rfl) (Eq.trans (b := (σ.2.1 2)) rfl rfl) (Eq.trans (b := (σ.1 3)) rfl rfl) (Eq.trans (b := (σ.2.1 4)) rfl rfl) (Eq.trans (b := (σ.2.1 5)) rfl rfl) (Eq.trans (b := (σ.2.2.1 6)) rfl rfl) (Eq.trans (b := (σ.2.1 7)) rfl rfl) (Eq.trans (b := (σ.1 8)) rfl rfl) (Eq.trans (b := (σ.1 9)) rfl rfl) (Eq.trans (b := (σ.1 10)) rfl rfl) (Eq.trans (b := (σ.2.1 11)) rfl rfl) (Eq.trans (b := (σ.2.2.1 12)) rfl rfl) (Eq.trans (b := (σ.2.1 13)) rfl rfl) (Eq.trans (b := (σ.1 14)) rfl rfl) (Eq.trans (b := (σ.1 15)) rfl rfl) (Eq.trans (b := (σ.1 16)) rfl rfl) (Eq.trans (b := (σ.1 17)) rfl rfl) (Eq.trans (b := (σ.1 18)) rfl rfl) (Eq.trans (b := (σ.1 19)) rfl rfl) (Eq.trans (b := (σ.2.1 20)) rfl rfl) (Eq.trans (b := (σ.2.1 21)) rfl rfl) (Eq.trans (b := (σ.2.1 22)) rfl rfl) (Eq.trans (b := (σ.2.1 23)) rfl rfl) (Eq.trans (b := (σ.2.1 24)) rfl rfl) (Eq.trans (b := (σ.2.1 25)) rfl rfl) (Eq.trans (b := (σ.2.1 26)) rfl rfl) (Eq.trans (b := (σ.2.1 27)) rfl rfl) (Eq.trans (b := (σ.2.1 28)) rfl rfl) (Eq.trans (b := (σ.1 29)) rfl rfl) (Eq.trans (b := (σ.2.1 30)) rfl rfl) (Eq.trans (b := (σ.2.1 31)) rfl rfl) (Eq.trans (b := (σ.2.1 32)) rfl rfl) (Eq.trans (b := (σ.1 33)) rfl rfl) (Eq.trans (b := (σ.1 34)) rfl rfl) (Eq.trans (b := (σ.1 35)) rfl rfl) (Eq.trans (b := (σ.2.1 36)) rfl rfl) (Eq.trans (b := (σ.2.1 37)) rfl rfl) (Eq.trans (b := (σ.2.1 38)) rfl rfl) (Eq.trans (b := (σ.2.1 39)) rfl rfl) (Eq.trans (b := (σ.2.1 40)) rfl rfl) (Eq.trans (b := (σ.2.1 41)) rfl rfl) (Eq.trans (b := (σ.2.1 42)) rfl rfl) (Eq.trans (b := (σ.2.1 43)) rfl rfl) (Eq.trans (b := (σ.2.1 44)) rfl rfl) (Eq.trans (b := (σ.2.1 45)) rfl rfl) (Eq.trans (b := (σ.2.1 46)) rfl rfl) (Eq.trans (b := (σ.1 47)) rfl rfl) (Eq.trans (b := (σ.2.1 48)) rfl rfl) (Eq.trans (b := (σ.1 49)) rfl rfl) (Eq.trans (b := (σ.2.1 50)) rfl rfl) (Eq.trans (b := (σ.2.1 51)) rfl rfl) (Eq.trans (b := (σ.2.2.1 52)) rfl rfl) (Eq.trans (b := (σ.2.2.1 53)) rfl rfl) (Eq.trans (b := (σ.2.2.2)) rfl rfl) (Eq.trans (b := (σ.1 55)) rfl rfl) (Eq.trans (b := (σ.1 56)) rfl rfl) (Eq.trans (b := (σ.1 57)) rfl rfl) (Eq.trans (b := F48) rfl rfl) (Eq.trans (b := n49) rfl rfl)
        exact L_buildNumber_64_6 l D cy sz0 sa ad sz σ k0 x44 x45 F48 n49 y50 y51 x69 x70 C hpre_0 hpre_1 c1 ex44 tx44 ex45 c46 hr47y hr47_0 hr47_1 hi29_0 hi29_1 hi29y c52 ex69 tx70 c71 n29 hn29 ih29 ((11 - (0 : Int32).toInt).toNat + 1) (0 : Int32) y51 F48 n49 _ _ _ (Nat.lt_succ_self _) ⟨(v_buildNumber_30 n49 hr47_0 hr47_1), (v_buildNumber_40 σ k0 x44 x45 F48 n49 y50 y51 x69 x70 hpre_0 hpre_1 c1 ex44 tx44 ex45 c46 hr47y hr47_0 hr47_1 hi29_0 hi29_1 hi29y c52 ex69 tx70 c71)⟩ hP hS (lv_sub hl [0, 1, 2, 3, 4] rfl)
      · have c71 : x70.toInt ≤ 0 := by have h := z_nlt c71; rw [show (0 : Int32).toInt = 0 from by decide +kernel] at h; exact h
        refine lv_lload hx hb dX12_buildNumber_47 (lv_at hl 1 rfl) ?_
        refine lv_ldc2 (v := 10) hx hb hown (hw _ wm_22) dX12_buildNumber_49 ?_
        refine lv_lmul hx hb dX12_buildNumber_52 ?_
        refine lv_topl (fun x88 ex88 => ?_)
        refine lv_lstore (lv' := [(4, .long x88), (6, .int y50), (2, .long x45), (0, .ref (ad 0)), (1, .int k0)]) hx hb dX12_buildNumber_53 hl (by decide) rfl (fun ls hl => ?_)
        obtain ⟨x89, ex89⟩ : ∃ y : Int32, y = y50 + (1 : Int32) := ⟨_, rfl⟩
        have tx89 : x89.toInt = y50.toInt + 1 := (v_buildNumber_49 y50 x89 hi29_0 hi29_1 c52 ex89)
        refine lv_iinc (v := x89) (lv' := [(6, .int x89), (4, .long x88), (2, .long x45), (0, .ref (ad 0)), (1, .int k0)]) hx hb dX12_buildNumber_55 hl (k := 1) rfl (by rw [ex89]; rfl) (by decide) rfl (fun ls hl => ?_)
        refine lv_goto (tgt := 29) hx hb dX12_buildNumber_58 (by decide) ?_
        exact ih29 x89 x88 _ _ _ (Nat.lt_of_lt_of_le (v_buildNumber_52 y50 x89 hi29_0 hi29_1 c52 ex89 tx89) (Nat.le_of_lt_succ hn29)) ⟨(v_buildNumber_50 y50 x89 hi29_0 hi29_1 c52 ex89 tx89), (v_buildNumber_51 σ k0 x44 x45 F48 n49 y50 y51 x69 x70 x88 x89 hpre_0 hpre_1 c1 ex44 tx44 ex45 c46 hr47y hr47_0 hr47_1 hi29_0 hi29_1 hi29y c52 ex69 tx70 c71 ex88 ex89 tx89)⟩ hP hS (lv_sub hl [0, 1, 2, 3, 4] rfl)
set_option maxHeartbeats 4000000 in
set_option maxRecDepth 100000 in
theorem M_buildNumber (l : Launch) (D : va_G) (cy : Nat → ClassId) (sz0 : Nat) (sa : Nat → Nat) (ad : Nat → Nat) (σ : RS) (sz : Nat) (k0 : Int32) (hpre : 0 ≤ (σ.1 59).toInt ∧ (σ.1 59).toInt ≤ 48) : Met l yX12_buildNumber (Cond.code yX12_buildNumber cX12_buildNumber 7 none :: GWm) ({ frames := 1, cells := 0, slots := 0, locals := 21 }) (PcR D cy sz0 sa ad [.ref (ad 0), .int k0] σ sz) (va_Qv (fun (u : (Nat → Int32) × Int32) => (0 ≤ u.2.toInt ∧ u.2.toInt ≤ 48) ∧ (∀ s9 : List Int, QB (σ.2.1 58) (σ.1 59) s9 → s9.length ≤ 36 → QB u.1 u.2 (s9 ++ qDec k0.toInt))) (fun (u : (Nat → Int32) × Int32) (t : State) => RP D cy ad (rS (rA σ 58 u.1) 59 u.2) t.heap) (AR cy ad sz)) 0 0 (AR cy ad sz) := by
  refine RM_of (loc0 := [(0, .ref (ad 0)), (1, .int k0)]) (by decide) rfl rfl (Nat.le_of_ble_eq_true rfl) ?_
  intro p e s m below meth c ls hsz C hP hS hl
  have hx := C.1
  have hb := C.2.1
  have hown := C.2.2.2.2.1
  have hw := C.2.2.2.2.2.1
  clear hsz
  obtain ⟨hpre_0, hpre_1⟩ := hpre
  refine lv_iload_n hx hb dX12_buildNumber_0 rfl (lv_at hl 1 rfl) ?_
  refine lv_if_ge (tgt := 10) hx hb dX12_buildNumber_1 (by decide) (fun c1 => ?_) (fun c1 => ?_)
  · have c1 : 0 ≤ k0.toInt := by have h := z_le c1; rw [show (0 : Int32).toInt = 0 from by decide +kernel] at h; exact h
    refine lv_iload_n hx hb dX12_buildNumber_10 rfl (lv_at hl 1 rfl) ?_
    refine lv_i2l hx hb dX12_buildNumber_11 rfl ?_
    refine lv_topl (fun x2 ex2 => ?_)
    have tx2 : x2.toInt = k0.toInt := by rw [ex2]; exact Int32.toInt_toInt64 _
    refine lv_lstore_n (lv' := [(2, .long x2), (0, .ref (ad 0)), (1, .int k0)]) hx hb dX12_buildNumber_12 rfl hl (by decide) rfl (fun ls hl => ?_)
    refine lv_iload_n hx hb dX12_buildNumber_13 rfl (lv_at hl 2 rfl) ?_
    refine lv_if_ge (tgt := 23) hx hb dX12_buildNumber_14 (by decide) (fun c3 => ?_) (fun c3 => ?_)
    · have c3 : 0 ≤ k0.toInt := by have h := z_le c3; rw [show (0 : Int32).toInt = 0 from by decide +kernel] at h; exact h
      refine lv_lconst (v := 1) hx hb dX12_buildNumber_23 rfl ?_
      refine lv_lstore (lv' := [(4, .long 1), (2, .long x2), (0, .ref (ad 0)), (1, .int k0)]) hx hb dX12_buildNumber_24 hl (by decide) rfl (fun ls hl => ?_)
      refine lv_iconst (v := 0) hx hb dX12_buildNumber_26 (by decide +kernel) ?_
      refine lv_istore (lv' := [(6, .int 0), (4, .long 1), (2, .long x2), (0, .ref (ad 0)), (1, .int k0)]) hx hb dX12_buildNumber_27 hl (by decide) rfl (fun ls hl => ?_)
      exact L_buildNumber_29_1 l D cy sz0 sa ad sz σ k0 x2 C hpre_0 hpre_1 c1 ex2 tx2 c3 ((10 - (0 : Int32).toInt).toNat + 1) (0 : Int32) (1 : Int64) _ _ _ (Nat.lt_succ_self _) ⟨(v_buildNumber_1  ), (v_buildNumber_2 σ k0 x2 hpre_0 hpre_1 c1 ex2 tx2 c3)⟩ hP hS (lv_sub hl [0, 1, 2, 3, 4] rfl)
    · have c3 : k0.toInt < 0 := by have h := z_nle c3; rw [show (0 : Int32).toInt = 0 from by decide +kernel] at h; exact h
      exact absurd (v_buildNumber_26 k0 x2 c1 ex2 tx2 c3) id
  · have c1 : k0.toInt < 0 := by have h := z_nle c1; rw [show (0 : Int32).toInt = 0 from by decide +kernel] at h; exact h
    refine lv_iload_n hx hb dX12_buildNumber_4 rfl (lv_at hl 1 rfl) ?_
    refine lv_i2l hx hb dX12_buildNumber_5 rfl ?_
    refine lv_topl (fun x44 ex44 => ?_)
    have tx44 : x44.toInt = k0.toInt := by rw [ex44]; exact Int32.toInt_toInt64 _
    refine lv_lneg hx hb dX12_buildNumber_6 ?_
    refine lv_topl (fun x45 ex45 => ?_)
    refine lv_goto (tgt := 12) hx hb dX12_buildNumber_7 (by decide) ?_
    refine lv_lstore_n (lv' := [(2, .long x45), (0, .ref (ad 0)), (1, .int k0)]) hx hb dX12_buildNumber_12 rfl hl (by decide) rfl (fun ls hl => ?_)
    refine lv_iload_n hx hb dX12_buildNumber_13 rfl (lv_at hl 2 rfl) ?_
    refine lv_if_ge (tgt := 23) hx hb dX12_buildNumber_14 (by decide) (fun c46 => ?_) (fun c46 => ?_)
    · have c46 : 0 ≤ k0.toInt := by have h := z_le c46; rw [show (0 : Int32).toInt = 0 from by decide +kernel] at h; exact h
      exact absurd (v_buildNumber_27 k0 x44 c1 ex44 tx44 c46) id
    · have c46 : k0.toInt < 0 := by have h := z_nle c46; rw [show (0 : Int32).toInt = 0 from by decide +kernel] at h; exact h
      refine lv_aload_n hx hb dX12_buildNumber_17 rfl (lv_at hl 1 rfl) ?_
      refine lv_bipush (v := 45) hx hb dX12_buildNumber_18 (by decide +kernel) ?_
      refine r_callVv (As := [.int 45]) (rest := []) C hP hS hl.1 ⟨Nat.zero_le _, Nat.zero_le _⟩ (M_build l D cy sz0 sa ad σ s.heap.size (45 : Int32) (v_buildNumber_28 σ hpre_0 hpre_1)) (n := 1) ⟨wm_223, wm_219, by decide +kernel⟩ ⟨wm_224, wm_225, wm_10⟩ rfl rfl (lv_room (Nat.le_of_ble_eq_true rfl)) ⟨Nat.le_of_ble_eq_true rfl, Nat.le_of_ble_eq_true rfl⟩ dX12_buildNumber_20 (fun u H locs hr47 hP hS => ?_)
      obtain ⟨F48, n49⟩ := u
      obtain ⟨hr47, hr47y⟩ := hr47
      have hr47y : ∀ s9 : List Int, QB (σ.2.1 58) (σ.1 59) s9 → s9.length < 48 → QB F48 n49 (s9 ++ [(45 : Int32).toInt]) := hr47y
      have hr47 : 0 ≤ n49.toInt ∧ n49.toInt ≤ 48 := hr47
      obtain ⟨hr47_0, hr47_1⟩ := hr47
      have hP : RP D cy ad (rS (rA σ 58 F48) 59 n49) H := hP
      refine lv_lconst (v := 1) hx hb dX12_buildNumber_23 rfl ?_
      refine lv_lstore (lv' := [(4, .long 1), (2, .long x45), (0, .ref (ad 0)), (1, .int k0)]) hx hb dX12_buildNumber_24 hl (by decide) rfl (fun ls hl => ?_)
      refine lv_iconst (v := 0) hx hb dX12_buildNumber_26 (by decide +kernel) ?_
      refine lv_istore (lv' := [(6, .int 0), (4, .long 1), (2, .long x45), (0, .ref (ad 0)), (1, .int k0)]) hx hb dX12_buildNumber_27 hl (by decide) rfl (fun ls hl => ?_)
      exact L_buildNumber_29_4 l D cy sz0 sa ad sz σ k0 x44 x45 F48 n49 C hpre_0 hpre_1 c1 ex44 tx44 ex45 c46 hr47y hr47_0 hr47_1 ((10 - (0 : Int32).toInt).toNat + 1) (0 : Int32) (1 : Int64) _ _ _ (Nat.lt_succ_self _) ⟨(v_buildNumber_1  ), (v_buildNumber_29 σ k0 x44 x45 F48 n49 hpre_0 hpre_1 c1 ex44 tx44 ex45 c46 hr47y hr47_0 hr47_1)⟩ hP hS (lv_sub hl [0, 1, 2, 3, 4] rfl)
