-- pre:lengthOf@2 @2
theorem v_intOf_1 (k0 : Int32) (hpre_0 : 0 ≤ k0.toInt) (hpre_1 : k0.toInt < 980) : 0 ≤ k0.toInt ∧ k0.toInt < 980 := by
  refine ⟨?_, ?_⟩ <;> first | assumption | omega | (subst_vars; omega) | trivial
-- nw@29 @29
theorem v_intOf_2 (σ : RS) (k0 : Int32) (r1 : Int32) (x3 : Int32) (hpre_0 : 0 ≤ k0.toInt) (hpre_1 : k0.toInt < 980) (hr1 : r1 = LENF ((σ.2.2.1 52) k0.toNatClampNeg)) (c2 : r1.toInt ≤ 0) (ex3 : x3 = r1 - (0 : Int32)) : x3.toInt = r1.toInt - 0 := by
  have q0 : (0 : Int32).toInt = 0 := by decide +kernel
  have l_hr1 := LENF_le ((σ.2.2.1 52) k0.toNatClampNeg)
  rw [← hr1] at l_hr1
  have w1 : (0 : Int32).toInt = 0 := by decide +kernel
  rw [ex3, z_sub (by omega) (by omega)]; first | done | omega
-- init@55 @55
theorem v_intOf_3   : 0 ≤ (0 : Int32).toInt ∧ (0 : Int32).toInt ≤ 130 ∧ ((0 : Int32).toInt = 0 ∨ (0 : Int32).toInt = 1) := by
  have q0 : (0 : Int32).toInt = 0 := by decide +kernel
  refine ⟨?_, ?_, ?_⟩ <;> first | assumption | omega | (subst_vars; omega) | trivial
-- init2@55 @55
theorem v_intOf_4 (σ : RS) (k0 : Int32) (r1 : Int32) (x3 : Int32) (hpre_0 : 0 ≤ k0.toInt) (hpre_1 : k0.toInt < 980) (hpre_2 : 0 ≤ (σ.1 56).toInt) (hpre_3 : (σ.1 56).toInt ≤ 11) (hr1 : r1 = LENF ((σ.2.2.1 52) k0.toNatClampNeg)) (c2 : r1.toInt ≤ 0) (ex3 : x3 = r1 - (0 : Int32)) (tx3 : x3.toInt = r1.toInt - 0) (c4 : x3.toInt < 1) : ∀ s9 : List Int, QTT ((σ.2.2.1 52) k0.toNatClampNeg) ((σ.2.2.1 53) k0.toNatClampNeg) s9 → INL s9 (0 : Int32).toInt (0 : Int32).toInt (0 : Int32).toInt (0 : Int32).toInt := by
  have q0 : (0 : Int32).toInt = 0 := by decide +kernel
  have l_hr1 := LENF_le ((σ.2.2.1 52) k0.toNatClampNeg)
  rw [← hr1] at l_hr1
  intro s9 ht
  have e := q_len ht.1 ht.2.2.1 ht.2.2.2
  rw [← hr1] at e
  exact INL.start (by omega) (by omega) (by omega) (by omega)
-- post @146
theorem v_intOf_5   : 0 ≤ (10 : Int32).toInt ∧ (10 : Int32).toInt ≤ 11 := by
  have q10 : (10 : Int32).toInt = 10 := by decide +kernel
  refine ⟨?_, ?_⟩ <;> first | assumption | omega | (subst_vars; omega) | trivial
-- post2 @146
theorem v_intOf_6 (σ : RS) (k0 : Int32) (r1 : Int32) (x3 : Int32) (y5 : Int32) (y6 : Int32) (y7 : Int32) (hpre_0 : 0 ≤ k0.toInt) (hpre_1 : k0.toInt < 980) (hpre_2 : 0 ≤ (σ.1 56).toInt) (hpre_3 : (σ.1 56).toInt ≤ 11) (hr1 : r1 = LENF ((σ.2.2.1 52) k0.toNatClampNeg)) (c2 : r1.toInt ≤ 0) (ex3 : x3 = r1 - (0 : Int32)) (tx3 : x3.toInt = r1.toInt - 0) (c4 : x3.toInt < 1) (hi55_0 : 0 ≤ y6.toInt) (hi55_1 : y6.toInt ≤ 130) (hi55_2 : y7.toInt = 0 ∨ y7.toInt = 1) (hi55y : ∀ s9 : List Int, QTT ((σ.2.2.1 52) k0.toNatClampNeg) ((σ.2.2.1 53) k0.toNatClampNeg) s9 → INL s9 (0 : Int32).toInt y5.toInt y6.toInt y7.toInt) (c8 : r1.toInt ≤ y6.toInt) (c9 : y7.toInt = 0) : ∀ s9 : List Int, QTT ((σ.2.2.1 52) k0.toNatClampNeg) ((σ.2.2.1 53) k0.toNatClampNeg) s9 → QI (qToI s9) y5.toInt (10 : Int32).toInt (σ.1 56).toInt := by
  have q0 : (0 : Int32).toInt = 0 := by decide +kernel
  have q10 : (10 : Int32).toInt = 10 := by decide +kernel
  have l_hr1 := LENF_le ((σ.2.2.1 52) k0.toNatClampNeg)
  rw [← hr1] at l_hr1
  intro s9 ht
  have e := q_len ht.1 ht.2.2.1 ht.2.2.2
  rw [← hr1] at e
  have z := hi55y s9 ht
  have zg := z.2.1
  rw [q0] at z
  exact z.fin0 (by first | exact q_head0 (by omega) | (rw [q_head (by omega)]; intro h; have h := Option.some.inj h; omega)) (by omega) (fun _ => rfl) (by omega)
-- post @146
theorem v_intOf_7 (σ : RS) (hpre_2 : 0 ≤ (σ.1 56).toInt) (hpre_3 : (σ.1 56).toInt ≤ 11) : 0 ≤ (σ.1 56).toInt ∧ (σ.1 56).toInt ≤ 11 := by
  refine ⟨?_, ?_⟩ <;> first | assumption | omega | (subst_vars; omega) | trivial
-- post2 @146
theorem v_intOf_8 (σ : RS) (k0 : Int32) (r1 : Int32) (x3 : Int32) (y5 : Int32) (y6 : Int32) (y7 : Int32) (hpre_0 : 0 ≤ k0.toInt) (hpre_1 : k0.toInt < 980) (hpre_2 : 0 ≤ (σ.1 56).toInt) (hpre_3 : (σ.1 56).toInt ≤ 11) (hr1 : r1 = LENF ((σ.2.2.1 52) k0.toNatClampNeg)) (c2 : r1.toInt ≤ 0) (ex3 : x3 = r1 - (0 : Int32)) (tx3 : x3.toInt = r1.toInt - 0) (c4 : x3.toInt < 1) (hi55_0 : 0 ≤ y6.toInt) (hi55_1 : y6.toInt ≤ 130) (hi55_2 : y7.toInt = 0 ∨ y7.toInt = 1) (hi55y : ∀ s9 : List Int, QTT ((σ.2.2.1 52) k0.toNatClampNeg) ((σ.2.2.1 53) k0.toNatClampNeg) s9 → INL s9 (0 : Int32).toInt y5.toInt y6.toInt y7.toInt) (c8 : r1.toInt ≤ y6.toInt) (c9 : ¬ y7.toInt = 0) : ∀ s9 : List Int, QTT ((σ.2.2.1 52) k0.toNatClampNeg) ((σ.2.2.1 53) k0.toNatClampNeg) s9 → QI (qToI s9) y5.toInt (σ.1 56).toInt (σ.1 56).toInt := by
  have q0 : (0 : Int32).toInt = 0 := by decide +kernel
  have l_hr1 := LENF_le ((σ.2.2.1 52) k0.toNatClampNeg)
  rw [← hr1] at l_hr1
  intro s9 ht
  have e := q_len ht.1 ht.2.2.1 ht.2.2.2
  rw [← hr1] at e
  have z := hi55y s9 ht
  have zg := z.2.1
  rw [q0] at z
  exact z.fin0 (by first | exact q_head0 (by omega) | (rw [q_head (by omega)]; intro h; have h := Option.some.inj h; omega)) (by omega) (fun _ => rfl) (by omega)
-- post2 @146
theorem v_intOf_9 (σ : RS) (k0 : Int32) (r1 : Int32) (x3 : Int32) (y5 : Int32) (y6 : Int32) (y7 : Int32) (hpre_0 : 0 ≤ k0.toInt) (hpre_1 : k0.toInt < 980) (hpre_2 : 0 ≤ (σ.1 56).toInt) (hpre_3 : (σ.1 56).toInt ≤ 11) (hr1 : r1 = LENF ((σ.2.2.1 52) k0.toNatClampNeg)) (c2 : r1.toInt ≤ 0) (ex3 : x3 = r1 - (0 : Int32)) (tx3 : x3.toInt = r1.toInt - 0) (c4 : x3.toInt < 1) (hi55_0 : 0 ≤ y6.toInt) (hi55_1 : y6.toInt ≤ 130) (hi55_2 : y7.toInt = 0 ∨ y7.toInt = 1) (hi55y : ∀ s9 : List Int, QTT ((σ.2.2.1 52) k0.toNatClampNeg) ((σ.2.2.1 53) k0.toNatClampNeg) s9 → INL s9 (0 : Int32).toInt y5.toInt y6.toInt y7.toInt) (c8 : y6.toInt < r1.toInt) (c12 : y7.toInt = 0) (c13 : y7.toInt = 0) : ∀ s9 : List Int, QTT ((σ.2.2.1 52) k0.toNatClampNeg) ((σ.2.2.1 53) k0.toNatClampNeg) s9 → QI (qToI s9) y5.toInt (10 : Int32).toInt (σ.1 56).toInt := by
  have q0 : (0 : Int32).toInt = 0 := by decide +kernel
  have q10 : (10 : Int32).toInt = 10 := by decide +kernel
  have l_hr1 := LENF_le ((σ.2.2.1 52) k0.toNatClampNeg)
  rw [← hr1] at l_hr1
  intro s9 ht
  have e := q_len ht.1 ht.2.2.1 ht.2.2.2
  rw [← hr1] at e
  have z := hi55y s9 ht
  have zg := z.2.1
  rw [q0] at z
  exact z.fin0 (by first | exact q_head0 (by omega) | (rw [q_head (by omega)]; intro h; have h := Option.some.inj h; omega)) (by omega) (fun _ => rfl) (by omega)
-- dead@118 @121
theorem v_intOf_10 (y7 : Int32) (hi55_2 : y7.toInt = 0 ∨ y7.toInt = 1) (c12 : y7.toInt = 0) (c13 : ¬ y7.toInt = 0) : False := by
  first | assumption | omega | (subst_vars; omega) | trivial
-- pre:sign8@70 @70
theorem v_intOf_11 (σ : RS) (k0 : Int32) (r1 : Int32) (x3 : Int32) (y6 : Int32) (hpre_0 : 0 ≤ k0.toInt) (hpre_1 : k0.toInt < 980) (hr1 : r1 = LENF ((σ.2.2.1 52) k0.toNatClampNeg)) (c2 : r1.toInt ≤ 0) (ex3 : x3 = r1 - (0 : Int32)) (tx3 : x3.toInt = r1.toInt - 0) (c4 : x3.toInt < 1) (hi55_0 : 0 ≤ y6.toInt) (hi55_1 : y6.toInt ≤ 130) (c8 : y6.toInt < r1.toInt) : 0 ≤ k0.toInt ∧ k0.toInt < 980 ∧ 0 ≤ y6.toInt ∧ y6.toInt ≤ 200 := by
  have q0 : (0 : Int32).toInt = 0 := by decide +kernel
  have l_hr1 := LENF_le ((σ.2.2.1 52) k0.toNatClampNeg)
  rw [← hr1] at l_hr1
  refine ⟨?_, ?_, ?_, ?_⟩ <;> first | assumption | omega | (subst_vars; omega) | trivial
-- nw@109 @109
theorem v_intOf_12 (σ : RS) (k0 : Int32) (r1 : Int32) (x3 : Int32) (y6 : Int32) (x20 : Int32) (hpre_0 : 0 ≤ k0.toInt) (hpre_1 : k0.toInt < 980) (hr1 : r1 = LENF ((σ.2.2.1 52) k0.toNatClampNeg)) (c2 : r1.toInt ≤ 0) (ex3 : x3 = r1 - (0 : Int32)) (tx3 : x3.toInt = r1.toInt - 0) (c4 : x3.toInt < 1) (hi55_0 : 0 ≤ y6.toInt) (hi55_1 : y6.toInt ≤ 130) (c8 : y6.toInt < r1.toInt) (ex20 : x20 = y6 + (1 : Int32)) : x20.toInt = y6.toInt + 1 := by
  have q0 : (0 : Int32).toInt = 0 := by decide +kernel
  have q1 : (1 : Int32).toInt = 1 := by decide +kernel
  have l_hr1 := LENF_le ((σ.2.2.1 52) k0.toNatClampNeg)
  rw [← hr1] at l_hr1
  have z9 : (1 : Int32).toInt = 1 := by decide +kernel
  rw [ex20, z_add (by omega) (by omega)]; first | done | omega
-- inv@55 @55
theorem v_intOf_13 (σ : RS) (k0 : Int32) (r1 : Int32) (x3 : Int32) (y6 : Int32) (x20 : Int32) (hpre_0 : 0 ≤ k0.toInt) (hpre_1 : k0.toInt < 980) (hr1 : r1 = LENF ((σ.2.2.1 52) k0.toNatClampNeg)) (c2 : r1.toInt ≤ 0) (ex3 : x3 = r1 - (0 : Int32)) (tx3 : x3.toInt = r1.toInt - 0) (c4 : x3.toInt < 1) (hi55_0 : 0 ≤ y6.toInt) (hi55_1 : y6.toInt ≤ 130) (c8 : y6.toInt < r1.toInt) (ex20 : x20 = y6 + (1 : Int32)) (tx20 : x20.toInt = y6.toInt + 1) : 0 ≤ x20.toInt ∧ x20.toInt ≤ 130 ∧ ((0 : Int32).toInt = 0 ∨ (0 : Int32).toInt = 1) := by
  have q0 : (0 : Int32).toInt = 0 := by decide +kernel
  have q1 : (1 : Int32).toInt = 1 := by decide +kernel
  have l_hr1 := LENF_le ((σ.2.2.1 52) k0.toNatClampNeg)
  rw [← hr1] at l_hr1
  refine ⟨?_, ?_, ?_⟩ <;> first | assumption | omega | (subst_vars; omega) | trivial
-- inv2@55 @55
theorem v_intOf_14 (σ : RS) (k0 : Int32) (r1 : Int32) (x3 : Int32) (y5 : Int32) (y6 : Int32) (y7 : Int32) (r15 : Int32) (x17 : Int32) (x18 : Int32) (x19 : Int32) (x20 : Int32) (hpre_0 : 0 ≤ k0.toInt) (hpre_1 : k0.toInt < 980) (hpre_2 : 0 ≤ (σ.1 56).toInt) (hpre_3 : (σ.1 56).toInt ≤ 11) (hr1 : r1 = LENF ((σ.2.2.1 52) k0.toNatClampNeg)) (c2 : r1.toInt ≤ 0) (ex3 : x3 = r1 - (0 : Int32)) (tx3 : x3.toInt = r1.toInt - 0) (c4 : x3.toInt < 1) (hi55_0 : 0 ≤ y6.toInt) (hi55_1 : y6.toInt ≤ 130) (hi55_2 : y7.toInt = 0 ∨ y7.toInt = 1) (hi55y : ∀ s9 : List Int, QTT ((σ.2.2.1 52) k0.toNatClampNeg) ((σ.2.2.1 53) k0.toNatClampNeg) s9 → INL s9 (0 : Int32).toInt y5.toInt y6.toInt y7.toInt) (c8 : y6.toInt < r1.toInt) (c12 : ¬ y7.toInt = 0) (hr15y : ∀ s9 : List Int, QTT ((σ.2.2.1 52) k0.toNatClampNeg) ((σ.2.2.1 53) k0.toNatClampNeg) s9 → 0 ≤ y6.toInt → y6.toInt < 17 → r15.toInt = s9.getD y6.toInt.toNat 0) (c16 : r15.toInt < 48) (ex17 : x17 = (10 : Int32) * y5) (ex18 : x18 = x17 + r15) (ex19 : x19 = x18 - (48 : Int32)) (ex20 : x20 = y6 + (1 : Int32)) (tx20 : x20.toInt = y6.toInt + 1) : ∀ s9 : List Int, QTT ((σ.2.2.1 52) k0.toNatClampNeg) ((σ.2.2.1 53) k0.toNatClampNeg) s9 → INL s9 (0 : Int32).toInt x19.toInt x20.toInt (0 : Int32).toInt := by
  have q0 : (0 : Int32).toInt = 0 := by decide +kernel
  have q1 : (1 : Int32).toInt = 1 := by decide +kernel
  have q10 : (10 : Int32).toInt = 10 := by decide +kernel
  have q48 : (48 : Int32).toInt = 48 := by decide +kernel
  have l_hr1 := LENF_le ((σ.2.2.1 52) k0.toNatClampNeg)
  rw [← hr1] at l_hr1
  intro s9 ht
  have e := q_len ht.1 ht.2.2.1 ht.2.2.2
  rw [← hr1] at e
  have l16 := ht.2.2.1
  have z := hi55y s9 ht
  have g9 := hr15y s9 ht (by omega) (by omega)
  have z1 := z.1
  have vb := z.vb (by omega) (by omega) (by omega)
  have gb := q_gb (i := y6.toInt.toNat) ht.2.2.2
  have w10 : (10 : Int32).toInt = 10 := by decide +kernel
  have w48 : (48 : Int32).toInt = 48 := by decide +kernel
  have a9 : x17.toInt = 10 * y5.toInt := by rw [ex17]; exact z_mulc 10 w10 (by omega) (by omega)
  have b9 : x18.toInt = 10 * y5.toInt + r15.toInt := by rw [ex18, z_add (by omega) (by omega), a9]
  have v9 : x19.toInt = 10 * y5.toInt + (r15.toInt - 48) := by rw [ex19, z_sub (by omega) (by omega)]; omega
  exact z.step (by omega) (by omega) (by omega) (by omega) (by omega) (fun _ => by omega)
-- meas@55 @55
theorem v_intOf_15 (σ : RS) (k0 : Int32) (r1 : Int32) (x3 : Int32) (y6 : Int32) (x20 : Int32) (hpre_0 : 0 ≤ k0.toInt) (hpre_1 : k0.toInt < 980) (hr1 : r1 = LENF ((σ.2.2.1 52) k0.toNatClampNeg)) (c2 : r1.toInt ≤ 0) (ex3 : x3 = r1 - (0 : Int32)) (tx3 : x3.toInt = r1.toInt - 0) (c4 : x3.toInt < 1) (hi55_0 : 0 ≤ y6.toInt) (hi55_1 : y6.toInt ≤ 130) (c8 : y6.toInt < r1.toInt) (ex20 : x20 = y6 + (1 : Int32)) (tx20 : x20.toInt = y6.toInt + 1) : (130 - x20.toInt).toNat < (130 - y6.toInt).toNat := by
  have q0 : (0 : Int32).toInt = 0 := by decide +kernel
  have q1 : (1 : Int32).toInt = 1 := by decide +kernel
  have l_hr1 := LENF_le ((σ.2.2.1 52) k0.toNatClampNeg)
  rw [← hr1] at l_hr1
  first | assumption | omega | (subst_vars; omega) | trivial
-- nw@109 @109
theorem v_intOf_16 (σ : RS) (k0 : Int32) (r1 : Int32) (x3 : Int32) (y6 : Int32) (x25 : Int32) (hpre_0 : 0 ≤ k0.toInt) (hpre_1 : k0.toInt < 980) (hr1 : r1 = LENF ((σ.2.2.1 52) k0.toNatClampNeg)) (c2 : r1.toInt ≤ 0) (ex3 : x3 = r1 - (0 : Int32)) (tx3 : x3.toInt = r1.toInt - 0) (c4 : x3.toInt < 1) (hi55_0 : 0 ≤ y6.toInt) (hi55_1 : y6.toInt ≤ 130) (c8 : y6.toInt < r1.toInt) (ex25 : x25 = y6 + (1 : Int32)) : x25.toInt = y6.toInt + 1 := by
  have q0 : (0 : Int32).toInt = 0 := by decide +kernel
  have q1 : (1 : Int32).toInt = 1 := by decide +kernel
  have l_hr1 := LENF_le ((σ.2.2.1 52) k0.toNatClampNeg)
  rw [← hr1] at l_hr1
  have z9 : (1 : Int32).toInt = 1 := by decide +kernel
  rw [ex25, z_add (by omega) (by omega)]; first | done | omega
-- inv@55 @55
theorem v_intOf_17 (σ : RS) (k0 : Int32) (r1 : Int32) (x3 : Int32) (y6 : Int32) (x25 : Int32) (hpre_0 : 0 ≤ k0.toInt) (hpre_1 : k0.toInt < 980) (hr1 : r1 = LENF ((σ.2.2.1 52) k0.toNatClampNeg)) (c2 : r1.toInt ≤ 0) (ex3 : x3 = r1 - (0 : Int32)) (tx3 : x3.toInt = r1.toInt - 0) (c4 : x3.toInt < 1) (hi55_0 : 0 ≤ y6.toInt) (hi55_1 : y6.toInt ≤ 130) (c8 : y6.toInt < r1.toInt) (ex25 : x25 = y6 + (1 : Int32)) (tx25 : x25.toInt = y6.toInt + 1) : 0 ≤ x25.toInt ∧ x25.toInt ≤ 130 ∧ ((0 : Int32).toInt = 0 ∨ (0 : Int32).toInt = 1) := by
  have q0 : (0 : Int32).toInt = 0 := by decide +kernel
  have q1 : (1 : Int32).toInt = 1 := by decide +kernel
  have l_hr1 := LENF_le ((σ.2.2.1 52) k0.toNatClampNeg)
  rw [← hr1] at l_hr1
  refine ⟨?_, ?_, ?_⟩ <;> first | assumption | omega | (subst_vars; omega) | trivial
-- inv2@55 @55
theorem v_intOf_18 (σ : RS) (k0 : Int32) (r1 : Int32) (x3 : Int32) (y5 : Int32) (y6 : Int32) (y7 : Int32) (r15 : Int32) (x22 : Int32) (x23 : Int32) (x24 : Int32) (x25 : Int32) (hpre_0 : 0 ≤ k0.toInt) (hpre_1 : k0.toInt < 980) (hpre_2 : 0 ≤ (σ.1 56).toInt) (hpre_3 : (σ.1 56).toInt ≤ 11) (hr1 : r1 = LENF ((σ.2.2.1 52) k0.toNatClampNeg)) (c2 : r1.toInt ≤ 0) (ex3 : x3 = r1 - (0 : Int32)) (tx3 : x3.toInt = r1.toInt - 0) (c4 : x3.toInt < 1) (hi55_0 : 0 ≤ y6.toInt) (hi55_1 : y6.toInt ≤ 130) (hi55_2 : y7.toInt = 0 ∨ y7.toInt = 1) (hi55y : ∀ s9 : List Int, QTT ((σ.2.2.1 52) k0.toNatClampNeg) ((σ.2.2.1 53) k0.toNatClampNeg) s9 → INL s9 (0 : Int32).toInt y5.toInt y6.toInt y7.toInt) (c8 : y6.toInt < r1.toInt) (c12 : ¬ y7.toInt = 0) (hr15y : ∀ s9 : List Int, QTT ((σ.2.2.1 52) k0.toNatClampNeg) ((σ.2.2.1 53) k0.toNatClampNeg) s9 → 0 ≤ y6.toInt → y6.toInt < 17 → r15.toInt = s9.getD y6.toInt.toNat 0) (c16 : 48 ≤ r15.toInt) (c21 : 57 < r15.toInt) (ex22 : x22 = (10 : Int32) * y5) (ex23 : x23 = x22 + r15) (ex24 : x24 = x23 - (48 : Int32)) (ex25 : x25 = y6 + (1 : Int32)) (tx25 : x25.toInt = y6.toInt + 1) : ∀ s9 : List Int, QTT ((σ.2.2.1 52) k0.toNatClampNeg) ((σ.2.2.1 53) k0.toNatClampNeg) s9 → INL s9 (0 : Int32).toInt x24.toInt x25.toInt (0 : Int32).toInt := by
  have q0 : (0 : Int32).toInt = 0 := by decide +kernel
  have q1 : (1 : Int32).toInt = 1 := by decide +kernel
  have q10 : (10 : Int32).toInt = 10 := by decide +kernel
  have q48 : (48 : Int32).toInt = 48 := by decide +kernel
  have l_hr1 := LENF_le ((σ.2.2.1 52) k0.toNatClampNeg)
  rw [← hr1] at l_hr1
  intro s9 ht
  have e := q_len ht.1 ht.2.2.1 ht.2.2.2
  rw [← hr1] at e
  have l16 := ht.2.2.1
  have z := hi55y s9 ht
  have g9 := hr15y s9 ht (by omega) (by omega)
  have z1 := z.1
  have vb := z.vb (by omega) (by omega) (by omega)
  have gb := q_gb (i := y6.toInt.toNat) ht.2.2.2
  have w10 : (10 : Int32).toInt = 10 := by decide +kernel
  have w48 : (48 : Int32).toInt = 48 := by decide +kernel
  have a9 : x22.toInt = 10 * y5.toInt := by rw [ex22]; exact z_mulc 10 w10 (by omega) (by omega)
  have b9 : x23.toInt = 10 * y5.toInt + r15.toInt := by rw [ex23, z_add (by omega) (by omega), a9]
  have v9 : x24.toInt = 10 * y5.toInt + (r15.toInt - 48) := by rw [ex24, z_sub (by omega) (by omega)]; omega
  exact z.step (by omega) (by omega) (by omega) (by omega) (by omega) (fun _ => by omega)
-- meas@55 @55
theorem v_intOf_19 (σ : RS) (k0 : Int32) (r1 : Int32) (x3 : Int32) (y6 : Int32) (x25 : Int32) (hpre_0 : 0 ≤ k0.toInt) (hpre_1 : k0.toInt < 980) (hr1 : r1 = LENF ((σ.2.2.1 52) k0.toNatClampNeg)) (c2 : r1.toInt ≤ 0) (ex3 : x3 = r1 - (0 : Int32)) (tx3 : x3.toInt = r1.toInt - 0) (c4 : x3.toInt < 1) (hi55_0 : 0 ≤ y6.toInt) (hi55_1 : y6.toInt ≤ 130) (c8 : y6.toInt < r1.toInt) (ex25 : x25 = y6 + (1 : Int32)) (tx25 : x25.toInt = y6.toInt + 1) : (130 - x25.toInt).toNat < (130 - y6.toInt).toNat := by
  have q0 : (0 : Int32).toInt = 0 := by decide +kernel
  have q1 : (1 : Int32).toInt = 1 := by decide +kernel
  have l_hr1 := LENF_le ((σ.2.2.1 52) k0.toNatClampNeg)
  rw [← hr1] at l_hr1
  first | assumption | omega | (subst_vars; omega) | trivial
-- nw@109 @109
theorem v_intOf_20 (σ : RS) (k0 : Int32) (r1 : Int32) (x3 : Int32) (y6 : Int32) (x29 : Int32) (hpre_0 : 0 ≤ k0.toInt) (hpre_1 : k0.toInt < 980) (hr1 : r1 = LENF ((σ.2.2.1 52) k0.toNatClampNeg)) (c2 : r1.toInt ≤ 0) (ex3 : x3 = r1 - (0 : Int32)) (tx3 : x3.toInt = r1.toInt - 0) (c4 : x3.toInt < 1) (hi55_0 : 0 ≤ y6.toInt) (hi55_1 : y6.toInt ≤ 130) (c8 : y6.toInt < r1.toInt) (ex29 : x29 = y6 + (1 : Int32)) : x29.toInt = y6.toInt + 1 := by
  have q0 : (0 : Int32).toInt = 0 := by decide +kernel
  have q1 : (1 : Int32).toInt = 1 := by decide +kernel
  have l_hr1 := LENF_le ((σ.2.2.1 52) k0.toNatClampNeg)
  rw [← hr1] at l_hr1
  have z9 : (1 : Int32).toInt = 1 := by decide +kernel
  rw [ex29, z_add (by omega) (by omega)]; first | done | omega
-- inv@55 @55
theorem v_intOf_21 (σ : RS) (k0 : Int32) (r1 : Int32) (x3 : Int32) (y6 : Int32) (x29 : Int32) (hpre_0 : 0 ≤ k0.toInt) (hpre_1 : k0.toInt < 980) (hr1 : r1 = LENF ((σ.2.2.1 52) k0.toNatClampNeg)) (c2 : r1.toInt ≤ 0) (ex3 : x3 = r1 - (0 : Int32)) (tx3 : x3.toInt = r1.toInt - 0) (c4 : x3.toInt < 1) (hi55_0 : 0 ≤ y6.toInt) (hi55_1 : y6.toInt ≤ 130) (c8 : y6.toInt < r1.toInt) (ex29 : x29 = y6 + (1 : Int32)) (tx29 : x29.toInt = y6.toInt + 1) : 0 ≤ x29.toInt ∧ x29.toInt ≤ 130 ∧ ((1 : Int32).toInt = 0 ∨ (1 : Int32).toInt = 1) := by
  have q0 : (0 : Int32).toInt = 0 := by decide +kernel
  have q1 : (1 : Int32).toInt = 1 := by decide +kernel
  have l_hr1 := LENF_le ((σ.2.2.1 52) k0.toNatClampNeg)
  rw [← hr1] at l_hr1
  refine ⟨?_, ?_, ?_⟩ <;> first | assumption | omega | (subst_vars; omega) | trivial
-- inv2@55 @55
theorem v_intOf_22 (σ : RS) (k0 : Int32) (r1 : Int32) (x3 : Int32) (y5 : Int32) (y6 : Int32) (y7 : Int32) (r15 : Int32) (x26 : Int32) (x27 : Int32) (x28 : Int32) (x29 : Int32) (hpre_0 : 0 ≤ k0.toInt) (hpre_1 : k0.toInt < 980) (hpre_2 : 0 ≤ (σ.1 56).toInt) (hpre_3 : (σ.1 56).toInt ≤ 11) (hr1 : r1 = LENF ((σ.2.2.1 52) k0.toNatClampNeg)) (c2 : r1.toInt ≤ 0) (ex3 : x3 = r1 - (0 : Int32)) (tx3 : x3.toInt = r1.toInt - 0) (c4 : x3.toInt < 1) (hi55_0 : 0 ≤ y6.toInt) (hi55_1 : y6.toInt ≤ 130) (hi55_2 : y7.toInt = 0 ∨ y7.toInt = 1) (hi55y : ∀ s9 : List Int, QTT ((σ.2.2.1 52) k0.toNatClampNeg) ((σ.2.2.1 53) k0.toNatClampNeg) s9 → INL s9 (0 : Int32).toInt y5.toInt y6.toInt y7.toInt) (c8 : y6.toInt < r1.toInt) (c12 : ¬ y7.toInt = 0) (hr15y : ∀ s9 : List Int, QTT ((σ.2.2.1 52) k0.toNatClampNeg) ((σ.2.2.1 53) k0.toNatClampNeg) s9 → 0 ≤ y6.toInt → y6.toInt < 17 → r15.toInt = s9.getD y6.toInt.toNat 0) (c16 : 48 ≤ r15.toInt) (c21 : r15.toInt ≤ 57) (ex26 : x26 = (10 : Int32) * y5) (ex27 : x27 = x26 + r15) (ex28 : x28 = x27 - (48 : Int32)) (ex29 : x29 = y6 + (1 : Int32)) (tx29 : x29.toInt = y6.toInt + 1) : ∀ s9 : List Int, QTT ((σ.2.2.1 52) k0.toNatClampNeg) ((σ.2.2.1 53) k0.toNatClampNeg) s9 → INL s9 (0 : Int32).toInt x28.toInt x29.toInt (1 : Int32).toInt := by
  have q0 : (0 : Int32).toInt = 0 := by decide +kernel
  have q1 : (1 : Int32).toInt = 1 := by decide +kernel
  have q10 : (10 : Int32).toInt = 10 := by decide +kernel
  have q48 : (48 : Int32).toInt = 48 := by decide +kernel
  have l_hr1 := LENF_le ((σ.2.2.1 52) k0.toNatClampNeg)
  rw [← hr1] at l_hr1
  intro s9 ht
  have e := q_len ht.1 ht.2.2.1 ht.2.2.2
  rw [← hr1] at e
  have l16 := ht.2.2.1
  have z := hi55y s9 ht
  have g9 := hr15y s9 ht (by omega) (by omega)
  have z1 := z.1
  have vb := z.vb (by omega) (by omega) (by omega)
  have gb := q_gb (i := y6.toInt.toNat) ht.2.2.2
  have w10 : (10 : Int32).toInt = 10 := by decide +kernel
  have w48 : (48 : Int32).toInt = 48 := by decide +kernel
  have a9 : x26.toInt = 10 * y5.toInt := by rw [ex26]; exact z_mulc 10 w10 (by omega) (by omega)
  have b9 : x27.toInt = 10 * y5.toInt + r15.toInt := by rw [ex27, z_add (by omega) (by omega), a9]
  have v9 : x28.toInt = 10 * y5.toInt + (r15.toInt - 48) := by rw [ex28, z_sub (by omega) (by omega)]; omega
  exact z.step (by omega) (by omega) (by omega) (by omega) (by omega) (fun _ => by omega)
-- meas@55 @55
theorem v_intOf_23 (σ : RS) (k0 : Int32) (r1 : Int32) (x3 : Int32) (y6 : Int32) (x29 : Int32) (hpre_0 : 0 ≤ k0.toInt) (hpre_1 : k0.toInt < 980) (hr1 : r1 = LENF ((σ.2.2.1 52) k0.toNatClampNeg)) (c2 : r1.toInt ≤ 0) (ex3 : x3 = r1 - (0 : Int32)) (tx3 : x3.toInt = r1.toInt - 0) (c4 : x3.toInt < 1) (hi55_0 : 0 ≤ y6.toInt) (hi55_1 : y6.toInt ≤ 130) (c8 : y6.toInt < r1.toInt) (ex29 : x29 = y6 + (1 : Int32)) (tx29 : x29.toInt = y6.toInt + 1) : (130 - x29.toInt).toNat < (130 - y6.toInt).toNat := by
  have q0 : (0 : Int32).toInt = 0 := by decide +kernel
  have q1 : (1 : Int32).toInt = 1 := by decide +kernel
  have l_hr1 := LENF_le ((σ.2.2.1 52) k0.toNatClampNeg)
  rw [← hr1] at l_hr1
  first | assumption | omega | (subst_vars; omega) | trivial
-- nw@36 @36
theorem v_intOf_24 (σ : RS) (k0 : Int32) (r1 : Int32) (x3 : Int32) (x30 : Int32) (hpre_0 : 0 ≤ k0.toInt) (hpre_1 : k0.toInt < 980) (hr1 : r1 = LENF ((σ.2.2.1 52) k0.toNatClampNeg)) (c2 : r1.toInt ≤ 0) (ex3 : x3 = r1 - (0 : Int32)) (tx3 : x3.toInt = r1.toInt - 0) (c4 : 1 ≤ x3.toInt) (ex30 : x30 = r1 - (0 : Int32)) : x30.toInt = r1.toInt - 0 := by
  have q0 : (0 : Int32).toInt = 0 := by decide +kernel
  have l_hr1 := LENF_le ((σ.2.2.1 52) k0.toNatClampNeg)
  rw [← hr1] at l_hr1
  have w1 : (0 : Int32).toInt = 0 := by decide +kernel
  rw [ex30, z_sub (by omega) (by omega)]; first | done | omega
-- init2@55 @55
theorem v_intOf_25 (σ : RS) (k0 : Int32) (r1 : Int32) (x3 : Int32) (x30 : Int32) (hpre_0 : 0 ≤ k0.toInt) (hpre_1 : k0.toInt < 980) (hpre_2 : 0 ≤ (σ.1 56).toInt) (hpre_3 : (σ.1 56).toInt ≤ 11) (hr1 : r1 = LENF ((σ.2.2.1 52) k0.toNatClampNeg)) (c2 : r1.toInt ≤ 0) (ex3 : x3 = r1 - (0 : Int32)) (tx3 : x3.toInt = r1.toInt - 0) (c4 : 1 ≤ x3.toInt) (ex30 : x30 = r1 - (0 : Int32)) (tx30 : x30.toInt = r1.toInt - 0) (c31 : 9 < x30.toInt) : ∀ s9 : List Int, QTT ((σ.2.2.1 52) k0.toNatClampNeg) ((σ.2.2.1 53) k0.toNatClampNeg) s9 → INL s9 (0 : Int32).toInt (0 : Int32).toInt (0 : Int32).toInt (0 : Int32).toInt := by
  have q0 : (0 : Int32).toInt = 0 := by decide +kernel
  have l_hr1 := LENF_le ((σ.2.2.1 52) k0.toNatClampNeg)
  rw [← hr1] at l_hr1
  intro s9 ht
  have e := q_len ht.1 ht.2.2.1 ht.2.2.2
  rw [← hr1] at e
  exact INL.start (by omega) (by omega) (by omega) (by omega)
-- post2 @146
theorem v_intOf_26 (σ : RS) (k0 : Int32) (r1 : Int32) (x3 : Int32) (x30 : Int32) (y32 : Int32) (y33 : Int32) (y34 : Int32) (hpre_0 : 0 ≤ k0.toInt) (hpre_1 : k0.toInt < 980) (hpre_2 : 0 ≤ (σ.1 56).toInt) (hpre_3 : (σ.1 56).toInt ≤ 11) (hr1 : r1 = LENF ((σ.2.2.1 52) k0.toNatClampNeg)) (c2 : r1.toInt ≤ 0) (ex3 : x3 = r1 - (0 : Int32)) (tx3 : x3.toInt = r1.toInt - 0) (c4 : 1 ≤ x3.toInt) (ex30 : x30 = r1 - (0 : Int32)) (tx30 : x30.toInt = r1.toInt - 0) (c31 : 9 < x30.toInt) (hi55_0 : 0 ≤ y33.toInt) (hi55_1 : y33.toInt ≤ 130) (hi55_2 : y34.toInt = 0 ∨ y34.toInt = 1) (hi55y : ∀ s9 : List Int, QTT ((σ.2.2.1 52) k0.toNatClampNeg) ((σ.2.2.1 53) k0.toNatClampNeg) s9 → INL s9 (0 : Int32).toInt y32.toInt y33.toInt y34.toInt) (c35 : r1.toInt ≤ y33.toInt) (c36 : y34.toInt = 0) : ∀ s9 : List Int, QTT ((σ.2.2.1 52) k0.toNatClampNeg) ((σ.2.2.1 53) k0.toNatClampNeg) s9 → QI (qToI s9) y32.toInt (10 : Int32).toInt (σ.1 56).toInt := by
  have q0 : (0 : Int32).toInt = 0 := by decide +kernel
  have q10 : (10 : Int32).toInt = 10 := by decide +kernel
  have l_hr1 := LENF_le ((σ.2.2.1 52) k0.toNatClampNeg)
  rw [← hr1] at l_hr1
  intro s9 ht
  have e := q_len ht.1 ht.2.2.1 ht.2.2.2
  rw [← hr1] at e
  have z := hi55y s9 ht
  have zg := z.2.1
  rw [q0] at z
  exact z.fin0 (by first | exact q_head0 (by omega) | (rw [q_head (by omega)]; intro h; have h := Option.some.inj h; omega)) (by omega) (fun _ => rfl) (by omega)
-- post2 @146
theorem v_intOf_27 (σ : RS) (k0 : Int32) (r1 : Int32) (x3 : Int32) (x30 : Int32) (y32 : Int32) (y33 : Int32) (y34 : Int32) (hpre_0 : 0 ≤ k0.toInt) (hpre_1 : k0.toInt < 980) (hpre_2 : 0 ≤ (σ.1 56).toInt) (hpre_3 : (σ.1 56).toInt ≤ 11) (hr1 : r1 = LENF ((σ.2.2.1 52) k0.toNatClampNeg)) (c2 : r1.toInt ≤ 0) (ex3 : x3 = r1 - (0 : Int32)) (tx3 : x3.toInt = r1.toInt - 0) (c4 : 1 ≤ x3.toInt) (ex30 : x30 = r1 - (0 : Int32)) (tx30 : x30.toInt = r1.toInt - 0) (c31 : 9 < x30.toInt) (hi55_0 : 0 ≤ y33.toInt) (hi55_1 : y33.toInt ≤ 130) (hi55_2 : y34.toInt = 0 ∨ y34.toInt = 1) (hi55y : ∀ s9 : List Int, QTT ((σ.2.2.1 52) k0.toNatClampNeg) ((σ.2.2.1 53) k0.toNatClampNeg) s9 → INL s9 (0 : Int32).toInt y32.toInt y33.toInt y34.toInt) (c35 : r1.toInt ≤ y33.toInt) (c36 : ¬ y34.toInt = 0) : ∀ s9 : List Int, QTT ((σ.2.2.1 52) k0.toNatClampNeg) ((σ.2.2.1 53) k0.toNatClampNeg) s9 → QI (qToI s9) y32.toInt (σ.1 56).toInt (σ.1 56).toInt := by
  have q0 : (0 : Int32).toInt = 0 := by decide +kernel
  have l_hr1 := LENF_le ((σ.2.2.1 52) k0.toNatClampNeg)
  rw [← hr1] at l_hr1
  intro s9 ht
  have e := q_len ht.1 ht.2.2.1 ht.2.2.2
  rw [← hr1] at e
  have z := hi55y s9 ht
  have zg := z.2.1
  rw [q0] at z
  exact z.fin0 (by first | exact q_head0 (by omega) | (rw [q_head (by omega)]; intro h; have h := Option.some.inj h; omega)) (by omega) (fun _ => rfl) (by omega)
-- post2 @146
theorem v_intOf_28 (σ : RS) (k0 : Int32) (r1 : Int32) (x3 : Int32) (x30 : Int32) (y32 : Int32) (y33 : Int32) (y34 : Int32) (hpre_0 : 0 ≤ k0.toInt) (hpre_1 : k0.toInt < 980) (hpre_2 : 0 ≤ (σ.1 56).toInt) (hpre_3 : (σ.1 56).toInt ≤ 11) (hr1 : r1 = LENF ((σ.2.2.1 52) k0.toNatClampNeg)) (c2 : r1.toInt ≤ 0) (ex3 : x3 = r1 - (0 : Int32)) (tx3 : x3.toInt = r1.toInt - 0) (c4 : 1 ≤ x3.toInt) (ex30 : x30 = r1 - (0 : Int32)) (tx30 : x30.toInt = r1.toInt - 0) (c31 : 9 < x30.toInt) (hi55_0 : 0 ≤ y33.toInt) (hi55_1 : y33.toInt ≤ 130) (hi55_2 : y34.toInt = 0 ∨ y34.toInt = 1) (hi55y : ∀ s9 : List Int, QTT ((σ.2.2.1 52) k0.toNatClampNeg) ((σ.2.2.1 53) k0.toNatClampNeg) s9 → INL s9 (0 : Int32).toInt y32.toInt y33.toInt y34.toInt) (c35 : y33.toInt < r1.toInt) (c39 : y34.toInt = 0) (c40 : y34.toInt = 0) : ∀ s9 : List Int, QTT ((σ.2.2.1 52) k0.toNatClampNeg) ((σ.2.2.1 53) k0.toNatClampNeg) s9 → QI (qToI s9) y32.toInt (10 : Int32).toInt (σ.1 56).toInt := by
  have q0 : (0 : Int32).toInt = 0 := by decide +kernel
  have q10 : (10 : Int32).toInt = 10 := by decide +kernel
  have l_hr1 := LENF_le ((σ.2.2.1 52) k0.toNatClampNeg)
  rw [← hr1] at l_hr1
  intro s9 ht
  have e := q_len ht.1 ht.2.2.1 ht.2.2.2
  rw [← hr1] at e
  have z := hi55y s9 ht
  have zg := z.2.1
  rw [q0] at z
  exact z.fin0 (by first | exact q_head0 (by omega) | (rw [q_head (by omega)]; intro h; have h := Option.some.inj h; omega)) (by omega) (fun _ => rfl) (by omega)
-- dead@118 @121
theorem v_intOf_29 (y34 : Int32) (hi55_2 : y34.toInt = 0 ∨ y34.toInt = 1) (c39 : y34.toInt = 0) (c40 : ¬ y34.toInt = 0) : False := by
  first | assumption | omega | (subst_vars; omega) | trivial
-- pre:sign8@70 @70
theorem v_intOf_30 (σ : RS) (k0 : Int32) (r1 : Int32) (x3 : Int32) (x30 : Int32) (y33 : Int32) (hpre_0 : 0 ≤ k0.toInt) (hpre_1 : k0.toInt < 980) (hr1 : r1 = LENF ((σ.2.2.1 52) k0.toNatClampNeg)) (c2 : r1.toInt ≤ 0) (ex3 : x3 = r1 - (0 : Int32)) (tx3 : x3.toInt = r1.toInt - 0) (c4 : 1 ≤ x3.toInt) (ex30 : x30 = r1 - (0 : Int32)) (tx30 : x30.toInt = r1.toInt - 0) (c31 : 9 < x30.toInt) (hi55_0 : 0 ≤ y33.toInt) (hi55_1 : y33.toInt ≤ 130) (c35 : y33.toInt < r1.toInt) : 0 ≤ k0.toInt ∧ k0.toInt < 980 ∧ 0 ≤ y33.toInt ∧ y33.toInt ≤ 200 := by
  have q0 : (0 : Int32).toInt = 0 := by decide +kernel
  have l_hr1 := LENF_le ((σ.2.2.1 52) k0.toNatClampNeg)
  rw [← hr1] at l_hr1
  refine ⟨?_, ?_, ?_, ?_⟩ <;> first | assumption | omega | (subst_vars; omega) | trivial
-- nw@109 @109
theorem v_intOf_31 (σ : RS) (k0 : Int32) (r1 : Int32) (x3 : Int32) (x30 : Int32) (y33 : Int32) (x47 : Int32) (hpre_0 : 0 ≤ k0.toInt) (hpre_1 : k0.toInt < 980) (hr1 : r1 = LENF ((σ.2.2.1 52) k0.toNatClampNeg)) (c2 : r1.toInt ≤ 0) (ex3 : x3 = r1 - (0 : Int32)) (tx3 : x3.toInt = r1.toInt - 0) (c4 : 1 ≤ x3.toInt) (ex30 : x30 = r1 - (0 : Int32)) (tx30 : x30.toInt = r1.toInt - 0) (c31 : 9 < x30.toInt) (hi55_0 : 0 ≤ y33.toInt) (hi55_1 : y33.toInt ≤ 130) (c35 : y33.toInt < r1.toInt) (ex47 : x47 = y33 + (1 : Int32)) : x47.toInt = y33.toInt + 1 := by
  have q0 : (0 : Int32).toInt = 0 := by decide +kernel
  have q1 : (1 : Int32).toInt = 1 := by decide +kernel
  have l_hr1 := LENF_le ((σ.2.2.1 52) k0.toNatClampNeg)
  rw [← hr1] at l_hr1
  have z9 : (1 : Int32).toInt = 1 := by decide +kernel
  rw [ex47, z_add (by omega) (by omega)]; first | done | omega
-- inv@55 @55
theorem v_intOf_32 (σ : RS) (k0 : Int32) (r1 : Int32) (x3 : Int32) (x30 : Int32) (y33 : Int32) (x47 : Int32) (hpre_0 : 0 ≤ k0.toInt) (hpre_1 : k0.toInt < 980) (hr1 : r1 = LENF ((σ.2.2.1 52) k0.toNatClampNeg)) (c2 : r1.toInt ≤ 0) (ex3 : x3 = r1 - (0 : Int32)) (tx3 : x3.toInt = r1.toInt - 0) (c4 : 1 ≤ x3.toInt) (ex30 : x30 = r1 - (0 : Int32)) (tx30 : x30.toInt = r1.toInt - 0) (c31 : 9 < x30.toInt) (hi55_0 : 0 ≤ y33.toInt) (hi55_1 : y33.toInt ≤ 130) (c35 : y33.toInt < r1.toInt) (ex47 : x47 = y33 + (1 : Int32)) (tx47 : x47.toInt = y33.toInt + 1) : 0 ≤ x47.toInt ∧ x47.toInt ≤ 130 ∧ ((0 : Int32).toInt = 0 ∨ (0 : Int32).toInt = 1) := by
  have q0 : (0 : Int32).toInt = 0 := by decide +kernel
  have q1 : (1 : Int32).toInt = 1 := by decide +kernel
  have l_hr1 := LENF_le ((σ.2.2.1 52) k0.toNatClampNeg)
  rw [← hr1] at l_hr1
  refine ⟨?_, ?_, ?_⟩ <;> first | assumption | omega | (subst_vars; omega) | trivial
-- inv2@55 @55
theorem v_intOf_33 (σ : RS) (k0 : Int32) (r1 : Int32) (x3 : Int32) (x30 : Int32) (y32 : Int32) (y33 : Int32) (y34 : Int32) (r42 : Int32) (x44 : Int32) (x45 : Int32) (x46 : Int32) (x47 : Int32) (hpre_0 : 0 ≤ k0.toInt) (hpre_1 : k0.toInt < 980) (hpre_2 : 0 ≤ (σ.1 56).toInt) (hpre_3 : (σ.1 56).toInt ≤ 11) (hr1 : r1 = LENF ((σ.2.2.1 52) k0.toNatClampNeg)) (c2 : r1.toInt ≤ 0) (ex3 : x3 = r1 - (0 : Int32)) (tx3 : x3.toInt = r1.toInt - 0) (c4 : 1 ≤ x3.toInt) (ex30 : x30 = r1 - (0 : Int32)) (tx30 : x30.toInt = r1.toInt - 0) (c31 : 9 < x30.toInt) (hi55_0 : 0 ≤ y33.toInt) (hi55_1 : y33.toInt ≤ 130) (hi55_2 : y34.toInt = 0 ∨ y34.toInt = 1) (hi55y : ∀ s9 : List Int, QTT ((σ.2.2.1 52) k0.toNatClampNeg) ((σ.2.2.1 53) k0.toNatClampNeg) s9 → INL s9 (0 : Int32).toInt y32.toInt y33.toInt y34.toInt) (c35 : y33.toInt < r1.toInt) (c39 : ¬ y34.toInt = 0) (hr42y : ∀ s9 : List Int, QTT ((σ.2.2.1 52) k0.toNatClampNeg) ((σ.2.2.1 53) k0.toNatClampNeg) s9 → 0 ≤ y33.toInt → y33.toInt < 17 → r42.toInt = s9.getD y33.toInt.toNat 0) (c43 : r42.toInt < 48) (ex44 : x44 = (10 : Int32) * y32) (ex45 : x45 = x44 + r42) (ex46 : x46 = x45 - (48 : Int32)) (ex47 : x47 = y33 + (1 : Int32)) (tx47 : x47.toInt = y33.toInt + 1) : ∀ s9 : List Int, QTT ((σ.2.2.1 52) k0.toNatClampNeg) ((σ.2.2.1 53) k0.toNatClampNeg) s9 → INL s9 (0 : Int32).toInt x46.toInt x47.toInt (0 : Int32).toInt := by
  have q0 : (0 : Int32).toInt = 0 := by decide +kernel
  have q1 : (1 : Int32).toInt = 1 := by decide +kernel
  have q10 : (10 : Int32).toInt = 10 := by decide +kernel
  have q48 : (48 : Int32).toInt = 48 := by decide +kernel
  have l_hr1 := LENF_le ((σ.2.2.1 52) k0.toNatClampNeg)
  rw [← hr1] at l_hr1
  intro s9 ht
  have e := q_len ht.1 ht.2.2.1 ht.2.2.2
  rw [← hr1] at e
  have l16 := ht.2.2.1
  have z := hi55y s9 ht
  have g9 := hr42y s9 ht (by omega) (by omega)
  have z1 := z.1
  have vb := z.vb (by omega) (by omega) (by omega)
  have gb := q_gb (i := y33.toInt.toNat) ht.2.2.2
  have w10 : (10 : Int32).toInt = 10 := by decide +kernel
  have w48 : (48 : Int32).toInt = 48 := by decide +kernel
  have a9 : x44.toInt = 10 * y32.toInt := by rw [ex44]; exact z_mulc 10 w10 (by omega) (by omega)
  have b9 : x45.toInt = 10 * y32.toInt + r42.toInt := by rw [ex45, z_add (by omega) (by omega), a9]
  have v9 : x46.toInt = 10 * y32.toInt + (r42.toInt - 48) := by rw [ex46, z_sub (by omega) (by omega)]; omega
  exact z.step (by omega) (by omega) (by omega) (by omega) (by omega) (fun _ => by omega)
-- meas@55 @55
theorem v_intOf_34 (σ : RS) (k0 : Int32) (r1 : Int32) (x3 : Int32) (x30 : Int32) (y33 : Int32) (x47 : Int32) (hpre_0 : 0 ≤ k0.toInt) (hpre_1 : k0.toInt < 980) (hr1 : r1 = LENF ((σ.2.2.1 52) k0.toNatClampNeg)) (c2 : r1.toInt ≤ 0) (ex3 : x3 = r1 - (0 : Int32)) (tx3 : x3.toInt = r1.toInt - 0) (c4 : 1 ≤ x3.toInt) (ex30 : x30 = r1 - (0 : Int32)) (tx30 : x30.toInt = r1.toInt - 0) (c31 : 9 < x30.toInt) (hi55_0 : 0 ≤ y33.toInt) (hi55_1 : y33.toInt ≤ 130) (c35 : y33.toInt < r1.toInt) (ex47 : x47 = y33 + (1 : Int32)) (tx47 : x47.toInt = y33.toInt + 1) : (130 - x47.toInt).toNat < (130 - y33.toInt).toNat := by
  have q0 : (0 : Int32).toInt = 0 := by decide +kernel
  have q1 : (1 : Int32).toInt = 1 := by decide +kernel
  have l_hr1 := LENF_le ((σ.2.2.1 52) k0.toNatClampNeg)
  rw [← hr1] at l_hr1
  first | assumption | omega | (subst_vars; omega) | trivial
-- nw@109 @109
theorem v_intOf_35 (σ : RS) (k0 : Int32) (r1 : Int32) (x3 : Int32) (x30 : Int32) (y33 : Int32) (x52 : Int32) (hpre_0 : 0 ≤ k0.toInt) (hpre_1 : k0.toInt < 980) (hr1 : r1 = LENF ((σ.2.2.1 52) k0.toNatClampNeg)) (c2 : r1.toInt ≤ 0) (ex3 : x3 = r1 - (0 : Int32)) (tx3 : x3.toInt = r1.toInt - 0) (c4 : 1 ≤ x3.toInt) (ex30 : x30 = r1 - (0 : Int32)) (tx30 : x30.toInt = r1.toInt - 0) (c31 : 9 < x30.toInt) (hi55_0 : 0 ≤ y33.toInt) (hi55_1 : y33.toInt ≤ 130) (c35 : y33.toInt < r1.toInt) (ex52 : x52 = y33 + (1 : Int32)) : x52.toInt = y33.toInt + 1 := by
  have q0 : (0 : Int32).toInt = 0 := by decide +kernel
  have q1 : (1 : Int32).toInt = 1 := by decide +kernel
  have l_hr1 := LENF_le ((σ.2.2.1 52) k0.toNatClampNeg)
  rw [← hr1] at l_hr1
  have z9 : (1 : Int32).toInt = 1 := by decide +kernel
  rw [ex52, z_add (by omega) (by omega)]; first | done | omega
-- inv@55 @55
theorem v_intOf_36 (σ : RS) (k0 : Int32) (r1 : Int32) (x3 : Int32) (x30 : Int32) (y33 : Int32) (x52 : Int32) (hpre_0 : 0 ≤ k0.toInt) (hpre_1 : k0.toInt < 980) (hr1 : r1 = LENF ((σ.2.2.1 52) k0.toNatClampNeg)) (c2 : r1.toInt ≤ 0) (ex3 : x3 = r1 - (0 : Int32)) (tx3 : x3.toInt = r1.toInt - 0) (c4 : 1 ≤ x3.toInt) (ex30 : x30 = r1 - (0 : Int32)) (tx30 : x30.toInt = r1.toInt - 0) (c31 : 9 < x30.toInt) (hi55_0 : 0 ≤ y33.toInt) (hi55_1 : y33.toInt ≤ 130) (c35 : y33.toInt < r1.toInt) (ex52 : x52 = y33 + (1 : Int32)) (tx52 : x52.toInt = y33.toInt + 1) : 0 ≤ x52.toInt ∧ x52.toInt ≤ 130 ∧ ((0 : Int32).toInt = 0 ∨ (0 : Int32).toInt = 1) := by
  have q0 : (0 : Int32).toInt = 0 := by decide +kernel
  have q1 : (1 : Int32).toInt = 1 := by decide +kernel
  have l_hr1 := LENF_le ((σ.2.2.1 52) k0.toNatClampNeg)
  rw [← hr1] at l_hr1
  refine ⟨?_, ?_, ?_⟩ <;> first | assumption | omega | (subst_vars; omega) | trivial
-- inv2@55 @55
theorem v_intOf_37 (σ : RS) (k0 : Int32) (r1 : Int32) (x3 : Int32) (x30 : Int32) (y32 : Int32) (y33 : Int32) (y34 : Int32) (r42 : Int32) (x49 : Int32) (x50 : Int32) (x51 : Int32) (x52 : Int32) (hpre_0 : 0 ≤ k0.toInt) (hpre_1 : k0.toInt < 980) (hpre_2 : 0 ≤ (σ.1 56).toInt) (hpre_3 : (σ.1 56).toInt ≤ 11) (hr1 : r1 = LENF ((σ.2.2.1 52) k0.toNatClampNeg)) (c2 : r1.toInt ≤ 0) (ex3 : x3 = r1 - (0 : Int32)) (tx3 : x3.toInt = r1.toInt - 0) (c4 : 1 ≤ x3.toInt) (ex30 : x30 = r1 - (0 : Int32)) (tx30 : x30.toInt = r1.toInt - 0) (c31 : 9 < x30.toInt) (hi55_0 : 0 ≤ y33.toInt) (hi55_1 : y33.toInt ≤ 130) (hi55_2 : y34.toInt = 0 ∨ y34.toInt = 1) (hi55y : ∀ s9 : List Int, QTT ((σ.2.2.1 52) k0.toNatClampNeg) ((σ.2.2.1 53) k0.toNatClampNeg) s9 → INL s9 (0 : Int32).toInt y32.toInt y33.toInt y34.toInt) (c35 : y33.toInt < r1.toInt) (c39 : ¬ y34.toInt = 0) (hr42y : ∀ s9 : List Int, QTT ((σ.2.2.1 52) k0.toNatClampNeg) ((σ.2.2.1 53) k0.toNatClampNeg) s9 → 0 ≤ y33.toInt → y33.toInt < 17 → r42.toInt = s9.getD y33.toInt.toNat 0) (c43 : 48 ≤ r42.toInt) (c48 : 57 < r42.toInt) (ex49 : x49 = (10 : Int32) * y32) (ex50 : x50 = x49 + r42) (ex51 : x51 = x50 - (48 : Int32)) (ex52 : x52 = y33 + (1 : Int32)) (tx52 : x52.toInt = y33.toInt + 1) : ∀ s9 : List Int, QTT ((σ.2.2.1 52) k0.toNatClampNeg) ((σ.2.2.1 53) k0.toNatClampNeg) s9 → INL s9 (0 : Int32).toInt x51.toInt x52.toInt (0 : Int32).toInt := by
  have q0 : (0 : Int32).toInt = 0 := by decide +kernel
  have q1 : (1 : Int32).toInt = 1 := by decide +kernel
  have q10 : (10 : Int32).toInt = 10 := by decide +kernel
  have q48 : (48 : Int32).toInt = 48 := by decide +kernel
  have l_hr1 := LENF_le ((σ.2.2.1 52) k0.toNatClampNeg)
  rw [← hr1] at l_hr1
  intro s9 ht
  have e := q_len ht.1 ht.2.2.1 ht.2.2.2
  rw [← hr1] at e
  have l16 := ht.2.2.1
  have z := hi55y s9 ht
  have g9 := hr42y s9 ht (by omega) (by omega)
  have z1 := z.1
  have vb := z.vb (by omega) (by omega) (by omega)
  have gb := q_gb (i := y33.toInt.toNat) ht.2.2.2
  have w10 : (10 : Int32).toInt = 10 := by decide +kernel
  have w48 : (48 : Int32).toInt = 48 := by decide +kernel
  have a9 : x49.toInt = 10 * y32.toInt := by rw [ex49]; exact z_mulc 10 w10 (by omega) (by omega)
  have b9 : x50.toInt = 10 * y32.toInt + r42.toInt := by rw [ex50, z_add (by omega) (by omega), a9]
  have v9 : x51.toInt = 10 * y32.toInt + (r42.toInt - 48) := by rw [ex51, z_sub (by omega) (by omega)]; omega
  exact z.step (by omega) (by omega) (by omega) (by omega) (by omega) (fun _ => by omega)
-- meas@55 @55
theorem v_intOf_38 (σ : RS) (k0 : Int32) (r1 : Int32) (x3 : Int32) (x30 : Int32) (y33 : Int32) (x52 : Int32) (hpre_0 : 0 ≤ k0.toInt) (hpre_1 : k0.toInt < 980) (hr1 : r1 = LENF ((σ.2.2.1 52) k0.toNatClampNeg)) (c2 : r1.toInt ≤ 0) (ex3 : x3 = r1 - (0 : Int32)) (tx3 : x3.toInt = r1.toInt - 0) (c4 : 1 ≤ x3.toInt) (ex30 : x30 = r1 - (0 : Int32)) (tx30 : x30.toInt = r1.toInt - 0) (c31 : 9 < x30.toInt) (hi55_0 : 0 ≤ y33.toInt) (hi55_1 : y33.toInt ≤ 130) (c35 : y33.toInt < r1.toInt) (ex52 : x52 = y33 + (1 : Int32)) (tx52 : x52.toInt = y33.toInt + 1) : (130 - x52.toInt).toNat < (130 - y33.toInt).toNat := by
  have q0 : (0 : Int32).toInt = 0 := by decide +kernel
  have q1 : (1 : Int32).toInt = 1 := by decide +kernel
  have l_hr1 := LENF_le ((σ.2.2.1 52) k0.toNatClampNeg)
  rw [← hr1] at l_hr1
  first | assumption | omega | (subst_vars; omega) | trivial
-- nw@109 @109
theorem v_intOf_39 (σ : RS) (k0 : Int32) (r1 : Int32) (x3 : Int32) (x30 : Int32) (y33 : Int32) (x56 : Int32) (hpre_0 : 0 ≤ k0.toInt) (hpre_1 : k0.toInt < 980) (hr1 : r1 = LENF ((σ.2.2.1 52) k0.toNatClampNeg)) (c2 : r1.toInt ≤ 0) (ex3 : x3 = r1 - (0 : Int32)) (tx3 : x3.toInt = r1.toInt - 0) (c4 : 1 ≤ x3.toInt) (ex30 : x30 = r1 - (0 : Int32)) (tx30 : x30.toInt = r1.toInt - 0) (c31 : 9 < x30.toInt) (hi55_0 : 0 ≤ y33.toInt) (hi55_1 : y33.toInt ≤ 130) (c35 : y33.toInt < r1.toInt) (ex56 : x56 = y33 + (1 : Int32)) : x56.toInt = y33.toInt + 1 := by
  have q0 : (0 : Int32).toInt = 0 := by decide +kernel
  have q1 : (1 : Int32).toInt = 1 := by decide +kernel
  have l_hr1 := LENF_le ((σ.2.2.1 52) k0.toNatClampNeg)
  rw [← hr1] at l_hr1
  have z9 : (1 : Int32).toInt = 1 := by decide +kernel
  rw [ex56, z_add (by omega) (by omega)]; first | done | omega
-- inv@55 @55
theorem v_intOf_40 (σ : RS) (k0 : Int32) (r1 : Int32) (x3 : Int32) (x30 : Int32) (y33 : Int32) (x56 : Int32) (hpre_0 : 0 ≤ k0.toInt) (hpre_1 : k0.toInt < 980) (hr1 : r1 = LENF ((σ.2.2.1 52) k0.toNatClampNeg)) (c2 : r1.toInt ≤ 0) (ex3 : x3 = r1 - (0 : Int32)) (tx3 : x3.toInt = r1.toInt - 0) (c4 : 1 ≤ x3.toInt) (ex30 : x30 = r1 - (0 : Int32)) (tx30 : x30.toInt = r1.toInt - 0) (c31 : 9 < x30.toInt) (hi55_0 : 0 ≤ y33.toInt) (hi55_1 : y33.toInt ≤ 130) (c35 : y33.toInt < r1.toInt) (ex56 : x56 = y33 + (1 : Int32)) (tx56 : x56.toInt = y33.toInt + 1) : 0 ≤ x56.toInt ∧ x56.toInt ≤ 130 ∧ ((1 : Int32).toInt = 0 ∨ (1 : Int32).toInt = 1) := by
  have q0 : (0 : Int32).toInt = 0 := by decide +kernel
  have q1 : (1 : Int32).toInt = 1 := by decide +kernel
  have l_hr1 := LENF_le ((σ.2.2.1 52) k0.toNatClampNeg)
  rw [← hr1] at l_hr1
  refine ⟨?_, ?_, ?_⟩ <;> first | assumption | omega | (subst_vars; omega) | trivial
-- inv2@55 @55
theorem v_intOf_41 (σ : RS) (k0 : Int32) (r1 : Int32) (x3 : Int32) (x30 : Int32) (y32 : Int32) (y33 : Int32) (y34 : Int32) (r42 : Int32) (x53 : Int32) (x54 : Int32) (x55 : Int32) (x56 : Int32) (hpre_0 : 0 ≤ k0.toInt) (hpre_1 : k0.toInt < 980) (hpre_2 : 0 ≤ (σ.1 56).toInt) (hpre_3 : (σ.1 56).toInt ≤ 11) (hr1 : r1 = LENF ((σ.2.2.1 52) k0.toNatClampNeg)) (c2 : r1.toInt ≤ 0) (ex3 : x3 = r1 - (0 : Int32)) (tx3 : x3.toInt = r1.toInt - 0) (c4 : 1 ≤ x3.toInt) (ex30 : x30 = r1 - (0 : Int32)) (tx30 : x30.toInt = r1.toInt - 0) (c31 : 9 < x30.toInt) (hi55_0 : 0 ≤ y33.toInt) (hi55_1 : y33.toInt ≤ 130) (hi55_2 : y34.toInt = 0 ∨ y34.toInt = 1) (hi55y : ∀ s9 : List Int, QTT ((σ.2.2.1 52) k0.toNatClampNeg) ((σ.2.2.1 53) k0.toNatClampNeg) s9 → INL s9 (0 : Int32).toInt y32.toInt y33.toInt y34.toInt) (c35 : y33.toInt < r1.toInt) (c39 : ¬ y34.toInt = 0) (hr42y : ∀ s9 : List Int, QTT ((σ.2.2.1 52) k0.toNatClampNeg) ((σ.2.2.1 53) k0.toNatClampNeg) s9 → 0 ≤ y33.toInt → y33.toInt < 17 → r42.toInt = s9.getD y33.toInt.toNat 0) (c43 : 48 ≤ r42.toInt) (c48 : r42.toInt ≤ 57) (ex53 : x53 = (10 : Int32) * y32) (ex54 : x54 = x53 + r42) (ex55 : x55 = x54 - (48 : Int32)) (ex56 : x56 = y33 + (1 : Int32)) (tx56 : x56.toInt = y33.toInt + 1) : ∀ s9 : List Int, QTT ((σ.2.2.1 52) k0.toNatClampNeg) ((σ.2.2.1 53) k0.toNatClampNeg) s9 → INL s9 (0 : Int32).toInt x55.toInt x56.toInt (1 : Int32).toInt := by
  have q0 : (0 : Int32).toInt = 0 := by decide +kernel
  have q1 : (1 : Int32).toInt = 1 := by decide +kernel
  have q10 : (10 : Int32).toInt = 10 := by decide +kernel
  have q48 : (48 : Int32).toInt = 48 := by decide +kernel
  have l_hr1 := LENF_le ((σ.2.2.1 52) k0.toNatClampNeg)
  rw [← hr1] at l_hr1
  intro s9 ht
  have e := q_len ht.1 ht.2.2.1 ht.2.2.2
  rw [← hr1] at e
  have l16 := ht.2.2.1
  have z := hi55y s9 ht
  have g9 := hr42y s9 ht (by omega) (by omega)
  have z1 := z.1
  have vb := z.vb (by omega) (by omega) (by omega)
  have gb := q_gb (i := y33.toInt.toNat) ht.2.2.2
  have w10 : (10 : Int32).toInt = 10 := by decide +kernel
  have w48 : (48 : Int32).toInt = 48 := by decide +kernel
  have a9 : x53.toInt = 10 * y32.toInt := by rw [ex53]; exact z_mulc 10 w10 (by omega) (by omega)
  have b9 : x54.toInt = 10 * y32.toInt + r42.toInt := by rw [ex54, z_add (by omega) (by omega), a9]
  have v9 : x55.toInt = 10 * y32.toInt + (r42.toInt - 48) := by rw [ex55, z_sub (by omega) (by omega)]; omega
  exact z.step (by omega) (by omega) (by omega) (by omega) (by omega) (fun _ => by omega)
-- meas@55 @55
theorem v_intOf_42 (σ : RS) (k0 : Int32) (r1 : Int32) (x3 : Int32) (x30 : Int32) (y33 : Int32) (x56 : Int32) (hpre_0 : 0 ≤ k0.toInt) (hpre_1 : k0.toInt < 980) (hr1 : r1 = LENF ((σ.2.2.1 52) k0.toNatClampNeg)) (c2 : r1.toInt ≤ 0) (ex3 : x3 = r1 - (0 : Int32)) (tx3 : x3.toInt = r1.toInt - 0) (c4 : 1 ≤ x3.toInt) (ex30 : x30 = r1 - (0 : Int32)) (tx30 : x30.toInt = r1.toInt - 0) (c31 : 9 < x30.toInt) (hi55_0 : 0 ≤ y33.toInt) (hi55_1 : y33.toInt ≤ 130) (c35 : y33.toInt < r1.toInt) (ex56 : x56 = y33 + (1 : Int32)) (tx56 : x56.toInt = y33.toInt + 1) : (130 - x56.toInt).toNat < (130 - y33.toInt).toNat := by
  have q0 : (0 : Int32).toInt = 0 := by decide +kernel
  have q1 : (1 : Int32).toInt = 1 := by decide +kernel
  have l_hr1 := LENF_le ((σ.2.2.1 52) k0.toNatClampNeg)
  rw [← hr1] at l_hr1
  first | assumption | omega | (subst_vars; omega) | trivial
-- init@55 @55
theorem v_intOf_43   : 0 ≤ (0 : Int32).toInt ∧ (0 : Int32).toInt ≤ 130 ∧ ((1 : Int32).toInt = 0 ∨ (1 : Int32).toInt = 1) := by
  have q0 : (0 : Int32).toInt = 0 := by decide +kernel
  have q1 : (1 : Int32).toInt = 1 := by decide +kernel
  refine ⟨?_, ?_, ?_⟩ <;> first | assumption | omega | (subst_vars; omega) | trivial
-- init2@55 @55
theorem v_intOf_44 (σ : RS) (k0 : Int32) (r1 : Int32) (x3 : Int32) (x30 : Int32) (hpre_0 : 0 ≤ k0.toInt) (hpre_1 : k0.toInt < 980) (hpre_2 : 0 ≤ (σ.1 56).toInt) (hpre_3 : (σ.1 56).toInt ≤ 11) (hr1 : r1 = LENF ((σ.2.2.1 52) k0.toNatClampNeg)) (c2 : r1.toInt ≤ 0) (ex3 : x3 = r1 - (0 : Int32)) (tx3 : x3.toInt = r1.toInt - 0) (c4 : 1 ≤ x3.toInt) (ex30 : x30 = r1 - (0 : Int32)) (tx30 : x30.toInt = r1.toInt - 0) (c31 : x30.toInt ≤ 9) : ∀ s9 : List Int, QTT ((σ.2.2.1 52) k0.toNatClampNeg) ((σ.2.2.1 53) k0.toNatClampNeg) s9 → INL s9 (0 : Int32).toInt (0 : Int32).toInt (0 : Int32).toInt (1 : Int32).toInt := by
  have q0 : (0 : Int32).toInt = 0 := by decide +kernel
  have q1 : (1 : Int32).toInt = 1 := by decide +kernel
  have l_hr1 := LENF_le ((σ.2.2.1 52) k0.toNatClampNeg)
  rw [← hr1] at l_hr1
  intro s9 ht
  have e := q_len ht.1 ht.2.2.1 ht.2.2.2
  rw [← hr1] at e
  exact INL.start (by omega) (by omega) (by omega) (by omega)
-- post2 @146
theorem v_intOf_45 (σ : RS) (k0 : Int32) (r1 : Int32) (x3 : Int32) (x30 : Int32) (y57 : Int32) (y58 : Int32) (y59 : Int32) (hpre_0 : 0 ≤ k0.toInt) (hpre_1 : k0.toInt < 980) (hpre_2 : 0 ≤ (σ.1 56).toInt) (hpre_3 : (σ.1 56).toInt ≤ 11) (hr1 : r1 = LENF ((σ.2.2.1 52) k0.toNatClampNeg)) (c2 : r1.toInt ≤ 0) (ex3 : x3 = r1 - (0 : Int32)) (tx3 : x3.toInt = r1.toInt - 0) (c4 : 1 ≤ x3.toInt) (ex30 : x30 = r1 - (0 : Int32)) (tx30 : x30.toInt = r1.toInt - 0) (c31 : x30.toInt ≤ 9) (hi55_0 : 0 ≤ y58.toInt) (hi55_1 : y58.toInt ≤ 130) (hi55_2 : y59.toInt = 0 ∨ y59.toInt = 1) (hi55y : ∀ s9 : List Int, QTT ((σ.2.2.1 52) k0.toNatClampNeg) ((σ.2.2.1 53) k0.toNatClampNeg) s9 → INL s9 (0 : Int32).toInt y57.toInt y58.toInt y59.toInt) (c60 : r1.toInt ≤ y58.toInt) (c61 : y59.toInt = 0) : ∀ s9 : List Int, QTT ((σ.2.2.1 52) k0.toNatClampNeg) ((σ.2.2.1 53) k0.toNatClampNeg) s9 → QI (qToI s9) y57.toInt (10 : Int32).toInt (σ.1 56).toInt := by
  have q0 : (0 : Int32).toInt = 0 := by decide +kernel
  have q10 : (10 : Int32).toInt = 10 := by decide +kernel
  have l_hr1 := LENF_le ((σ.2.2.1 52) k0.toNatClampNeg)
  rw [← hr1] at l_hr1
  intro s9 ht
  have e := q_len ht.1 ht.2.2.1 ht.2.2.2
  rw [← hr1] at e
  have z := hi55y s9 ht
  have zg := z.2.1
  rw [q0] at z
  exact z.fin0 (by first | exact q_head0 (by omega) | (rw [q_head (by omega)]; intro h; have h := Option.some.inj h; omega)) (by omega) (fun _ => rfl) (by omega)
-- post2 @146
theorem v_intOf_46 (σ : RS) (k0 : Int32) (r1 : Int32) (x3 : Int32) (x30 : Int32) (y57 : Int32) (y58 : Int32) (y59 : Int32) (hpre_0 : 0 ≤ k0.toInt) (hpre_1 : k0.toInt < 980) (hpre_2 : 0 ≤ (σ.1 56).toInt) (hpre_3 : (σ.1 56).toInt ≤ 11) (hr1 : r1 = LENF ((σ.2.2.1 52) k0.toNatClampNeg)) (c2 : r1.toInt ≤ 0) (ex3 : x3 = r1 - (0 : Int32)) (tx3 : x3.toInt = r1.toInt - 0) (c4 : 1 ≤ x3.toInt) (ex30 : x30 = r1 - (0 : Int32)) (tx30 : x30.toInt = r1.toInt - 0) (c31 : x30.toInt ≤ 9) (hi55_0 : 0 ≤ y58.toInt) (hi55_1 : y58.toInt ≤ 130) (hi55_2 : y59.toInt = 0 ∨ y59.toInt = 1) (hi55y : ∀ s9 : List Int, QTT ((σ.2.2.1 52) k0.toNatClampNeg) ((σ.2.2.1 53) k0.toNatClampNeg) s9 → INL s9 (0 : Int32).toInt y57.toInt y58.toInt y59.toInt) (c60 : r1.toInt ≤ y58.toInt) (c61 : ¬ y59.toInt = 0) : ∀ s9 : List Int, QTT ((σ.2.2.1 52) k0.toNatClampNeg) ((σ.2.2.1 53) k0.toNatClampNeg) s9 → QI (qToI s9) y57.toInt (σ.1 56).toInt (σ.1 56).toInt := by
  have q0 : (0 : Int32).toInt = 0 := by decide +kernel
  have l_hr1 := LENF_le ((σ.2.2.1 52) k0.toNatClampNeg)
  rw [← hr1] at l_hr1
  intro s9 ht
  have e := q_len ht.1 ht.2.2.1 ht.2.2.2
  rw [← hr1] at e
  have z := hi55y s9 ht
  have zg := z.2.1
  rw [q0] at z
  exact z.fin0 (by first | exact q_head0 (by omega) | (rw [q_head (by omega)]; intro h; have h := Option.some.inj h; omega)) (by omega) (fun _ => rfl) (by omega)
-- post2 @146
theorem v_intOf_47 (σ : RS) (k0 : Int32) (r1 : Int32) (x3 : Int32) (x30 : Int32) (y57 : Int32) (y58 : Int32) (y59 : Int32) (hpre_0 : 0 ≤ k0.toInt) (hpre_1 : k0.toInt < 980) (hpre_2 : 0 ≤ (σ.1 56).toInt) (hpre_3 : (σ.1 56).toInt ≤ 11) (hr1 : r1 = LENF ((σ.2.2.1 52) k0.toNatClampNeg)) (c2 : r1.toInt ≤ 0) (ex3 : x3 = r1 - (0 : Int32)) (tx3 : x3.toInt = r1.toInt - 0) (c4 : 1 ≤ x3.toInt) (ex30 : x30 = r1 - (0 : Int32)) (tx30 : x30.toInt = r1.toInt - 0) (c31 : x30.toInt ≤ 9) (hi55_0 : 0 ≤ y58.toInt) (hi55_1 : y58.toInt ≤ 130) (hi55_2 : y59.toInt = 0 ∨ y59.toInt = 1) (hi55y : ∀ s9 : List Int, QTT ((σ.2.2.1 52) k0.toNatClampNeg) ((σ.2.2.1 53) k0.toNatClampNeg) s9 → INL s9 (0 : Int32).toInt y57.toInt y58.toInt y59.toInt) (c60 : y58.toInt < r1.toInt) (c64 : y59.toInt = 0) (c65 : y59.toInt = 0) : ∀ s9 : List Int, QTT ((σ.2.2.1 52) k0.toNatClampNeg) ((σ.2.2.1 53) k0.toNatClampNeg) s9 → QI (qToI s9) y57.toInt (10 : Int32).toInt (σ.1 56).toInt := by
  have q0 : (0 : Int32).toInt = 0 := by decide +kernel
  have q10 : (10 : Int32).toInt = 10 := by decide +kernel
  have l_hr1 := LENF_le ((σ.2.2.1 52) k0.toNatClampNeg)
  rw [← hr1] at l_hr1
  intro s9 ht
  have e := q_len ht.1 ht.2.2.1 ht.2.2.2
  rw [← hr1] at e
  have z := hi55y s9 ht
  have zg := z.2.1
  rw [q0] at z
  exact z.fin0 (by first | exact q_head0 (by omega) | (rw [q_head (by omega)]; intro h; have h := Option.some.inj h; omega)) (by omega) (fun _ => rfl) (by omega)
-- dead@118 @121
theorem v_intOf_48 (y59 : Int32) (hi55_2 : y59.toInt = 0 ∨ y59.toInt = 1) (c64 : y59.toInt = 0) (c65 : ¬ y59.toInt = 0) : False := by
  first | assumption | omega | (subst_vars; omega) | trivial
-- pre:sign8@70 @70
theorem v_intOf_49 (σ : RS) (k0 : Int32) (r1 : Int32) (x3 : Int32) (x30 : Int32) (y58 : Int32) (hpre_0 : 0 ≤ k0.toInt) (hpre_1 : k0.toInt < 980) (hr1 : r1 = LENF ((σ.2.2.1 52) k0.toNatClampNeg)) (c2 : r1.toInt ≤ 0) (ex3 : x3 = r1 - (0 : Int32)) (tx3 : x3.toInt = r1.toInt - 0) (c4 : 1 ≤ x3.toInt) (ex30 : x30 = r1 - (0 : Int32)) (tx30 : x30.toInt = r1.toInt - 0) (c31 : x30.toInt ≤ 9) (hi55_0 : 0 ≤ y58.toInt) (hi55_1 : y58.toInt ≤ 130) (c60 : y58.toInt < r1.toInt) : 0 ≤ k0.toInt ∧ k0.toInt < 980 ∧ 0 ≤ y58.toInt ∧ y58.toInt ≤ 200 := by
  have q0 : (0 : Int32).toInt = 0 := by decide +kernel
  have l_hr1 := LENF_le ((σ.2.2.1 52) k0.toNatClampNeg)
  rw [← hr1] at l_hr1
  refine ⟨?_, ?_, ?_, ?_⟩ <;> first | assumption | omega | (subst_vars; omega) | trivial
-- nw@109 @109
theorem v_intOf_50 (σ : RS) (k0 : Int32) (r1 : Int32) (x3 : Int32) (x30 : Int32) (y58 : Int32) (x72 : Int32) (hpre_0 : 0 ≤ k0.toInt) (hpre_1 : k0.toInt < 980) (hr1 : r1 = LENF ((σ.2.2.1 52) k0.toNatClampNeg)) (c2 : r1.toInt ≤ 0) (ex3 : x3 = r1 - (0 : Int32)) (tx3 : x3.toInt = r1.toInt - 0) (c4 : 1 ≤ x3.toInt) (ex30 : x30 = r1 - (0 : Int32)) (tx30 : x30.toInt = r1.toInt - 0) (c31 : x30.toInt ≤ 9) (hi55_0 : 0 ≤ y58.toInt) (hi55_1 : y58.toInt ≤ 130) (c60 : y58.toInt < r1.toInt) (ex72 : x72 = y58 + (1 : Int32)) : x72.toInt = y58.toInt + 1 := by
  have q0 : (0 : Int32).toInt = 0 := by decide +kernel
  have q1 : (1 : Int32).toInt = 1 := by decide +kernel
  have l_hr1 := LENF_le ((σ.2.2.1 52) k0.toNatClampNeg)
  rw [← hr1] at l_hr1
  have z9 : (1 : Int32).toInt = 1 := by decide +kernel
  rw [ex72, z_add (by omega) (by omega)]; first | done | omega
-- inv@55 @55
theorem v_intOf_51 (σ : RS) (k0 : Int32) (r1 : Int32) (x3 : Int32) (x30 : Int32) (y58 : Int32) (x72 : Int32) (hpre_0 : 0 ≤ k0.toInt) (hpre_1 : k0.toInt < 980) (hr1 : r1 = LENF ((σ.2.2.1 52) k0.toNatClampNeg)) (c2 : r1.toInt ≤ 0) (ex3 : x3 = r1 - (0 : Int32)) (tx3 : x3.toInt = r1.toInt - 0) (c4 : 1 ≤ x3.toInt) (ex30 : x30 = r1 - (0 : Int32)) (tx30 : x30.toInt = r1.toInt - 0) (c31 : x30.toInt ≤ 9) (hi55_0 : 0 ≤ y58.toInt) (hi55_1 : y58.toInt ≤ 130) (c60 : y58.toInt < r1.toInt) (ex72 : x72 = y58 + (1 : Int32)) (tx72 : x72.toInt = y58.toInt + 1) : 0 ≤ x72.toInt ∧ x72.toInt ≤ 130 ∧ ((0 : Int32).toInt = 0 ∨ (0 : Int32).toInt = 1) := by
  have q0 : (0 : Int32).toInt = 0 := by decide +kernel
  have q1 : (1 : Int32).toInt = 1 := by decide +kernel
  have l_hr1 := LENF_le ((σ.2.2.1 52) k0.toNatClampNeg)
  rw [← hr1] at l_hr1
  refine ⟨?_, ?_, ?_⟩ <;> first | assumption | omega | (subst_vars; omega) | trivial
-- inv2@55 @55
theorem v_intOf_52 (σ : RS) (k0 : Int32) (r1 : Int32) (x3 : Int32) (x30 : Int32) (y57 : Int32) (y58 : Int32) (y59 : Int32) (r67 : Int32) (x69 : Int32) (x70 : Int32) (x71 : Int32) (x72 : Int32) (hpre_0 : 0 ≤ k0.toInt) (hpre_1 : k0.toInt < 980) (hpre_2 : 0 ≤ (σ.1 56).toInt) (hpre_3 : (σ.1 56).toInt ≤ 11) (hr1 : r1 = LENF ((σ.2.2.1 52) k0.toNatClampNeg)) (c2 : r1.toInt ≤ 0) (ex3 : x3 = r1 - (0 : Int32)) (tx3 : x3.toInt = r1.toInt - 0) (c4 : 1 ≤ x3.toInt) (ex30 : x30 = r1 - (0 : Int32)) (tx30 : x30.toInt = r1.toInt - 0) (c31 : x30.toInt ≤ 9) (hi55_0 : 0 ≤ y58.toInt) (hi55_1 : y58.toInt ≤ 130) (hi55_2 : y59.toInt = 0 ∨ y59.toInt = 1) (hi55y : ∀ s9 : List Int, QTT ((σ.2.2.1 52) k0.toNatClampNeg) ((σ.2.2.1 53) k0.toNatClampNeg) s9 → INL s9 (0 : Int32).toInt y57.toInt y58.toInt y59.toInt) (c60 : y58.toInt < r1.toInt) (c64 : ¬ y59.toInt = 0) (hr67y : ∀ s9 : List Int, QTT ((σ.2.2.1 52) k0.toNatClampNeg) ((σ.2.2.1 53) k0.toNatClampNeg) s9 → 0 ≤ y58.toInt → y58.toInt < 17 → r67.toInt = s9.getD y58.toInt.toNat 0) (c68 : r67.toInt < 48) (ex69 : x69 = (10 : Int32) * y57) (ex70 : x70 = x69 + r67) (ex71 : x71 = x70 - (48 : Int32)) (ex72 : x72 = y58 + (1 : Int32)) (tx72 : x72.toInt = y58.toInt + 1) : ∀ s9 : List Int, QTT ((σ.2.2.1 52) k0.toNatClampNeg) ((σ.2.2.1 53) k0.toNatClampNeg) s9 → INL s9 (0 : Int32).toInt x71.toInt x72.toInt (0 : Int32).toInt := by
  have q0 : (0 : Int32).toInt = 0 := by decide +kernel
  have q1 : (1 : Int32).toInt = 1 := by decide +kernel
  have q10 : (10 : Int32).toInt = 10 := by decide +kernel
  have q48 : (48 : Int32).toInt = 48 := by decide +kernel
  have l_hr1 := LENF_le ((σ.2.2.1 52) k0.toNatClampNeg)
  rw [← hr1] at l_hr1
  intro s9 ht
  have e := q_len ht.1 ht.2.2.1 ht.2.2.2
  rw [← hr1] at e
  have l16 := ht.2.2.1
  have z := hi55y s9 ht
  have g9 := hr67y s9 ht (by omega) (by omega)
  have z1 := z.1
  have vb := z.vb (by omega) (by omega) (by omega)
  have gb := q_gb (i := y58.toInt.toNat) ht.2.2.2
  have w10 : (10 : Int32).toInt = 10 := by decide +kernel
  have w48 : (48 : Int32).toInt = 48 := by decide +kernel
  have a9 : x69.toInt = 10 * y57.toInt := by rw [ex69]; exact z_mulc 10 w10 (by omega) (by omega)
  have b9 : x70.toInt = 10 * y57.toInt + r67.toInt := by rw [ex70, z_add (by omega) (by omega), a9]
  have v9 : x71.toInt = 10 * y57.toInt + (r67.toInt - 48) := by rw [ex71, z_sub (by omega) (by omega)]; omega
  exact z.step (by omega) (by omega) (by omega) (by omega) (by omega) (fun _ => by omega)
-- meas@55 @55
theorem v_intOf_53 (σ : RS) (k0 : Int32) (r1 : Int32) (x3 : Int32) (x30 : Int32) (y58 : Int32) (x72 : Int32) (hpre_0 : 0 ≤ k0.toInt) (hpre_1 : k0.toInt < 980) (hr1 : r1 = LENF ((σ.2.2.1 52) k0.toNatClampNeg)) (c2 : r1.toInt ≤ 0) (ex3 : x3 = r1 - (0 : Int32)) (tx3 : x3.toInt = r1.toInt - 0) (c4 : 1 ≤ x3.toInt) (ex30 : x30 = r1 - (0 : Int32)) (tx30 : x30.toInt = r1.toInt - 0) (c31 : x30.toInt ≤ 9) (hi55_0 : 0 ≤ y58.toInt) (hi55_1 : y58.toInt ≤ 130) (c60 : y58.toInt < r1.toInt) (ex72 : x72 = y58 + (1 : Int32)) (tx72 : x72.toInt = y58.toInt + 1) : (130 - x72.toInt).toNat < (130 - y58.toInt).toNat := by
  have q0 : (0 : Int32).toInt = 0 := by decide +kernel
  have q1 : (1 : Int32).toInt = 1 := by decide +kernel
  have l_hr1 := LENF_le ((σ.2.2.1 52) k0.toNatClampNeg)
  rw [← hr1] at l_hr1
  first | assumption | omega | (subst_vars; omega) | trivial
-- nw@109 @109
theorem v_intOf_54 (σ : RS) (k0 : Int32) (r1 : Int32) (x3 : Int32) (x30 : Int32) (y58 : Int32) (x77 : Int32) (hpre_0 : 0 ≤ k0.toInt) (hpre_1 : k0.toInt < 980) (hr1 : r1 = LENF ((σ.2.2.1 52) k0.toNatClampNeg)) (c2 : r1.toInt ≤ 0) (ex3 : x3 = r1 - (0 : Int32)) (tx3 : x3.toInt = r1.toInt - 0) (c4 : 1 ≤ x3.toInt) (ex30 : x30 = r1 - (0 : Int32)) (tx30 : x30.toInt = r1.toInt - 0) (c31 : x30.toInt ≤ 9) (hi55_0 : 0 ≤ y58.toInt) (hi55_1 : y58.toInt ≤ 130) (c60 : y58.toInt < r1.toInt) (ex77 : x77 = y58 + (1 : Int32)) : x77.toInt = y58.toInt + 1 := by
  have q0 : (0 : Int32).toInt = 0 := by decide +kernel
  have q1 : (1 : Int32).toInt = 1 := by decide +kernel
  have l_hr1 := LENF_le ((σ.2.2.1 52) k0.toNatClampNeg)
  rw [← hr1] at l_hr1
  have z9 : (1 : Int32).toInt = 1 := by decide +kernel
  rw [ex77, z_add (by omega) (by omega)]; first | done | omega
-- inv@55 @55
theorem v_intOf_55 (σ : RS) (k0 : Int32) (r1 : Int32) (x3 : Int32) (x30 : Int32) (y58 : Int32) (x77 : Int32) (hpre_0 : 0 ≤ k0.toInt) (hpre_1 : k0.toInt < 980) (hr1 : r1 = LENF ((σ.2.2.1 52) k0.toNatClampNeg)) (c2 : r1.toInt ≤ 0) (ex3 : x3 = r1 - (0 : Int32)) (tx3 : x3.toInt = r1.toInt - 0) (c4 : 1 ≤ x3.toInt) (ex30 : x30 = r1 - (0 : Int32)) (tx30 : x30.toInt = r1.toInt - 0) (c31 : x30.toInt ≤ 9) (hi55_0 : 0 ≤ y58.toInt) (hi55_1 : y58.toInt ≤ 130) (c60 : y58.toInt < r1.toInt) (ex77 : x77 = y58 + (1 : Int32)) (tx77 : x77.toInt = y58.toInt + 1) : 0 ≤ x77.toInt ∧ x77.toInt ≤ 130 ∧ ((0 : Int32).toInt = 0 ∨ (0 : Int32).toInt = 1) := by
  have q0 : (0 : Int32).toInt = 0 := by decide +kernel
  have q1 : (1 : Int32).toInt = 1 := by decide +kernel
  have l_hr1 := LENF_le ((σ.2.2.1 52) k0.toNatClampNeg)
  rw [← hr1] at l_hr1
  refine ⟨?_, ?_, ?_⟩ <;> first | assumption | omega | (subst_vars; omega) | trivial
-- inv2@55 @55
theorem v_intOf_56 (σ : RS) (k0 : Int32) (r1 : Int32) (x3 : Int32) (x30 : Int32) (y57 : Int32) (y58 : Int32) (y59 : Int32) (r67 : Int32) (x74 : Int32) (x75 : Int32) (x76 : Int32) (x77 : Int32) (hpre_0 : 0 ≤ k0.toInt) (hpre_1 : k0.toInt < 980) (hpre_2 : 0 ≤ (σ.1 56).toInt) (hpre_3 : (σ.1 56).toInt ≤ 11) (hr1 : r1 = LENF ((σ.2.2.1 52) k0.toNatClampNeg)) (c2 : r1.toInt ≤ 0) (ex3 : x3 = r1 - (0 : Int32)) (tx3 : x3.toInt = r1.toInt - 0) (c4 : 1 ≤ x3.toInt) (ex30 : x30 = r1 - (0 : Int32)) (tx30 : x30.toInt = r1.toInt - 0) (c31 : x30.toInt ≤ 9) (hi55_0 : 0 ≤ y58.toInt) (hi55_1 : y58.toInt ≤ 130) (hi55_2 : y59.toInt = 0 ∨ y59.toInt = 1) (hi55y : ∀ s9 : List Int, QTT ((σ.2.2.1 52) k0.toNatClampNeg) ((σ.2.2.1 53) k0.toNatClampNeg) s9 → INL s9 (0 : Int32).toInt y57.toInt y58.toInt y59.toInt) (c60 : y58.toInt < r1.toInt) (c64 : ¬ y59.toInt = 0) (hr67y : ∀ s9 : List Int, QTT ((σ.2.2.1 52) k0.toNatClampNeg) ((σ.2.2.1 53) k0.toNatClampNeg) s9 → 0 ≤ y58.toInt → y58.toInt < 17 → r67.toInt = s9.getD y58.toInt.toNat 0) (c68 : 48 ≤ r67.toInt) (c73 : 57 < r67.toInt) (ex74 : x74 = (10 : Int32) * y57) (ex75 : x75 = x74 + r67) (ex76 : x76 = x75 - (48 : Int32)) (ex77 : x77 = y58 + (1 : Int32)) (tx77 : x77.toInt = y58.toInt + 1) : ∀ s9 : List Int, QTT ((σ.2.2.1 52) k0.toNatClampNeg) ((σ.2.2.1 53) k0.toNatClampNeg) s9 → INL s9 (0 : Int32).toInt x76.toInt x77.toInt (0 : Int32).toInt := by
  have q0 : (0 : Int32).toInt = 0 := by decide +kernel
  have q1 : (1 : Int32).toInt = 1 := by decide +kernel
  have q10 : (10 : Int32).toInt = 10 := by decide +kernel
  have q48 : (48 : Int32).toInt = 48 := by decide +kernel
  have l_hr1 := LENF_le ((σ.2.2.1 52) k0.toNatClampNeg)
  rw [← hr1] at l_hr1
  intro s9 ht
  have e := q_len ht.1 ht.2.2.1 ht.2.2.2
  rw [← hr1] at e
  have l16 := ht.2.2.1
  have z := hi55y s9 ht
  have g9 := hr67y s9 ht (by omega) (by omega)
  have z1 := z.1
  have vb := z.vb (by omega) (by omega) (by omega)
  have gb := q_gb (i := y58.toInt.toNat) ht.2.2.2
  have w10 : (10 : Int32).toInt = 10 := by decide +kernel
  have w48 : (48 : Int32).toInt = 48 := by decide +kernel
  have a9 : x74.toInt = 10 * y57.toInt := by rw [ex74]; exact z_mulc 10 w10 (by omega) (by omega)
  have b9 : x75.toInt = 10 * y57.toInt + r67.toInt := by rw [ex75, z_add (by omega) (by omega), a9]
  have v9 : x76.toInt = 10 * y57.toInt + (r67.toInt - 48) := by rw [ex76, z_sub (by omega) (by omega)]; omega
  exact z.step (by omega) (by omega) (by omega) (by omega) (by omega) (fun _ => by omega)
-- meas@55 @55
theorem v_intOf_57 (σ : RS) (k0 : Int32) (r1 : Int32) (x3 : Int32) (x30 : Int32) (y58 : Int32) (x77 : Int32) (hpre_0 : 0 ≤ k0.toInt) (hpre_1 : k0.toInt < 980) (hr1 : r1 = LENF ((σ.2.2.1 52) k0.toNatClampNeg)) (c2 : r1.toInt ≤ 0) (ex3 : x3 = r1 - (0 : Int32)) (tx3 : x3.toInt = r1.toInt - 0) (c4 : 1 ≤ x3.toInt) (ex30 : x30 = r1 - (0 : Int32)) (tx30 : x30.toInt = r1.toInt - 0) (c31 : x30.toInt ≤ 9) (hi55_0 : 0 ≤ y58.toInt) (hi55_1 : y58.toInt ≤ 130) (c60 : y58.toInt < r1.toInt) (ex77 : x77 = y58 + (1 : Int32)) (tx77 : x77.toInt = y58.toInt + 1) : (130 - x77.toInt).toNat < (130 - y58.toInt).toNat := by
  have q0 : (0 : Int32).toInt = 0 := by decide +kernel
  have q1 : (1 : Int32).toInt = 1 := by decide +kernel
  have l_hr1 := LENF_le ((σ.2.2.1 52) k0.toNatClampNeg)
  rw [← hr1] at l_hr1
  first | assumption | omega | (subst_vars; omega) | trivial
-- nw@109 @109
theorem v_intOf_58 (σ : RS) (k0 : Int32) (r1 : Int32) (x3 : Int32) (x30 : Int32) (y58 : Int32) (x81 : Int32) (hpre_0 : 0 ≤ k0.toInt) (hpre_1 : k0.toInt < 980) (hr1 : r1 = LENF ((σ.2.2.1 52) k0.toNatClampNeg)) (c2 : r1.toInt ≤ 0) (ex3 : x3 = r1 - (0 : Int32)) (tx3 : x3.toInt = r1.toInt - 0) (c4 : 1 ≤ x3.toInt) (ex30 : x30 = r1 - (0 : Int32)) (tx30 : x30.toInt = r1.toInt - 0) (c31 : x30.toInt ≤ 9) (hi55_0 : 0 ≤ y58.toInt) (hi55_1 : y58.toInt ≤ 130) (c60 : y58.toInt < r1.toInt) (ex81 : x81 = y58 + (1 : Int32)) : x81.toInt = y58.toInt + 1 := by
  have q0 : (0 : Int32).toInt = 0 := by decide +kernel
  have q1 : (1 : Int32).toInt = 1 := by decide +kernel
  have l_hr1 := LENF_le ((σ.2.2.1 52) k0.toNatClampNeg)
  rw [← hr1] at l_hr1
  have z9 : (1 : Int32).toInt = 1 := by decide +kernel
  rw [ex81, z_add (by omega) (by omega)]; first | done | omega
-- inv@55 @55
theorem v_intOf_59 (σ : RS) (k0 : Int32) (r1 : Int32) (x3 : Int32) (x30 : Int32) (y58 : Int32) (x81 : Int32) (hpre_0 : 0 ≤ k0.toInt) (hpre_1 : k0.toInt < 980) (hr1 : r1 = LENF ((σ.2.2.1 52) k0.toNatClampNeg)) (c2 : r1.toInt ≤ 0) (ex3 : x3 = r1 - (0 : Int32)) (tx3 : x3.toInt = r1.toInt - 0) (c4 : 1 ≤ x3.toInt) (ex30 : x30 = r1 - (0 : Int32)) (tx30 : x30.toInt = r1.toInt - 0) (c31 : x30.toInt ≤ 9) (hi55_0 : 0 ≤ y58.toInt) (hi55_1 : y58.toInt ≤ 130) (c60 : y58.toInt < r1.toInt) (ex81 : x81 = y58 + (1 : Int32)) (tx81 : x81.toInt = y58.toInt + 1) : 0 ≤ x81.toInt ∧ x81.toInt ≤ 130 ∧ ((1 : Int32).toInt = 0 ∨ (1 : Int32).toInt = 1) := by
  have q0 : (0 : Int32).toInt = 0 := by decide +kernel
  have q1 : (1 : Int32).toInt = 1 := by decide +kernel
  have l_hr1 := LENF_le ((σ.2.2.1 52) k0.toNatClampNeg)
  rw [← hr1] at l_hr1
  refine ⟨?_, ?_, ?_⟩ <;> first | assumption | omega | (subst_vars; omega) | trivial
-- inv2@55 @55
theorem v_intOf_60 (σ : RS) (k0 : Int32) (r1 : Int32) (x3 : Int32) (x30 : Int32) (y57 : Int32) (y58 : Int32) (y59 : Int32) (r67 : Int32) (x78 : Int32) (x79 : Int32) (x80 : Int32) (x81 : Int32) (hpre_0 : 0 ≤ k0.toInt) (hpre_1 : k0.toInt < 980) (hpre_2 : 0 ≤ (σ.1 56).toInt) (hpre_3 : (σ.1 56).toInt ≤ 11) (hr1 : r1 = LENF ((σ.2.2.1 52) k0.toNatClampNeg)) (c2 : r1.toInt ≤ 0) (ex3 : x3 = r1 - (0 : Int32)) (tx3 : x3.toInt = r1.toInt - 0) (c4 : 1 ≤ x3.toInt) (ex30 : x30 = r1 - (0 : Int32)) (tx30 : x30.toInt = r1.toInt - 0) (c31 : x30.toInt ≤ 9) (hi55_0 : 0 ≤ y58.toInt) (hi55_1 : y58.toInt ≤ 130) (hi55_2 : y59.toInt = 0 ∨ y59.toInt = 1) (hi55y : ∀ s9 : List Int, QTT ((σ.2.2.1 52) k0.toNatClampNeg) ((σ.2.2.1 53) k0.toNatClampNeg) s9 → INL s9 (0 : Int32).toInt y57.toInt y58.toInt y59.toInt) (c60 : y58.toInt < r1.toInt) (c64 : ¬ y59.toInt = 0) (hr67y : ∀ s9 : List Int, QTT ((σ.2.2.1 52) k0.toNatClampNeg) ((σ.2.2.1 53) k0.toNatClampNeg) s9 → 0 ≤ y58.toInt → y58.toInt < 17 → r67.toInt = s9.getD y58.toInt.toNat 0) (c68 : 48 ≤ r67.toInt) (c73 : r67.toInt ≤ 57) (ex78 : x78 = (10 : Int32) * y57) (ex79 : x79 = x78 + r67) (ex80 : x80 = x79 - (48 : Int32)) (ex81 : x81 = y58 + (1 : Int32)) (tx81 : x81.toInt = y58.toInt + 1) : ∀ s9 : List Int, QTT ((σ.2.2.1 52) k0.toNatClampNeg) ((σ.2.2.1 53) k0.toNatClampNeg) s9 → INL s9 (0 : Int32).toInt x80.toInt x81.toInt (1 : Int32).toInt := by
  have q0 : (0 : Int32).toInt = 0 := by decide +kernel
  have q1 : (1 : Int32).toInt = 1 := by decide +kernel
  have q10 : (10 : Int32).toInt = 10 := by decide +kernel
  have q48 : (48 : Int32).toInt = 48 := by decide +kernel
  have l_hr1 := LENF_le ((σ.2.2.1 52) k0.toNatClampNeg)
  rw [← hr1] at l_hr1
  intro s9 ht
  have e := q_len ht.1 ht.2.2.1 ht.2.2.2
  rw [← hr1] at e
  have l16 := ht.2.2.1
  have z := hi55y s9 ht
  have g9 := hr67y s9 ht (by omega) (by omega)
  have z1 := z.1
  have vb := z.vb (by omega) (by omega) (by omega)
  have gb := q_gb (i := y58.toInt.toNat) ht.2.2.2
  have w10 : (10 : Int32).toInt = 10 := by decide +kernel
  have w48 : (48 : Int32).toInt = 48 := by decide +kernel
  have a9 : x78.toInt = 10 * y57.toInt := by rw [ex78]; exact z_mulc 10 w10 (by omega) (by omega)
  have b9 : x79.toInt = 10 * y57.toInt + r67.toInt := by rw [ex79, z_add (by omega) (by omega), a9]
  have v9 : x80.toInt = 10 * y57.toInt + (r67.toInt - 48) := by rw [ex80, z_sub (by omega) (by omega)]; omega
  exact z.step (by omega) (by omega) (by omega) (by omega) (by omega) (fun _ => by omega)
-- meas@55 @55
theorem v_intOf_61 (σ : RS) (k0 : Int32) (r1 : Int32) (x3 : Int32) (x30 : Int32) (y58 : Int32) (x81 : Int32) (hpre_0 : 0 ≤ k0.toInt) (hpre_1 : k0.toInt < 980) (hr1 : r1 = LENF ((σ.2.2.1 52) k0.toNatClampNeg)) (c2 : r1.toInt ≤ 0) (ex3 : x3 = r1 - (0 : Int32)) (tx3 : x3.toInt = r1.toInt - 0) (c4 : 1 ≤ x3.toInt) (ex30 : x30 = r1 - (0 : Int32)) (tx30 : x30.toInt = r1.toInt - 0) (c31 : x30.toInt ≤ 9) (hi55_0 : 0 ≤ y58.toInt) (hi55_1 : y58.toInt ≤ 130) (c60 : y58.toInt < r1.toInt) (ex81 : x81 = y58 + (1 : Int32)) (tx81 : x81.toInt = y58.toInt + 1) : (130 - x81.toInt).toNat < (130 - y58.toInt).toNat := by
  have q0 : (0 : Int32).toInt = 0 := by decide +kernel
  have q1 : (1 : Int32).toInt = 1 := by decide +kernel
  have l_hr1 := LENF_le ((σ.2.2.1 52) k0.toNatClampNeg)
  rw [← hr1] at l_hr1
  first | assumption | omega | (subst_vars; omega) | trivial
-- pre:sign8@13 @13
theorem v_intOf_62 (σ : RS) (k0 : Int32) (r1 : Int32) (hpre_0 : 0 ≤ k0.toInt) (hpre_1 : k0.toInt < 980) (hr1 : r1 = LENF ((σ.2.2.1 52) k0.toNatClampNeg)) (c2 : 0 < r1.toInt) : 0 ≤ k0.toInt ∧ k0.toInt < 980 ∧ 0 ≤ (0 : Int32).toInt ∧ (0 : Int32).toInt ≤ 200 := by
  have q0 : (0 : Int32).toInt = 0 := by decide +kernel
  have l_hr1 := LENF_le ((σ.2.2.1 52) k0.toNatClampNeg)
  rw [← hr1] at l_hr1
  refine ⟨?_, ?_, ?_, ?_⟩ <;> first | assumption | omega | (subst_vars; omega) | trivial
-- nw@29 @29
theorem v_intOf_63 (σ : RS) (k0 : Int32) (r1 : Int32) (x84 : Int32) (hpre_0 : 0 ≤ k0.toInt) (hpre_1 : k0.toInt < 980) (hr1 : r1 = LENF ((σ.2.2.1 52) k0.toNatClampNeg)) (c2 : 0 < r1.toInt) (ex84 : x84 = r1 - (0 : Int32)) : x84.toInt = r1.toInt - 0 := by
  have q0 : (0 : Int32).toInt = 0 := by decide +kernel
  have l_hr1 := LENF_le ((σ.2.2.1 52) k0.toNatClampNeg)
  rw [← hr1] at l_hr1
  have w1 : (0 : Int32).toInt = 0 := by decide +kernel
  rw [ex84, z_sub (by omega) (by omega)]; first | done | omega
-- init2@55 @55
theorem v_intOf_64 (σ : RS) (k0 : Int32) (r1 : Int32) (r82 : Int32) (x84 : Int32) (hpre_0 : 0 ≤ k0.toInt) (hpre_1 : k0.toInt < 980) (hpre_2 : 0 ≤ (σ.1 56).toInt) (hpre_3 : (σ.1 56).toInt ≤ 11) (hr1 : r1 = LENF ((σ.2.2.1 52) k0.toNatClampNeg)) (c2 : 0 < r1.toInt) (hr82y : ∀ s9 : List Int, QTT ((σ.2.2.1 52) k0.toNatClampNeg) ((σ.2.2.1 53) k0.toNatClampNeg) s9 → 0 ≤ (0 : Int32).toInt → (0 : Int32).toInt < 17 → r82.toInt = s9.getD (0 : Int32).toInt.toNat 0) (c83 : ¬ r82.toInt = 45) (ex84 : x84 = r1 - (0 : Int32)) (tx84 : x84.toInt = r1.toInt - 0) (c85 : x84.toInt < 1) : ∀ s9 : List Int, QTT ((σ.2.2.1 52) k0.toNatClampNeg) ((σ.2.2.1 53) k0.toNatClampNeg) s9 → INL s9 (0 : Int32).toInt (0 : Int32).toInt (0 : Int32).toInt (0 : Int32).toInt := by
  have q0 : (0 : Int32).toInt = 0 := by decide +kernel
  have l_hr1 := LENF_le ((σ.2.2.1 52) k0.toNatClampNeg)
  rw [← hr1] at l_hr1
  intro s9 ht
  have e := q_len ht.1 ht.2.2.1 ht.2.2.2
  rw [← hr1] at e
  exact INL.start (by omega) (by omega) (by omega) (by omega)
-- post2 @146
theorem v_intOf_65 (σ : RS) (k0 : Int32) (r1 : Int32) (r82 : Int32) (x84 : Int32) (y86 : Int32) (y87 : Int32) (y88 : Int32) (hpre_0 : 0 ≤ k0.toInt) (hpre_1 : k0.toInt < 980) (hpre_2 : 0 ≤ (σ.1 56).toInt) (hpre_3 : (σ.1 56).toInt ≤ 11) (hr1 : r1 = LENF ((σ.2.2.1 52) k0.toNatClampNeg)) (c2 : 0 < r1.toInt) (hr82y : ∀ s9 : List Int, QTT ((σ.2.2.1 52) k0.toNatClampNeg) ((σ.2.2.1 53) k0.toNatClampNeg) s9 → 0 ≤ (0 : Int32).toInt → (0 : Int32).toInt < 17 → r82.toInt = s9.getD (0 : Int32).toInt.toNat 0) (c83 : ¬ r82.toInt = 45) (ex84 : x84 = r1 - (0 : Int32)) (tx84 : x84.toInt = r1.toInt - 0) (c85 : x84.toInt < 1) (hi55_0 : 0 ≤ y87.toInt) (hi55_1 : y87.toInt ≤ 130) (hi55_2 : y88.toInt = 0 ∨ y88.toInt = 1) (hi55y : ∀ s9 : List Int, QTT ((σ.2.2.1 52) k0.toNatClampNeg) ((σ.2.2.1 53) k0.toNatClampNeg) s9 → INL s9 (0 : Int32).toInt y86.toInt y87.toInt y88.toInt) (c89 : r1.toInt ≤ y87.toInt) (c90 : y88.toInt = 0) : ∀ s9 : List Int, QTT ((σ.2.2.1 52) k0.toNatClampNeg) ((σ.2.2.1 53) k0.toNatClampNeg) s9 → QI (qToI s9) y86.toInt (10 : Int32).toInt (σ.1 56).toInt := by
  have q0 : (0 : Int32).toInt = 0 := by decide +kernel
  have q10 : (10 : Int32).toInt = 10 := by decide +kernel
  have l_hr1 := LENF_le ((σ.2.2.1 52) k0.toNatClampNeg)
  rw [← hr1] at l_hr1
  intro s9 ht
  have e := q_len ht.1 ht.2.2.1 ht.2.2.2
  rw [← hr1] at e
  have z := hi55y s9 ht
  have zg := z.2.1
  have g0 := hr82y s9 ht (by omega) (by omega)
  rw [show (0 : Int32).toInt.toNat = 0 by decide +kernel] at g0
  rw [q0] at z
  exact z.fin0 (by first | exact q_head0 (by omega) | (rw [q_head (by omega)]; intro h; have h := Option.some.inj h; omega)) (by omega) (fun _ => rfl) (by omega)
-- post2 @146
theorem v_intOf_66 (σ : RS) (k0 : Int32) (r1 : Int32) (r82 : Int32) (x84 : Int32) (y86 : Int32) (y87 : Int32) (y88 : Int32) (hpre_0 : 0 ≤ k0.toInt) (hpre_1 : k0.toInt < 980) (hpre_2 : 0 ≤ (σ.1 56).toInt) (hpre_3 : (σ.1 56).toInt ≤ 11) (hr1 : r1 = LENF ((σ.2.2.1 52) k0.toNatClampNeg)) (c2 : 0 < r1.toInt) (hr82y : ∀ s9 : List Int, QTT ((σ.2.2.1 52) k0.toNatClampNeg) ((σ.2.2.1 53) k0.toNatClampNeg) s9 → 0 ≤ (0 : Int32).toInt → (0 : Int32).toInt < 17 → r82.toInt = s9.getD (0 : Int32).toInt.toNat 0) (c83 : ¬ r82.toInt = 45) (ex84 : x84 = r1 - (0 : Int32)) (tx84 : x84.toInt = r1.toInt - 0) (c85 : x84.toInt < 1) (hi55_0 : 0 ≤ y87.toInt) (hi55_1 : y87.toInt ≤ 130) (hi55_2 : y88.toInt = 0 ∨ y88.toInt = 1) (hi55y : ∀ s9 : List Int, QTT ((σ.2.2.1 52) k0.toNatClampNeg) ((σ.2.2.1 53) k0.toNatClampNeg) s9 → INL s9 (0 : Int32).toInt y86.toInt y87.toInt y88.toInt) (c89 : r1.toInt ≤ y87.toInt) (c90 : ¬ y88.toInt = 0) : ∀ s9 : List Int, QTT ((σ.2.2.1 52) k0.toNatClampNeg) ((σ.2.2.1 53) k0.toNatClampNeg) s9 → QI (qToI s9) y86.toInt (σ.1 56).toInt (σ.1 56).toInt := by
  have q0 : (0 : Int32).toInt = 0 := by decide +kernel
  have l_hr1 := LENF_le ((σ.2.2.1 52) k0.toNatClampNeg)
  rw [← hr1] at l_hr1
  intro s9 ht
  have e := q_len ht.1 ht.2.2.1 ht.2.2.2
  rw [← hr1] at e
  have z := hi55y s9 ht
  have zg := z.2.1
  have g0 := hr82y s9 ht (by omega) (by omega)
  rw [show (0 : Int32).toInt.toNat = 0 by decide +kernel] at g0
  rw [q0] at z
  exact z.fin0 (by first | exact q_head0 (by omega) | (rw [q_head (by omega)]; intro h; have h := Option.some.inj h; omega)) (by omega) (fun _ => rfl) (by omega)
-- post2 @146
theorem v_intOf_67 (σ : RS) (k0 : Int32) (r1 : Int32) (r82 : Int32) (x84 : Int32) (y86 : Int32) (y87 : Int32) (y88 : Int32) (hpre_0 : 0 ≤ k0.toInt) (hpre_1 : k0.toInt < 980) (hpre_2 : 0 ≤ (σ.1 56).toInt) (hpre_3 : (σ.1 56).toInt ≤ 11) (hr1 : r1 = LENF ((σ.2.2.1 52) k0.toNatClampNeg)) (c2 : 0 < r1.toInt) (hr82y : ∀ s9 : List Int, QTT ((σ.2.2.1 52) k0.toNatClampNeg) ((σ.2.2.1 53) k0.toNatClampNeg) s9 → 0 ≤ (0 : Int32).toInt → (0 : Int32).toInt < 17 → r82.toInt = s9.getD (0 : Int32).toInt.toNat 0) (c83 : ¬ r82.toInt = 45) (ex84 : x84 = r1 - (0 : Int32)) (tx84 : x84.toInt = r1.toInt - 0) (c85 : x84.toInt < 1) (hi55_0 : 0 ≤ y87.toInt) (hi55_1 : y87.toInt ≤ 130) (hi55_2 : y88.toInt = 0 ∨ y88.toInt = 1) (hi55y : ∀ s9 : List Int, QTT ((σ.2.2.1 52) k0.toNatClampNeg) ((σ.2.2.1 53) k0.toNatClampNeg) s9 → INL s9 (0 : Int32).toInt y86.toInt y87.toInt y88.toInt) (c89 : y87.toInt < r1.toInt) (c93 : y88.toInt = 0) (c94 : y88.toInt = 0) : ∀ s9 : List Int, QTT ((σ.2.2.1 52) k0.toNatClampNeg) ((σ.2.2.1 53) k0.toNatClampNeg) s9 → QI (qToI s9) y86.toInt (10 : Int32).toInt (σ.1 56).toInt := by
  have q0 : (0 : Int32).toInt = 0 := by decide +kernel
  have q10 : (10 : Int32).toInt = 10 := by decide +kernel
  have l_hr1 := LENF_le ((σ.2.2.1 52) k0.toNatClampNeg)
  rw [← hr1] at l_hr1
  intro s9 ht
  have e := q_len ht.1 ht.2.2.1 ht.2.2.2
  rw [← hr1] at e
  have z := hi55y s9 ht
  have zg := z.2.1
  have g0 := hr82y s9 ht (by omega) (by omega)
  rw [show (0 : Int32).toInt.toNat = 0 by decide +kernel] at g0
  rw [q0] at z
  exact z.fin0 (by first | exact q_head0 (by omega) | (rw [q_head (by omega)]; intro h; have h := Option.some.inj h; omega)) (by omega) (fun _ => rfl) (by omega)
-- dead@118 @121
theorem v_intOf_68 (y88 : Int32) (hi55_2 : y88.toInt = 0 ∨ y88.toInt = 1) (c93 : y88.toInt = 0) (c94 : ¬ y88.toInt = 0) : False := by
  first | assumption | omega | (subst_vars; omega) | trivial
-- pre:sign8@70 @70
theorem v_intOf_69 (σ : RS) (k0 : Int32) (r1 : Int32) (x84 : Int32) (y87 : Int32) (hpre_0 : 0 ≤ k0.toInt) (hpre_1 : k0.toInt < 980) (hr1 : r1 = LENF ((σ.2.2.1 52) k0.toNatClampNeg)) (c2 : 0 < r1.toInt) (ex84 : x84 = r1 - (0 : Int32)) (tx84 : x84.toInt = r1.toInt - 0) (c85 : x84.toInt < 1) (hi55_0 : 0 ≤ y87.toInt) (hi55_1 : y87.toInt ≤ 130) (c89 : y87.toInt < r1.toInt) : 0 ≤ k0.toInt ∧ k0.toInt < 980 ∧ 0 ≤ y87.toInt ∧ y87.toInt ≤ 200 := by
  have q0 : (0 : Int32).toInt = 0 := by decide +kernel
  have l_hr1 := LENF_le ((σ.2.2.1 52) k0.toNatClampNeg)
  rw [← hr1] at l_hr1
  refine ⟨?_, ?_, ?_, ?_⟩ <;> first | assumption | omega | (subst_vars; omega) | trivial
-- nw@109 @109
theorem v_intOf_70 (σ : RS) (k0 : Int32) (r1 : Int32) (x84 : Int32) (y87 : Int32) (x101 : Int32) (hpre_0 : 0 ≤ k0.toInt) (hpre_1 : k0.toInt < 980) (hr1 : r1 = LENF ((σ.2.2.1 52) k0.toNatClampNeg)) (c2 : 0 < r1.toInt) (ex84 : x84 = r1 - (0 : Int32)) (tx84 : x84.toInt = r1.toInt - 0) (c85 : x84.toInt < 1) (hi55_0 : 0 ≤ y87.toInt) (hi55_1 : y87.toInt ≤ 130) (c89 : y87.toInt < r1.toInt) (ex101 : x101 = y87 + (1 : Int32)) : x101.toInt = y87.toInt + 1 := by
  have q0 : (0 : Int32).toInt = 0 := by decide +kernel
  have q1 : (1 : Int32).toInt = 1 := by decide +kernel
  have l_hr1 := LENF_le ((σ.2.2.1 52) k0.toNatClampNeg)
  rw [← hr1] at l_hr1
  have z9 : (1 : Int32).toInt = 1 := by decide +kernel
  rw [ex101, z_add (by omega) (by omega)]; first | done | omega
-- inv@55 @55
theorem v_intOf_71 (σ : RS) (k0 : Int32) (r1 : Int32) (x84 : Int32) (y87 : Int32) (x101 : Int32) (hpre_0 : 0 ≤ k0.toInt) (hpre_1 : k0.toInt < 980) (hr1 : r1 = LENF ((σ.2.2.1 52) k0.toNatClampNeg)) (c2 : 0 < r1.toInt) (ex84 : x84 = r1 - (0 : Int32)) (tx84 : x84.toInt = r1.toInt - 0) (c85 : x84.toInt < 1) (hi55_0 : 0 ≤ y87.toInt) (hi55_1 : y87.toInt ≤ 130) (c89 : y87.toInt < r1.toInt) (ex101 : x101 = y87 + (1 : Int32)) (tx101 : x101.toInt = y87.toInt + 1) : 0 ≤ x101.toInt ∧ x101.toInt ≤ 130 ∧ ((0 : Int32).toInt = 0 ∨ (0 : Int32).toInt = 1) := by
  have q0 : (0 : Int32).toInt = 0 := by decide +kernel
  have q1 : (1 : Int32).toInt = 1 := by decide +kernel
  have l_hr1 := LENF_le ((σ.2.2.1 52) k0.toNatClampNeg)
  rw [← hr1] at l_hr1
  refine ⟨?_, ?_, ?_⟩ <;> first | assumption | omega | (subst_vars; omega) | trivial
-- inv2@55 @55
theorem v_intOf_72 (σ : RS) (k0 : Int32) (r1 : Int32) (r82 : Int32) (x84 : Int32) (y86 : Int32) (y87 : Int32) (y88 : Int32) (r96 : Int32) (x98 : Int32) (x99 : Int32) (x100 : Int32) (x101 : Int32) (hpre_0 : 0 ≤ k0.toInt) (hpre_1 : k0.toInt < 980) (hpre_2 : 0 ≤ (σ.1 56).toInt) (hpre_3 : (σ.1 56).toInt ≤ 11) (hr1 : r1 = LENF ((σ.2.2.1 52) k0.toNatClampNeg)) (c2 : 0 < r1.toInt) (hr82y : ∀ s9 : List Int, QTT ((σ.2.2.1 52) k0.toNatClampNeg) ((σ.2.2.1 53) k0.toNatClampNeg) s9 → 0 ≤ (0 : Int32).toInt → (0 : Int32).toInt < 17 → r82.toInt = s9.getD (0 : Int32).toInt.toNat 0) (c83 : ¬ r82.toInt = 45) (ex84 : x84 = r1 - (0 : Int32)) (tx84 : x84.toInt = r1.toInt - 0) (c85 : x84.toInt < 1) (hi55_0 : 0 ≤ y87.toInt) (hi55_1 : y87.toInt ≤ 130) (hi55_2 : y88.toInt = 0 ∨ y88.toInt = 1) (hi55y : ∀ s9 : List Int, QTT ((σ.2.2.1 52) k0.toNatClampNeg) ((σ.2.2.1 53) k0.toNatClampNeg) s9 → INL s9 (0 : Int32).toInt y86.toInt y87.toInt y88.toInt) (c89 : y87.toInt < r1.toInt) (c93 : ¬ y88.toInt = 0) (hr96y : ∀ s9 : List Int, QTT ((σ.2.2.1 52) k0.toNatClampNeg) ((σ.2.2.1 53) k0.toNatClampNeg) s9 → 0 ≤ y87.toInt → y87.toInt < 17 → r96.toInt = s9.getD y87.toInt.toNat 0) (c97 : r96.toInt < 48) (ex98 : x98 = (10 : Int32) * y86) (ex99 : x99 = x98 + r96) (ex100 : x100 = x99 - (48 : Int32)) (ex101 : x101 = y87 + (1 : Int32)) (tx101 : x101.toInt = y87.toInt + 1) : ∀ s9 : List Int, QTT ((σ.2.2.1 52) k0.toNatClampNeg) ((σ.2.2.1 53) k0.toNatClampNeg) s9 → INL s9 (0 : Int32).toInt x100.toInt x101.toInt (0 : Int32).toInt := by
  have q0 : (0 : Int32).toInt = 0 := by decide +kernel
  have q1 : (1 : Int32).toInt = 1 := by decide +kernel
  have q10 : (10 : Int32).toInt = 10 := by decide +kernel
  have q48 : (48 : Int32).toInt = 48 := by decide +kernel
  have l_hr1 := LENF_le ((σ.2.2.1 52) k0.toNatClampNeg)
  rw [← hr1] at l_hr1
  intro s9 ht
  have e := q_len ht.1 ht.2.2.1 ht.2.2.2
  rw [← hr1] at e
  have l16 := ht.2.2.1
  have z := hi55y s9 ht
  have g9 := hr96y s9 ht (by omega) (by omega)
  have z1 := z.1
  have vb := z.vb (by omega) (by omega) (by omega)
  have gb := q_gb (i := y87.toInt.toNat) ht.2.2.2
  have w10 : (10 : Int32).toInt = 10 := by decide +kernel
  have w48 : (48 : Int32).toInt = 48 := by decide +kernel
  have a9 : x98.toInt = 10 * y86.toInt := by rw [ex98]; exact z_mulc 10 w10 (by omega) (by omega)
  have b9 : x99.toInt = 10 * y86.toInt + r96.toInt := by rw [ex99, z_add (by omega) (by omega), a9]
  have v9 : x100.toInt = 10 * y86.toInt + (r96.toInt - 48) := by rw [ex100, z_sub (by omega) (by omega)]; omega
  exact z.step (by omega) (by omega) (by omega) (by omega) (by omega) (fun _ => by omega)
-- meas@55 @55
theorem v_intOf_73 (σ : RS) (k0 : Int32) (r1 : Int32) (x84 : Int32) (y87 : Int32) (x101 : Int32) (hpre_0 : 0 ≤ k0.toInt) (hpre_1 : k0.toInt < 980) (hr1 : r1 = LENF ((σ.2.2.1 52) k0.toNatClampNeg)) (c2 : 0 < r1.toInt) (ex84 : x84 = r1 - (0 : Int32)) (tx84 : x84.toInt = r1.toInt - 0) (c85 : x84.toInt < 1) (hi55_0 : 0 ≤ y87.toInt) (hi55_1 : y87.toInt ≤ 130) (c89 : y87.toInt < r1.toInt) (ex101 : x101 = y87 + (1 : Int32)) (tx101 : x101.toInt = y87.toInt + 1) : (130 - x101.toInt).toNat < (130 - y87.toInt).toNat := by
  have q0 : (0 : Int32).toInt = 0 := by decide +kernel
  have q1 : (1 : Int32).toInt = 1 := by decide +kernel
  have l_hr1 := LENF_le ((σ.2.2.1 52) k0.toNatClampNeg)
  rw [← hr1] at l_hr1
  first | assumption | omega | (subst_vars; omega) | trivial
-- nw@109 @109
theorem v_intOf_74 (σ : RS) (k0 : Int32) (r1 : Int32) (x84 : Int32) (y87 : Int32) (x106 : Int32) (hpre_0 : 0 ≤ k0.toInt) (hpre_1 : k0.toInt < 980) (hr1 : r1 = LENF ((σ.2.2.1 52) k0.toNatClampNeg)) (c2 : 0 < r1.toInt) (ex84 : x84 = r1 - (0 : Int32)) (tx84 : x84.toInt = r1.toInt - 0) (c85 : x84.toInt < 1) (hi55_0 : 0 ≤ y87.toInt) (hi55_1 : y87.toInt ≤ 130) (c89 : y87.toInt < r1.toInt) (ex106 : x106 = y87 + (1 : Int32)) : x106.toInt = y87.toInt + 1 := by
  have q0 : (0 : Int32).toInt = 0 := by decide +kernel
  have q1 : (1 : Int32).toInt = 1 := by decide +kernel
  have l_hr1 := LENF_le ((σ.2.2.1 52) k0.toNatClampNeg)
  rw [← hr1] at l_hr1
  have z9 : (1 : Int32).toInt = 1 := by decide +kernel
  rw [ex106, z_add (by omega) (by omega)]; first | done | omega
-- inv@55 @55
theorem v_intOf_75 (σ : RS) (k0 : Int32) (r1 : Int32) (x84 : Int32) (y87 : Int32) (x106 : Int32) (hpre_0 : 0 ≤ k0.toInt) (hpre_1 : k0.toInt < 980) (hr1 : r1 = LENF ((σ.2.2.1 52) k0.toNatClampNeg)) (c2 : 0 < r1.toInt) (ex84 : x84 = r1 - (0 : Int32)) (tx84 : x84.toInt = r1.toInt - 0) (c85 : x84.toInt < 1) (hi55_0 : 0 ≤ y87.toInt) (hi55_1 : y87.toInt ≤ 130) (c89 : y87.toInt < r1.toInt) (ex106 : x106 = y87 + (1 : Int32)) (tx106 : x106.toInt = y87.toInt + 1) : 0 ≤ x106.toInt ∧ x106.toInt ≤ 130 ∧ ((0 : Int32).toInt = 0 ∨ (0 : Int32).toInt = 1) := by
  have q0 : (0 : Int32).toInt = 0 := by decide +kernel
  have q1 : (1 : Int32).toInt = 1 := by decide +kernel
  have l_hr1 := LENF_le ((σ.2.2.1 52) k0.toNatClampNeg)
  rw [← hr1] at l_hr1
  refine ⟨?_, ?_, ?_⟩ <;> first | assumption | omega | (subst_vars; omega) | trivial
-- inv2@55 @55
theorem v_intOf_76 (σ : RS) (k0 : Int32) (r1 : Int32) (r82 : Int32) (x84 : Int32) (y86 : Int32) (y87 : Int32) (y88 : Int32) (r96 : Int32) (x103 : Int32) (x104 : Int32) (x105 : Int32) (x106 : Int32) (hpre_0 : 0 ≤ k0.toInt) (hpre_1 : k0.toInt < 980) (hpre_2 : 0 ≤ (σ.1 56).toInt) (hpre_3 : (σ.1 56).toInt ≤ 11) (hr1 : r1 = LENF ((σ.2.2.1 52) k0.toNatClampNeg)) (c2 : 0 < r1.toInt) (hr82y : ∀ s9 : List Int, QTT ((σ.2.2.1 52) k0.toNatClampNeg) ((σ.2.2.1 53) k0.toNatClampNeg) s9 → 0 ≤ (0 : Int32).toInt → (0 : Int32).toInt < 17 → r82.toInt = s9.getD (0 : Int32).toInt.toNat 0) (c83 : ¬ r82.toInt = 45) (ex84 : x84 = r1 - (0 : Int32)) (tx84 : x84.toInt = r1.toInt - 0) (c85 : x84.toInt < 1) (hi55_0 : 0 ≤ y87.toInt) (hi55_1 : y87.toInt ≤ 130) (hi55_2 : y88.toInt = 0 ∨ y88.toInt = 1) (hi55y : ∀ s9 : List Int, QTT ((σ.2.2.1 52) k0.toNatClampNeg) ((σ.2.2.1 53) k0.toNatClampNeg) s9 → INL s9 (0 : Int32).toInt y86.toInt y87.toInt y88.toInt) (c89 : y87.toInt < r1.toInt) (c93 : ¬ y88.toInt = 0) (hr96y : ∀ s9 : List Int, QTT ((σ.2.2.1 52) k0.toNatClampNeg) ((σ.2.2.1 53) k0.toNatClampNeg) s9 → 0 ≤ y87.toInt → y87.toInt < 17 → r96.toInt = s9.getD y87.toInt.toNat 0) (c97 : 48 ≤ r96.toInt) (c102 : 57 < r96.toInt) (ex103 : x103 = (10 : Int32) * y86) (ex104 : x104 = x103 + r96) (ex105 : x105 = x104 - (48 : Int32)) (ex106 : x106 = y87 + (1 : Int32)) (tx106 : x106.toInt = y87.toInt + 1) : ∀ s9 : List Int, QTT ((σ.2.2.1 52) k0.toNatClampNeg) ((σ.2.2.1 53) k0.toNatClampNeg) s9 → INL s9 (0 : Int32).toInt x105.toInt x106.toInt (0 : Int32).toInt := by
  have q0 : (0 : Int32).toInt = 0 := by decide +kernel
  have q1 : (1 : Int32).toInt = 1 := by decide +kernel
  have q10 : (10 : Int32).toInt = 10 := by decide +kernel
  have q48 : (48 : Int32).toInt = 48 := by decide +kernel
  have l_hr1 := LENF_le ((σ.2.2.1 52) k0.toNatClampNeg)
  rw [← hr1] at l_hr1
  intro s9 ht
  have e := q_len ht.1 ht.2.2.1 ht.2.2.2
  rw [← hr1] at e
  have l16 := ht.2.2.1
  have z := hi55y s9 ht
  have g9 := hr96y s9 ht (by omega) (by omega)
  have z1 := z.1
  have vb := z.vb (by omega) (by omega) (by omega)
  have gb := q_gb (i := y87.toInt.toNat) ht.2.2.2
  have w10 : (10 : Int32).toInt = 10 := by decide +kernel
  have w48 : (48 : Int32).toInt = 48 := by decide +kernel
  have a9 : x103.toInt = 10 * y86.toInt := by rw [ex103]; exact z_mulc 10 w10 (by omega) (by omega)
  have b9 : x104.toInt = 10 * y86.toInt + r96.toInt := by rw [ex104, z_add (by omega) (by omega), a9]
  have v9 : x105.toInt = 10 * y86.toInt + (r96.toInt - 48) := by rw [ex105, z_sub (by omega) (by omega)]; omega
  exact z.step (by omega) (by omega) (by omega) (by omega) (by omega) (fun _ => by omega)
-- meas@55 @55
theorem v_intOf_77 (σ : RS) (k0 : Int32) (r1 : Int32) (x84 : Int32) (y87 : Int32) (x106 : Int32) (hpre_0 : 0 ≤ k0.toInt) (hpre_1 : k0.toInt < 980) (hr1 : r1 = LENF ((σ.2.2.1 52) k0.toNatClampNeg)) (c2 : 0 < r1.toInt) (ex84 : x84 = r1 - (0 : Int32)) (tx84 : x84.toInt = r1.toInt - 0) (c85 : x84.toInt < 1) (hi55_0 : 0 ≤ y87.toInt) (hi55_1 : y87.toInt ≤ 130) (c89 : y87.toInt < r1.toInt) (ex106 : x106 = y87 + (1 : Int32)) (tx106 : x106.toInt = y87.toInt + 1) : (130 - x106.toInt).toNat < (130 - y87.toInt).toNat := by
  have q0 : (0 : Int32).toInt = 0 := by decide +kernel
  have q1 : (1 : Int32).toInt = 1 := by decide +kernel
  have l_hr1 := LENF_le ((σ.2.2.1 52) k0.toNatClampNeg)
  rw [← hr1] at l_hr1
  first | assumption | omega | (subst_vars; omega) | trivial
-- nw@109 @109
theorem v_intOf_78 (σ : RS) (k0 : Int32) (r1 : Int32) (x84 : Int32) (y87 : Int32) (x110 : Int32) (hpre_0 : 0 ≤ k0.toInt) (hpre_1 : k0.toInt < 980) (hr1 : r1 = LENF ((σ.2.2.1 52) k0.toNatClampNeg)) (c2 : 0 < r1.toInt) (ex84 : x84 = r1 - (0 : Int32)) (tx84 : x84.toInt = r1.toInt - 0) (c85 : x84.toInt < 1) (hi55_0 : 0 ≤ y87.toInt) (hi55_1 : y87.toInt ≤ 130) (c89 : y87.toInt < r1.toInt) (ex110 : x110 = y87 + (1 : Int32)) : x110.toInt = y87.toInt + 1 := by
  have q0 : (0 : Int32).toInt = 0 := by decide +kernel
  have q1 : (1 : Int32).toInt = 1 := by decide +kernel
  have l_hr1 := LENF_le ((σ.2.2.1 52) k0.toNatClampNeg)
  rw [← hr1] at l_hr1
  have z9 : (1 : Int32).toInt = 1 := by decide +kernel
  rw [ex110, z_add (by omega) (by omega)]; first | done | omega
-- inv@55 @55
theorem v_intOf_79 (σ : RS) (k0 : Int32) (r1 : Int32) (x84 : Int32) (y87 : Int32) (x110 : Int32) (hpre_0 : 0 ≤ k0.toInt) (hpre_1 : k0.toInt < 980) (hr1 : r1 = LENF ((σ.2.2.1 52) k0.toNatClampNeg)) (c2 : 0 < r1.toInt) (ex84 : x84 = r1 - (0 : Int32)) (tx84 : x84.toInt = r1.toInt - 0) (c85 : x84.toInt < 1) (hi55_0 : 0 ≤ y87.toInt) (hi55_1 : y87.toInt ≤ 130) (c89 : y87.toInt < r1.toInt) (ex110 : x110 = y87 + (1 : Int32)) (tx110 : x110.toInt = y87.toInt + 1) : 0 ≤ x110.toInt ∧ x110.toInt ≤ 130 ∧ ((1 : Int32).toInt = 0 ∨ (1 : Int32).toInt = 1) := by
  have q0 : (0 : Int32).toInt = 0 := by decide +kernel
  have q1 : (1 : Int32).toInt = 1 := by decide +kernel
  have l_hr1 := LENF_le ((σ.2.2.1 52) k0.toNatClampNeg)
  rw [← hr1] at l_hr1
  refine ⟨?_, ?_, ?_⟩ <;> first | assumption | omega | (subst_vars; omega) | trivial
-- inv2@55 @55
theorem v_intOf_80 (σ : RS) (k0 : Int32) (r1 : Int32) (r82 : Int32) (x84 : Int32) (y86 : Int32) (y87 : Int32) (y88 : Int32) (r96 : Int32) (x107 : Int32) (x108 : Int32) (x109 : Int32) (x110 : Int32) (hpre_0 : 0 ≤ k0.toInt) (hpre_1 : k0.toInt < 980) (hpre_2 : 0 ≤ (σ.1 56).toInt) (hpre_3 : (σ.1 56).toInt ≤ 11) (hr1 : r1 = LENF ((σ.2.2.1 52) k0.toNatClampNeg)) (c2 : 0 < r1.toInt) (hr82y : ∀ s9 : List Int, QTT ((σ.2.2.1 52) k0.toNatClampNeg) ((σ.2.2.1 53) k0.toNatClampNeg) s9 → 0 ≤ (0 : Int32).toInt → (0 : Int32).toInt < 17 → r82.toInt = s9.getD (0 : Int32).toInt.toNat 0) (c83 : ¬ r82.toInt = 45) (ex84 : x84 = r1 - (0 : Int32)) (tx84 : x84.toInt = r1.toInt - 0) (c85 : x84.toInt < 1) (hi55_0 : 0 ≤ y87.toInt) (hi55_1 : y87.toInt ≤ 130) (hi55_2 : y88.toInt = 0 ∨ y88.toInt = 1) (hi55y : ∀ s9 : List Int, QTT ((σ.2.2.1 52) k0.toNatClampNeg) ((σ.2.2.1 53) k0.toNatClampNeg) s9 → INL s9 (0 : Int32).toInt y86.toInt y87.toInt y88.toInt) (c89 : y87.toInt < r1.toInt) (c93 : ¬ y88.toInt = 0) (hr96y : ∀ s9 : List Int, QTT ((σ.2.2.1 52) k0.toNatClampNeg) ((σ.2.2.1 53) k0.toNatClampNeg) s9 → 0 ≤ y87.toInt → y87.toInt < 17 → r96.toInt = s9.getD y87.toInt.toNat 0) (c97 : 48 ≤ r96.toInt) (c102 : r96.toInt ≤ 57) (ex107 : x107 = (10 : Int32) * y86) (ex108 : x108 = x107 + r96) (ex109 : x109 = x108 - (48 : Int32)) (ex110 : x110 = y87 + (1 : Int32)) (tx110 : x110.toInt = y87.toInt + 1) : ∀ s9 : List Int, QTT ((σ.2.2.1 52) k0.toNatClampNeg) ((σ.2.2.1 53) k0.toNatClampNeg) s9 → INL s9 (0 : Int32).toInt x109.toInt x110.toInt (1 : Int32).toInt := by
  have q0 : (0 : Int32).toInt = 0 := by decide +kernel
  have q1 : (1 : Int32).toInt = 1 := by decide +kernel
  have q10 : (10 : Int32).toInt = 10 := by decide +kernel
  have q48 : (48 : Int32).toInt = 48 := by decide +kernel
  have l_hr1 := LENF_le ((σ.2.2.1 52) k0.toNatClampNeg)
  rw [← hr1] at l_hr1
  intro s9 ht
  have e := q_len ht.1 ht.2.2.1 ht.2.2.2
  rw [← hr1] at e
  have l16 := ht.2.2.1
  have z := hi55y s9 ht
  have g9 := hr96y s9 ht (by omega) (by omega)
  have z1 := z.1
  have vb := z.vb (by omega) (by omega) (by omega)
  have gb := q_gb (i := y87.toInt.toNat) ht.2.2.2
  have w10 : (10 : Int32).toInt = 10 := by decide +kernel
  have w48 : (48 : Int32).toInt = 48 := by decide +kernel
  have a9 : x107.toInt = 10 * y86.toInt := by rw [ex107]; exact z_mulc 10 w10 (by omega) (by omega)
  have b9 : x108.toInt = 10 * y86.toInt + r96.toInt := by rw [ex108, z_add (by omega) (by omega), a9]
  have v9 : x109.toInt = 10 * y86.toInt + (r96.toInt - 48) := by rw [ex109, z_sub (by omega) (by omega)]; omega
  exact z.step (by omega) (by omega) (by omega) (by omega) (by omega) (fun _ => by omega)
-- meas@55 @55
theorem v_intOf_81 (σ : RS) (k0 : Int32) (r1 : Int32) (x84 : Int32) (y87 : Int32) (x110 : Int32) (hpre_0 : 0 ≤ k0.toInt) (hpre_1 : k0.toInt < 980) (hr1 : r1 = LENF ((σ.2.2.1 52) k0.toNatClampNeg)) (c2 : 0 < r1.toInt) (ex84 : x84 = r1 - (0 : Int32)) (tx84 : x84.toInt = r1.toInt - 0) (c85 : x84.toInt < 1) (hi55_0 : 0 ≤ y87.toInt) (hi55_1 : y87.toInt ≤ 130) (c89 : y87.toInt < r1.toInt) (ex110 : x110 = y87 + (1 : Int32)) (tx110 : x110.toInt = y87.toInt + 1) : (130 - x110.toInt).toNat < (130 - y87.toInt).toNat := by
  have q0 : (0 : Int32).toInt = 0 := by decide +kernel
  have q1 : (1 : Int32).toInt = 1 := by decide +kernel
  have l_hr1 := LENF_le ((σ.2.2.1 52) k0.toNatClampNeg)
  rw [← hr1] at l_hr1
  first | assumption | omega | (subst_vars; omega) | trivial
-- nw@36 @36
theorem v_intOf_82 (σ : RS) (k0 : Int32) (r1 : Int32) (x84 : Int32) (x111 : Int32) (hpre_0 : 0 ≤ k0.toInt) (hpre_1 : k0.toInt < 980) (hr1 : r1 = LENF ((σ.2.2.1 52) k0.toNatClampNeg)) (c2 : 0 < r1.toInt) (ex84 : x84 = r1 - (0 : Int32)) (tx84 : x84.toInt = r1.toInt - 0) (c85 : 1 ≤ x84.toInt) (ex111 : x111 = r1 - (0 : Int32)) : x111.toInt = r1.toInt - 0 := by
  have q0 : (0 : Int32).toInt = 0 := by decide +kernel
  have l_hr1 := LENF_le ((σ.2.2.1 52) k0.toNatClampNeg)
  rw [← hr1] at l_hr1
  have w1 : (0 : Int32).toInt = 0 := by decide +kernel
  rw [ex111, z_sub (by omega) (by omega)]; first | done | omega
-- init2@55 @55
theorem v_intOf_83 (σ : RS) (k0 : Int32) (r1 : Int32) (r82 : Int32) (x84 : Int32) (x111 : Int32) (hpre_0 : 0 ≤ k0.toInt) (hpre_1 : k0.toInt < 980) (hpre_2 : 0 ≤ (σ.1 56).toInt) (hpre_3 : (σ.1 56).toInt ≤ 11) (hr1 : r1 = LENF ((σ.2.2.1 52) k0.toNatClampNeg)) (c2 : 0 < r1.toInt) (hr82y : ∀ s9 : List Int, QTT ((σ.2.2.1 52) k0.toNatClampNeg) ((σ.2.2.1 53) k0.toNatClampNeg) s9 → 0 ≤ (0 : Int32).toInt → (0 : Int32).toInt < 17 → r82.toInt = s9.getD (0 : Int32).toInt.toNat 0) (c83 : ¬ r82.toInt = 45) (ex84 : x84 = r1 - (0 : Int32)) (tx84 : x84.toInt = r1.toInt - 0) (c85 : 1 ≤ x84.toInt) (ex111 : x111 = r1 - (0 : Int32)) (tx111 : x111.toInt = r1.toInt - 0) (c112 : 9 < x111.toInt) : ∀ s9 : List Int, QTT ((σ.2.2.1 52) k0.toNatClampNeg) ((σ.2.2.1 53) k0.toNatClampNeg) s9 → INL s9 (0 : Int32).toInt (0 : Int32).toInt (0 : Int32).toInt (0 : Int32).toInt := by
  have q0 : (0 : Int32).toInt = 0 := by decide +kernel
  have l_hr1 := LENF_le ((σ.2.2.1 52) k0.toNatClampNeg)
  rw [← hr1] at l_hr1
  intro s9 ht
  have e := q_len ht.1 ht.2.2.1 ht.2.2.2
  rw [← hr1] at e
  exact INL.start (by omega) (by omega) (by omega) (by omega)
-- post2 @146
theorem v_intOf_84 (σ : RS) (k0 : Int32) (r1 : Int32) (r82 : Int32) (x84 : Int32) (x111 : Int32) (y113 : Int32) (y114 : Int32) (y115 : Int32) (hpre_0 : 0 ≤ k0.toInt) (hpre_1 : k0.toInt < 980) (hpre_2 : 0 ≤ (σ.1 56).toInt) (hpre_3 : (σ.1 56).toInt ≤ 11) (hr1 : r1 = LENF ((σ.2.2.1 52) k0.toNatClampNeg)) (c2 : 0 < r1.toInt) (hr82y : ∀ s9 : List Int, QTT ((σ.2.2.1 52) k0.toNatClampNeg) ((σ.2.2.1 53) k0.toNatClampNeg) s9 → 0 ≤ (0 : Int32).toInt → (0 : Int32).toInt < 17 → r82.toInt = s9.getD (0 : Int32).toInt.toNat 0) (c83 : ¬ r82.toInt = 45) (ex84 : x84 = r1 - (0 : Int32)) (tx84 : x84.toInt = r1.toInt - 0) (c85 : 1 ≤ x84.toInt) (ex111 : x111 = r1 - (0 : Int32)) (tx111 : x111.toInt = r1.toInt - 0) (c112 : 9 < x111.toInt) (hi55_0 : 0 ≤ y114.toInt) (hi55_1 : y114.toInt ≤ 130) (hi55_2 : y115.toInt = 0 ∨ y115.toInt = 1) (hi55y : ∀ s9 : List Int, QTT ((σ.2.2.1 52) k0.toNatClampNeg) ((σ.2.2.1 53) k0.toNatClampNeg) s9 → INL s9 (0 : Int32).toInt y113.toInt y114.toInt y115.toInt) (c116 : r1.toInt ≤ y114.toInt) (c117 : y115.toInt = 0) : ∀ s9 : List Int, QTT ((σ.2.2.1 52) k0.toNatClampNeg) ((σ.2.2.1 53) k0.toNatClampNeg) s9 → QI (qToI s9) y113.toInt (10 : Int32).toInt (σ.1 56).toInt := by
  have q0 : (0 : Int32).toInt = 0 := by decide +kernel
  have q10 : (10 : Int32).toInt = 10 := by decide +kernel
  have l_hr1 := LENF_le ((σ.2.2.1 52) k0.toNatClampNeg)
  rw [← hr1] at l_hr1
  intro s9 ht
  have e := q_len ht.1 ht.2.2.1 ht.2.2.2
  rw [← hr1] at e
  have z := hi55y s9 ht
  have zg := z.2.1
  have g0 := hr82y s9 ht (by omega) (by omega)
  rw [show (0 : Int32).toInt.toNat = 0 by decide +kernel] at g0
  rw [q0] at z
  exact z.fin0 (by first | exact q_head0 (by omega) | (rw [q_head (by omega)]; intro h; have h := Option.some.inj h; omega)) (by omega) (fun _ => rfl) (by omega)
-- post2 @146
theorem v_intOf_85 (σ : RS) (k0 : Int32) (r1 : Int32) (r82 : Int32) (x84 : Int32) (x111 : Int32) (y113 : Int32) (y114 : Int32) (y115 : Int32) (hpre_0 : 0 ≤ k0.toInt) (hpre_1 : k0.toInt < 980) (hpre_2 : 0 ≤ (σ.1 56).toInt) (hpre_3 : (σ.1 56).toInt ≤ 11) (hr1 : r1 = LENF ((σ.2.2.1 52) k0.toNatClampNeg)) (c2 : 0 < r1.toInt) (hr82y : ∀ s9 : List Int, QTT ((σ.2.2.1 52) k0.toNatClampNeg) ((σ.2.2.1 53) k0.toNatClampNeg) s9 → 0 ≤ (0 : Int32).toInt → (0 : Int32).toInt < 17 → r82.toInt = s9.getD (0 : Int32).toInt.toNat 0) (c83 : ¬ r82.toInt = 45) (ex84 : x84 = r1 - (0 : Int32)) (tx84 : x84.toInt = r1.toInt - 0) (c85 : 1 ≤ x84.toInt) (ex111 : x111 = r1 - (0 : Int32)) (tx111 : x111.toInt = r1.toInt - 0) (c112 : 9 < x111.toInt) (hi55_0 : 0 ≤ y114.toInt) (hi55_1 : y114.toInt ≤ 130) (hi55_2 : y115.toInt = 0 ∨ y115.toInt = 1) (hi55y : ∀ s9 : List Int, QTT ((σ.2.2.1 52) k0.toNatClampNeg) ((σ.2.2.1 53) k0.toNatClampNeg) s9 → INL s9 (0 : Int32).toInt y113.toInt y114.toInt y115.toInt) (c116 : r1.toInt ≤ y114.toInt) (c117 : ¬ y115.toInt = 0) : ∀ s9 : List Int, QTT ((σ.2.2.1 52) k0.toNatClampNeg) ((σ.2.2.1 53) k0.toNatClampNeg) s9 → QI (qToI s9) y113.toInt (σ.1 56).toInt (σ.1 56).toInt := by
  have q0 : (0 : Int32).toInt = 0 := by decide +kernel
  have l_hr1 := LENF_le ((σ.2.2.1 52) k0.toNatClampNeg)
  rw [← hr1] at l_hr1
  intro s9 ht
  have e := q_len ht.1 ht.2.2.1 ht.2.2.2
  rw [← hr1] at e
  have z := hi55y s9 ht
  have zg := z.2.1
  have g0 := hr82y s9 ht (by omega) (by omega)
  rw [show (0 : Int32).toInt.toNat = 0 by decide +kernel] at g0
  rw [q0] at z
  exact z.fin0 (by first | exact q_head0 (by omega) | (rw [q_head (by omega)]; intro h; have h := Option.some.inj h; omega)) (by omega) (fun _ => rfl) (by omega)
-- post2 @146
theorem v_intOf_86 (σ : RS) (k0 : Int32) (r1 : Int32) (r82 : Int32) (x84 : Int32) (x111 : Int32) (y113 : Int32) (y114 : Int32) (y115 : Int32) (hpre_0 : 0 ≤ k0.toInt) (hpre_1 : k0.toInt < 980) (hpre_2 : 0 ≤ (σ.1 56).toInt) (hpre_3 : (σ.1 56).toInt ≤ 11) (hr1 : r1 = LENF ((σ.2.2.1 52) k0.toNatClampNeg)) (c2 : 0 < r1.toInt) (hr82y : ∀ s9 : List Int, QTT ((σ.2.2.1 52) k0.toNatClampNeg) ((σ.2.2.1 53) k0.toNatClampNeg) s9 → 0 ≤ (0 : Int32).toInt → (0 : Int32).toInt < 17 → r82.toInt = s9.getD (0 : Int32).toInt.toNat 0) (c83 : ¬ r82.toInt = 45) (ex84 : x84 = r1 - (0 : Int32)) (tx84 : x84.toInt = r1.toInt - 0) (c85 : 1 ≤ x84.toInt) (ex111 : x111 = r1 - (0 : Int32)) (tx111 : x111.toInt = r1.toInt - 0) (c112 : 9 < x111.toInt) (hi55_0 : 0 ≤ y114.toInt) (hi55_1 : y114.toInt ≤ 130) (hi55_2 : y115.toInt = 0 ∨ y115.toInt = 1) (hi55y : ∀ s9 : List Int, QTT ((σ.2.2.1 52) k0.toNatClampNeg) ((σ.2.2.1 53) k0.toNatClampNeg) s9 → INL s9 (0 : Int32).toInt y113.toInt y114.toInt y115.toInt) (c116 : y114.toInt < r1.toInt) (c120 : y115.toInt = 0) (c121 : y115.toInt = 0) : ∀ s9 : List Int, QTT ((σ.2.2.1 52) k0.toNatClampNeg) ((σ.2.2.1 53) k0.toNatClampNeg) s9 → QI (qToI s9) y113.toInt (10 : Int32).toInt (σ.1 56).toInt := by
  have q0 : (0 : Int32).toInt = 0 := by decide +kernel
  have q10 : (10 : Int32).toInt = 10 := by decide +kernel
  have l_hr1 := LENF_le ((σ.2.2.1 52) k0.toNatClampNeg)
  rw [← hr1] at l_hr1
  intro s9 ht
  have e := q_len ht.1 ht.2.2.1 ht.2.2.2
  rw [← hr1] at e
  have z := hi55y s9 ht
  have zg := z.2.1
  have g0 := hr82y s9 ht (by omega) (by omega)
  rw [show (0 : Int32).toInt.toNat = 0 by decide +kernel] at g0
  rw [q0] at z
  exact z.fin0 (by first | exact q_head0 (by omega) | (rw [q_head (by omega)]; intro h; have h := Option.some.inj h; omega)) (by omega) (fun _ => rfl) (by omega)
-- dead@118 @121
theorem v_intOf_87 (y115 : Int32) (hi55_2 : y115.toInt = 0 ∨ y115.toInt = 1) (c120 : y115.toInt = 0) (c121 : ¬ y115.toInt = 0) : False := by
  first | assumption | omega | (subst_vars; omega) | trivial
-- pre:sign8@70 @70
theorem v_intOf_88 (σ : RS) (k0 : Int32) (r1 : Int32) (x84 : Int32) (x111 : Int32) (y114 : Int32) (hpre_0 : 0 ≤ k0.toInt) (hpre_1 : k0.toInt < 980) (hr1 : r1 = LENF ((σ.2.2.1 52) k0.toNatClampNeg)) (c2 : 0 < r1.toInt) (ex84 : x84 = r1 - (0 : Int32)) (tx84 : x84.toInt = r1.toInt - 0) (c85 : 1 ≤ x84.toInt) (ex111 : x111 = r1 - (0 : Int32)) (tx111 : x111.toInt = r1.toInt - 0) (c112 : 9 < x111.toInt) (hi55_0 : 0 ≤ y114.toInt) (hi55_1 : y114.toInt ≤ 130) (c116 : y114.toInt < r1.toInt) : 0 ≤ k0.toInt ∧ k0.toInt < 980 ∧ 0 ≤ y114.toInt ∧ y114.toInt ≤ 200 := by
  have q0 : (0 : Int32).toInt = 0 := by decide +kernel
  have l_hr1 := LENF_le ((σ.2.2.1 52) k0.toNatClampNeg)
  rw [← hr1] at l_hr1
  refine ⟨?_, ?_, ?_, ?_⟩ <;> first | assumption | omega | (subst_vars; omega) | trivial
-- nw@109 @109
theorem v_intOf_89 (σ : RS) (k0 : Int32) (r1 : Int32) (x84 : Int32) (x111 : Int32) (y114 : Int32) (x128 : Int32) (hpre_0 : 0 ≤ k0.toInt) (hpre_1 : k0.toInt < 980) (hr1 : r1 = LENF ((σ.2.2.1 52) k0.toNatClampNeg)) (c2 : 0 < r1.toInt) (ex84 : x84 = r1 - (0 : Int32)) (tx84 : x84.toInt = r1.toInt - 0) (c85 : 1 ≤ x84.toInt) (ex111 : x111 = r1 - (0 : Int32)) (tx111 : x111.toInt = r1.toInt - 0) (c112 : 9 < x111.toInt) (hi55_0 : 0 ≤ y114.toInt) (hi55_1 : y114.toInt ≤ 130) (c116 : y114.toInt < r1.toInt) (ex128 : x128 = y114 + (1 : Int32)) : x128.toInt = y114.toInt + 1 := by
  have q0 : (0 : Int32).toInt = 0 := by decide +kernel
  have q1 : (1 : Int32).toInt = 1 := by decide +kernel
  have l_hr1 := LENF_le ((σ.2.2.1 52) k0.toNatClampNeg)
  rw [← hr1] at l_hr1
  have z9 : (1 : Int32).toInt = 1 := by decide +kernel
  rw [ex128, z_add (by omega) (by omega)]; first | done | omega
-- inv@55 @55
theorem v_intOf_90 (σ : RS) (k0 : Int32) (r1 : Int32) (x84 : Int32) (x111 : Int32) (y114 : Int32) (x128 : Int32) (hpre_0 : 0 ≤ k0.toInt) (hpre_1 : k0.toInt < 980) (hr1 : r1 = LENF ((σ.2.2.1 52) k0.toNatClampNeg)) (c2 : 0 < r1.toInt) (ex84 : x84 = r1 - (0 : Int32)) (tx84 : x84.toInt = r1.toInt - 0) (c85 : 1 ≤ x84.toInt) (ex111 : x111 = r1 - (0 : Int32)) (tx111 : x111.toInt = r1.toInt - 0) (c112 : 9 < x111.toInt) (hi55_0 : 0 ≤ y114.toInt) (hi55_1 : y114.toInt ≤ 130) (c116 : y114.toInt < r1.toInt) (ex128 : x128 = y114 + (1 : Int32)) (tx128 : x128.toInt = y114.toInt + 1) : 0 ≤ x128.toInt ∧ x128.toInt ≤ 130 ∧ ((0 : Int32).toInt = 0 ∨ (0 : Int32).toInt = 1) := by
  have q0 : (0 : Int32).toInt = 0 := by decide +kernel
  have q1 : (1 : Int32).toInt = 1 := by decide +kernel
  have l_hr1 := LENF_le ((σ.2.2.1 52) k0.toNatClampNeg)
  rw [← hr1] at l_hr1
  refine ⟨?_, ?_, ?_⟩ <;> first | assumption | omega | (subst_vars; omega) | trivial
-- inv2@55 @55
theorem v_intOf_91 (σ : RS) (k0 : Int32) (r1 : Int32) (r82 : Int32) (x84 : Int32) (x111 : Int32) (y113 : Int32) (y114 : Int32) (y115 : Int32) (r123 : Int32) (x125 : Int32) (x126 : Int32) (x127 : Int32) (x128 : Int32) (hpre_0 : 0 ≤ k0.toInt) (hpre_1 : k0.toInt < 980) (hpre_2 : 0 ≤ (σ.1 56).toInt) (hpre_3 : (σ.1 56).toInt ≤ 11) (hr1 : r1 = LENF ((σ.2.2.1 52) k0.toNatClampNeg)) (c2 : 0 < r1.toInt) (hr82y : ∀ s9 : List Int, QTT ((σ.2.2.1 52) k0.toNatClampNeg) ((σ.2.2.1 53) k0.toNatClampNeg) s9 → 0 ≤ (0 : Int32).toInt → (0 : Int32).toInt < 17 → r82.toInt = s9.getD (0 : Int32).toInt.toNat 0) (c83 : ¬ r82.toInt = 45) (ex84 : x84 = r1 - (0 : Int32)) (tx84 : x84.toInt = r1.toInt - 0) (c85 : 1 ≤ x84.toInt) (ex111 : x111 = r1 - (0 : Int32)) (tx111 : x111.toInt = r1.toInt - 0) (c112 : 9 < x111.toInt) (hi55_0 : 0 ≤ y114.toInt) (hi55_1 : y114.toInt ≤ 130) (hi55_2 : y115.toInt = 0 ∨ y115.toInt = 1) (hi55y : ∀ s9 : List Int, QTT ((σ.2.2.1 52) k0.toNatClampNeg) ((σ.2.2.1 53) k0.toNatClampNeg) s9 → INL s9 (0 : Int32).toInt y113.toInt y114.toInt y115.toInt) (c116 : y114.toInt < r1.toInt) (c120 : ¬ y115.toInt = 0) (hr123y : ∀ s9 : List Int, QTT ((σ.2.2.1 52) k0.toNatClampNeg) ((σ.2.2.1 53) k0.toNatClampNeg) s9 → 0 ≤ y114.toInt → y114.toInt < 17 → r123.toInt = s9.getD y114.toInt.toNat 0) (c124 : r123.toInt < 48) (ex125 : x125 = (10 : Int32) * y113) (ex126 : x126 = x125 + r123) (ex127 : x127 = x126 - (48 : Int32)) (ex128 : x128 = y114 + (1 : Int32)) (tx128 : x128.toInt = y114.toInt + 1) : ∀ s9 : List Int, QTT ((σ.2.2.1 52) k0.toNatClampNeg) ((σ.2.2.1 53) k0.toNatClampNeg) s9 → INL s9 (0 : Int32).toInt x127.toInt x128.toInt (0 : Int32).toInt := by
  have q0 : (0 : Int32).toInt = 0 := by decide +kernel
  have q1 : (1 : Int32).toInt = 1 := by decide +kernel
  have q10 : (10 : Int32).toInt = 10 := by decide +kernel
  have q48 : (48 : Int32).toInt = 48 := by decide +kernel
  have l_hr1 := LENF_le ((σ.2.2.1 52) k0.toNatClampNeg)
  rw [← hr1] at l_hr1
  intro s9 ht
  have e := q_len ht.1 ht.2.2.1 ht.2.2.2
  rw [← hr1] at e
  have l16 := ht.2.2.1
  have z := hi55y s9 ht
  have g9 := hr123y s9 ht (by omega) (by omega)
  have z1 := z.1
  have vb := z.vb (by omega) (by omega) (by omega)
  have gb := q_gb (i := y114.toInt.toNat) ht.2.2.2
  have w10 : (10 : Int32).toInt = 10 := by decide +kernel
  have w48 : (48 : Int32).toInt = 48 := by decide +kernel
  have a9 : x125.toInt = 10 * y113.toInt := by rw [ex125]; exact z_mulc 10 w10 (by omega) (by omega)
  have b9 : x126.toInt = 10 * y113.toInt + r123.toInt := by rw [ex126, z_add (by omega) (by omega), a9]
  have v9 : x127.toInt = 10 * y113.toInt + (r123.toInt - 48) := by rw [ex127, z_sub (by omega) (by omega)]; omega
  exact z.step (by omega) (by omega) (by omega) (by omega) (by omega) (fun _ => by omega)
-- meas@55 @55
theorem v_intOf_92 (σ : RS) (k0 : Int32) (r1 : Int32) (x84 : Int32) (x111 : Int32) (y114 : Int32) (x128 : Int32) (hpre_0 : 0 ≤ k0.toInt) (hpre_1 : k0.toInt < 980) (hr1 : r1 = LENF ((σ.2.2.1 52) k0.toNatClampNeg)) (c2 : 0 < r1.toInt) (ex84 : x84 = r1 - (0 : Int32)) (tx84 : x84.toInt = r1.toInt - 0) (c85 : 1 ≤ x84.toInt) (ex111 : x111 = r1 - (0 : Int32)) (tx111 : x111.toInt = r1.toInt - 0) (c112 : 9 < x111.toInt) (hi55_0 : 0 ≤ y114.toInt) (hi55_1 : y114.toInt ≤ 130) (c116 : y114.toInt < r1.toInt) (ex128 : x128 = y114 + (1 : Int32)) (tx128 : x128.toInt = y114.toInt + 1) : (130 - x128.toInt).toNat < (130 - y114.toInt).toNat := by
  have q0 : (0 : Int32).toInt = 0 := by decide +kernel
  have q1 : (1 : Int32).toInt = 1 := by decide +kernel
  have l_hr1 := LENF_le ((σ.2.2.1 52) k0.toNatClampNeg)
  rw [← hr1] at l_hr1
  first | assumption | omega | (subst_vars; omega) | trivial
-- nw@109 @109
theorem v_intOf_93 (σ : RS) (k0 : Int32) (r1 : Int32) (x84 : Int32) (x111 : Int32) (y114 : Int32) (x133 : Int32) (hpre_0 : 0 ≤ k0.toInt) (hpre_1 : k0.toInt < 980) (hr1 : r1 = LENF ((σ.2.2.1 52) k0.toNatClampNeg)) (c2 : 0 < r1.toInt) (ex84 : x84 = r1 - (0 : Int32)) (tx84 : x84.toInt = r1.toInt - 0) (c85 : 1 ≤ x84.toInt) (ex111 : x111 = r1 - (0 : Int32)) (tx111 : x111.toInt = r1.toInt - 0) (c112 : 9 < x111.toInt) (hi55_0 : 0 ≤ y114.toInt) (hi55_1 : y114.toInt ≤ 130) (c116 : y114.toInt < r1.toInt) (ex133 : x133 = y114 + (1 : Int32)) : x133.toInt = y114.toInt + 1 := by
  have q0 : (0 : Int32).toInt = 0 := by decide +kernel
  have q1 : (1 : Int32).toInt = 1 := by decide +kernel
  have l_hr1 := LENF_le ((σ.2.2.1 52) k0.toNatClampNeg)
  rw [← hr1] at l_hr1
  have z9 : (1 : Int32).toInt = 1 := by decide +kernel
  rw [ex133, z_add (by omega) (by omega)]; first | done | omega
-- inv@55 @55
theorem v_intOf_94 (σ : RS) (k0 : Int32) (r1 : Int32) (x84 : Int32) (x111 : Int32) (y114 : Int32) (x133 : Int32) (hpre_0 : 0 ≤ k0.toInt) (hpre_1 : k0.toInt < 980) (hr1 : r1 = LENF ((σ.2.2.1 52) k0.toNatClampNeg)) (c2 : 0 < r1.toInt) (ex84 : x84 = r1 - (0 : Int32)) (tx84 : x84.toInt = r1.toInt - 0) (c85 : 1 ≤ x84.toInt) (ex111 : x111 = r1 - (0 : Int32)) (tx111 : x111.toInt = r1.toInt - 0) (c112 : 9 < x111.toInt) (hi55_0 : 0 ≤ y114.toInt) (hi55_1 : y114.toInt ≤ 130) (c116 : y114.toInt < r1.toInt) (ex133 : x133 = y114 + (1 : Int32)) (tx133 : x133.toInt = y114.toInt + 1) : 0 ≤ x133.toInt ∧ x133.toInt ≤ 130 ∧ ((0 : Int32).toInt = 0 ∨ (0 : Int32).toInt = 1) := by
  have q0 : (0 : Int32).toInt = 0 := by decide +kernel
  have q1 : (1 : Int32).toInt = 1 := by decide +kernel
  have l_hr1 := LENF_le ((σ.2.2.1 52) k0.toNatClampNeg)
  rw [← hr1] at l_hr1
  refine ⟨?_, ?_, ?_⟩ <;> first | assumption | omega | (subst_vars; omega) | trivial
-- inv2@55 @55
theorem v_intOf_95 (σ : RS) (k0 : Int32) (r1 : Int32) (r82 : Int32) (x84 : Int32) (x111 : Int32) (y113 : Int32) (y114 : Int32) (y115 : Int32) (r123 : Int32) (x130 : Int32) (x131 : Int32) (x132 : Int32) (x133 : Int32) (hpre_0 : 0 ≤ k0.toInt) (hpre_1 : k0.toInt < 980) (hpre_2 : 0 ≤ (σ.1 56).toInt) (hpre_3 : (σ.1 56).toInt ≤ 11) (hr1 : r1 = LENF ((σ.2.2.1 52) k0.toNatClampNeg)) (c2 : 0 < r1.toInt) (hr82y : ∀ s9 : List Int, QTT ((σ.2.2.1 52) k0.toNatClampNeg) ((σ.2.2.1 53) k0.toNatClampNeg) s9 → 0 ≤ (0 : Int32).toInt → (0 : Int32).toInt < 17 → r82.toInt = s9.getD (0 : Int32).toInt.toNat 0) (c83 : ¬ r82.toInt = 45) (ex84 : x84 = r1 - (0 : Int32)) (tx84 : x84.toInt = r1.toInt - 0) (c85 : 1 ≤ x84.toInt) (ex111 : x111 = r1 - (0 : Int32)) (tx111 : x111.toInt = r1.toInt - 0) (c112 : 9 < x111.toInt) (hi55_0 : 0 ≤ y114.toInt) (hi55_1 : y114.toInt ≤ 130) (hi55_2 : y115.toInt = 0 ∨ y115.toInt = 1) (hi55y : ∀ s9 : List Int, QTT ((σ.2.2.1 52) k0.toNatClampNeg) ((σ.2.2.1 53) k0.toNatClampNeg) s9 → INL s9 (0 : Int32).toInt y113.toInt y114.toInt y115.toInt) (c116 : y114.toInt < r1.toInt) (c120 : ¬ y115.toInt = 0) (hr123y : ∀ s9 : List Int, QTT ((σ.2.2.1 52) k0.toNatClampNeg) ((σ.2.2.1 53) k0.toNatClampNeg) s9 → 0 ≤ y114.toInt → y114.toInt < 17 → r123.toInt = s9.getD y114.toInt.toNat 0) (c124 : 48 ≤ r123.toInt) (c129 : 57 < r123.toInt) (ex130 : x130 = (10 : Int32) * y113) (ex131 : x131 = x130 + r123) (ex132 : x132 = x131 - (48 : Int32)) (ex133 : x133 = y114 + (1 : Int32)) (tx133 : x133.toInt = y114.toInt + 1) : ∀ s9 : List Int, QTT ((σ.2.2.1 52) k0.toNatClampNeg) ((σ.2.2.1 53) k0.toNatClampNeg) s9 → INL s9 (0 : Int32).toInt x132.toInt x133.toInt (0 : Int32).toInt := by
  have q0 : (0 : Int32).toInt = 0 := by decide +kernel
  have q1 : (1 : Int32).toInt = 1 := by decide +kernel
  have q10 : (10 : Int32).toInt = 10 := by decide +kernel
  have q48 : (48 : Int32).toInt = 48 := by decide +kernel
  have l_hr1 := LENF_le ((σ.2.2.1 52) k0.toNatClampNeg)
  rw [← hr1] at l_hr1
  intro s9 ht
  have e := q_len ht.1 ht.2.2.1 ht.2.2.2
  rw [← hr1] at e
  have l16 := ht.2.2.1
  have z := hi55y s9 ht
  have g9 := hr123y s9 ht (by omega) (by omega)
  have z1 := z.1
  have vb := z.vb (by omega) (by omega) (by omega)
  have gb := q_gb (i := y114.toInt.toNat) ht.2.2.2
  have w10 : (10 : Int32).toInt = 10 := by decide +kernel
  have w48 : (48 : Int32).toInt = 48 := by decide +kernel
  have a9 : x130.toInt = 10 * y113.toInt := by rw [ex130]; exact z_mulc 10 w10 (by omega) (by omega)
  have b9 : x131.toInt = 10 * y113.toInt + r123.toInt := by rw [ex131, z_add (by omega) (by omega), a9]
  have v9 : x132.toInt = 10 * y113.toInt + (r123.toInt - 48) := by rw [ex132, z_sub (by omega) (by omega)]; omega
  exact z.step (by omega) (by omega) (by omega) (by omega) (by omega) (fun _ => by omega)
-- meas@55 @55
theorem v_intOf_96 (σ : RS) (k0 : Int32) (r1 : Int32) (x84 : Int32) (x111 : Int32) (y114 : Int32) (x133 : Int32) (hpre_0 : 0 ≤ k0.toInt) (hpre_1 : k0.toInt < 980) (hr1 : r1 = LENF ((σ.2.2.1 52) k0.toNatClampNeg)) (c2 : 0 < r1.toInt) (ex84 : x84 = r1 - (0 : Int32)) (tx84 : x84.toInt = r1.toInt - 0) (c85 : 1 ≤ x84.toInt) (ex111 : x111 = r1 - (0 : Int32)) (tx111 : x111.toInt = r1.toInt - 0) (c112 : 9 < x111.toInt) (hi55_0 : 0 ≤ y114.toInt) (hi55_1 : y114.toInt ≤ 130) (c116 : y114.toInt < r1.toInt) (ex133 : x133 = y114 + (1 : Int32)) (tx133 : x133.toInt = y114.toInt + 1) : (130 - x133.toInt).toNat < (130 - y114.toInt).toNat := by
  have q0 : (0 : Int32).toInt = 0 := by decide +kernel
  have q1 : (1 : Int32).toInt = 1 := by decide +kernel
  have l_hr1 := LENF_le ((σ.2.2.1 52) k0.toNatClampNeg)
  rw [← hr1] at l_hr1
  first | assumption | omega | (subst_vars; omega) | trivial
-- nw@109 @109
theorem v_intOf_97 (σ : RS) (k0 : Int32) (r1 : Int32) (x84 : Int32) (x111 : Int32) (y114 : Int32) (x137 : Int32) (hpre_0 : 0 ≤ k0.toInt) (hpre_1 : k0.toInt < 980) (hr1 : r1 = LENF ((σ.2.2.1 52) k0.toNatClampNeg)) (c2 : 0 < r1.toInt) (ex84 : x84 = r1 - (0 : Int32)) (tx84 : x84.toInt = r1.toInt - 0) (c85 : 1 ≤ x84.toInt) (ex111 : x111 = r1 - (0 : Int32)) (tx111 : x111.toInt = r1.toInt - 0) (c112 : 9 < x111.toInt) (hi55_0 : 0 ≤ y114.toInt) (hi55_1 : y114.toInt ≤ 130) (c116 : y114.toInt < r1.toInt) (ex137 : x137 = y114 + (1 : Int32)) : x137.toInt = y114.toInt + 1 := by
  have q0 : (0 : Int32).toInt = 0 := by decide +kernel
  have q1 : (1 : Int32).toInt = 1 := by decide +kernel
  have l_hr1 := LENF_le ((σ.2.2.1 52) k0.toNatClampNeg)
  rw [← hr1] at l_hr1
  have z9 : (1 : Int32).toInt = 1 := by decide +kernel
  rw [ex137, z_add (by omega) (by omega)]; first | done | omega
-- inv@55 @55
theorem v_intOf_98 (σ : RS) (k0 : Int32) (r1 : Int32) (x84 : Int32) (x111 : Int32) (y114 : Int32) (x137 : Int32) (hpre_0 : 0 ≤ k0.toInt) (hpre_1 : k0.toInt < 980) (hr1 : r1 = LENF ((σ.2.2.1 52) k0.toNatClampNeg)) (c2 : 0 < r1.toInt) (ex84 : x84 = r1 - (0 : Int32)) (tx84 : x84.toInt = r1.toInt - 0) (c85 : 1 ≤ x84.toInt) (ex111 : x111 = r1 - (0 : Int32)) (tx111 : x111.toInt = r1.toInt - 0) (c112 : 9 < x111.toInt) (hi55_0 : 0 ≤ y114.toInt) (hi55_1 : y114.toInt ≤ 130) (c116 : y114.toInt < r1.toInt) (ex137 : x137 = y114 + (1 : Int32)) (tx137 : x137.toInt = y114.toInt + 1) : 0 ≤ x137.toInt ∧ x137.toInt ≤ 130 ∧ ((1 : Int32).toInt = 0 ∨ (1 : Int32).toInt = 1) := by
  have q0 : (0 : Int32).toInt = 0 := by decide +kernel
  have q1 : (1 : Int32).toInt = 1 := by decide +kernel
  have l_hr1 := LENF_le ((σ.2.2.1 52) k0.toNatClampNeg)
  rw [← hr1] at l_hr1
  refine ⟨?_, ?_, ?_⟩ <;> first | assumption | omega | (subst_vars; omega) | trivial
-- inv2@55 @55
theorem v_intOf_99 (σ : RS) (k0 : Int32) (r1 : Int32) (r82 : Int32) (x84 : Int32) (x111 : Int32) (y113 : Int32) (y114 : Int32) (y115 : Int32) (r123 : Int32) (x134 : Int32) (x135 : Int32) (x136 : Int32) (x137 : Int32) (hpre_0 : 0 ≤ k0.toInt) (hpre_1 : k0.toInt < 980) (hpre_2 : 0 ≤ (σ.1 56).toInt) (hpre_3 : (σ.1 56).toInt ≤ 11) (hr1 : r1 = LENF ((σ.2.2.1 52) k0.toNatClampNeg)) (c2 : 0 < r1.toInt) (hr82y : ∀ s9 : List Int, QTT ((σ.2.2.1 52) k0.toNatClampNeg) ((σ.2.2.1 53) k0.toNatClampNeg) s9 → 0 ≤ (0 : Int32).toInt → (0 : Int32).toInt < 17 → r82.toInt = s9.getD (0 : Int32).toInt.toNat 0) (c83 : ¬ r82.toInt = 45) (ex84 : x84 = r1 - (0 : Int32)) (tx84 : x84.toInt = r1.toInt - 0) (c85 : 1 ≤ x84.toInt) (ex111 : x111 = r1 - (0 : Int32)) (tx111 : x111.toInt = r1.toInt - 0) (c112 : 9 < x111.toInt) (hi55_0 : 0 ≤ y114.toInt) (hi55_1 : y114.toInt ≤ 130) (hi55_2 : y115.toInt = 0 ∨ y115.toInt = 1) (hi55y : ∀ s9 : List Int, QTT ((σ.2.2.1 52) k0.toNatClampNeg) ((σ.2.2.1 53) k0.toNatClampNeg) s9 → INL s9 (0 : Int32).toInt y113.toInt y114.toInt y115.toInt) (c116 : y114.toInt < r1.toInt) (c120 : ¬ y115.toInt = 0) (hr123y : ∀ s9 : List Int, QTT ((σ.2.2.1 52) k0.toNatClampNeg) ((σ.2.2.1 53) k0.toNatClampNeg) s9 → 0 ≤ y114.toInt → y114.toInt < 17 → r123.toInt = s9.getD y114.toInt.toNat 0) (c124 : 48 ≤ r123.toInt) (c129 : r123.toInt ≤ 57) (ex134 : x134 = (10 : Int32) * y113) (ex135 : x135 = x134 + r123) (ex136 : x136 = x135 - (48 : Int32)) (ex137 : x137 = y114 + (1 : Int32)) (tx137 : x137.toInt = y114.toInt + 1) : ∀ s9 : List Int, QTT ((σ.2.2.1 52) k0.toNatClampNeg) ((σ.2.2.1 53) k0.toNatClampNeg) s9 → INL s9 (0 : Int32).toInt x136.toInt x137.toInt (1 : Int32).toInt := by
  have q0 : (0 : Int32).toInt = 0 := by decide +kernel
  have q1 : (1 : Int32).toInt = 1 := by decide +kernel
  have q10 : (10 : Int32).toInt = 10 := by decide +kernel
  have q48 : (48 : Int32).toInt = 48 := by decide +kernel
  have l_hr1 := LENF_le ((σ.2.2.1 52) k0.toNatClampNeg)
  rw [← hr1] at l_hr1
  intro s9 ht
  have e := q_len ht.1 ht.2.2.1 ht.2.2.2
  rw [← hr1] at e
  have l16 := ht.2.2.1
  have z := hi55y s9 ht
  have g9 := hr123y s9 ht (by omega) (by omega)
  have z1 := z.1
  have vb := z.vb (by omega) (by omega) (by omega)
  have gb := q_gb (i := y114.toInt.toNat) ht.2.2.2
  have w10 : (10 : Int32).toInt = 10 := by decide +kernel
  have w48 : (48 : Int32).toInt = 48 := by decide +kernel
  have a9 : x134.toInt = 10 * y113.toInt := by rw [ex134]; exact z_mulc 10 w10 (by omega) (by omega)
  have b9 : x135.toInt = 10 * y113.toInt + r123.toInt := by rw [ex135, z_add (by omega) (by omega), a9]
  have v9 : x136.toInt = 10 * y113.toInt + (r123.toInt - 48) := by rw [ex136, z_sub (by omega) (by omega)]; omega
  exact z.step (by omega) (by omega) (by omega) (by omega) (by omega) (fun _ => by omega)
-- meas@55 @55
theorem v_intOf_100 (σ : RS) (k0 : Int32) (r1 : Int32) (x84 : Int32) (x111 : Int32) (y114 : Int32) (x137 : Int32) (hpre_0 : 0 ≤ k0.toInt) (hpre_1 : k0.toInt < 980) (hr1 : r1 = LENF ((σ.2.2.1 52) k0.toNatClampNeg)) (c2 : 0 < r1.toInt) (ex84 : x84 = r1 - (0 : Int32)) (tx84 : x84.toInt = r1.toInt - 0) (c85 : 1 ≤ x84.toInt) (ex111 : x111 = r1 - (0 : Int32)) (tx111 : x111.toInt = r1.toInt - 0) (c112 : 9 < x111.toInt) (hi55_0 : 0 ≤ y114.toInt) (hi55_1 : y114.toInt ≤ 130) (c116 : y114.toInt < r1.toInt) (ex137 : x137 = y114 + (1 : Int32)) (tx137 : x137.toInt = y114.toInt + 1) : (130 - x137.toInt).toNat < (130 - y114.toInt).toNat := by
  have q0 : (0 : Int32).toInt = 0 := by decide +kernel
  have q1 : (1 : Int32).toInt = 1 := by decide +kernel
  have l_hr1 := LENF_le ((σ.2.2.1 52) k0.toNatClampNeg)
  rw [← hr1] at l_hr1
  first | assumption | omega | (subst_vars; omega) | trivial
-- init2@55 @55
theorem v_intOf_101 (σ : RS) (k0 : Int32) (r1 : Int32) (r82 : Int32) (x84 : Int32) (x111 : Int32) (hpre_0 : 0 ≤ k0.toInt) (hpre_1 : k0.toInt < 980) (hpre_2 : 0 ≤ (σ.1 56).toInt) (hpre_3 : (σ.1 56).toInt ≤ 11) (hr1 : r1 = LENF ((σ.2.2.1 52) k0.toNatClampNeg)) (c2 : 0 < r1.toInt) (hr82y : ∀ s9 : List Int, QTT ((σ.2.2.1 52) k0.toNatClampNeg) ((σ.2.2.1 53) k0.toNatClampNeg) s9 → 0 ≤ (0 : Int32).toInt → (0 : Int32).toInt < 17 → r82.toInt = s9.getD (0 : Int32).toInt.toNat 0) (c83 : ¬ r82.toInt = 45) (ex84 : x84 = r1 - (0 : Int32)) (tx84 : x84.toInt = r1.toInt - 0) (c85 : 1 ≤ x84.toInt) (ex111 : x111 = r1 - (0 : Int32)) (tx111 : x111.toInt = r1.toInt - 0) (c112 : x111.toInt ≤ 9) : ∀ s9 : List Int, QTT ((σ.2.2.1 52) k0.toNatClampNeg) ((σ.2.2.1 53) k0.toNatClampNeg) s9 → INL s9 (0 : Int32).toInt (0 : Int32).toInt (0 : Int32).toInt (1 : Int32).toInt := by
  have q0 : (0 : Int32).toInt = 0 := by decide +kernel
  have q1 : (1 : Int32).toInt = 1 := by decide +kernel
  have l_hr1 := LENF_le ((σ.2.2.1 52) k0.toNatClampNeg)
  rw [← hr1] at l_hr1
  intro s9 ht
  have e := q_len ht.1 ht.2.2.1 ht.2.2.2
  rw [← hr1] at e
  exact INL.start (by omega) (by omega) (by omega) (by omega)
-- post2 @146
theorem v_intOf_102 (σ : RS) (k0 : Int32) (r1 : Int32) (r82 : Int32) (x84 : Int32) (x111 : Int32) (y138 : Int32) (y139 : Int32) (y140 : Int32) (hpre_0 : 0 ≤ k0.toInt) (hpre_1 : k0.toInt < 980) (hpre_2 : 0 ≤ (σ.1 56).toInt) (hpre_3 : (σ.1 56).toInt ≤ 11) (hr1 : r1 = LENF ((σ.2.2.1 52) k0.toNatClampNeg)) (c2 : 0 < r1.toInt) (hr82y : ∀ s9 : List Int, QTT ((σ.2.2.1 52) k0.toNatClampNeg) ((σ.2.2.1 53) k0.toNatClampNeg) s9 → 0 ≤ (0 : Int32).toInt → (0 : Int32).toInt < 17 → r82.toInt = s9.getD (0 : Int32).toInt.toNat 0) (c83 : ¬ r82.toInt = 45) (ex84 : x84 = r1 - (0 : Int32)) (tx84 : x84.toInt = r1.toInt - 0) (c85 : 1 ≤ x84.toInt) (ex111 : x111 = r1 - (0 : Int32)) (tx111 : x111.toInt = r1.toInt - 0) (c112 : x111.toInt ≤ 9) (hi55_0 : 0 ≤ y139.toInt) (hi55_1 : y139.toInt ≤ 130) (hi55_2 : y140.toInt = 0 ∨ y140.toInt = 1) (hi55y : ∀ s9 : List Int, QTT ((σ.2.2.1 52) k0.toNatClampNeg) ((σ.2.2.1 53) k0.toNatClampNeg) s9 → INL s9 (0 : Int32).toInt y138.toInt y139.toInt y140.toInt) (c141 : r1.toInt ≤ y139.toInt) (c142 : y140.toInt = 0) : ∀ s9 : List Int, QTT ((σ.2.2.1 52) k0.toNatClampNeg) ((σ.2.2.1 53) k0.toNatClampNeg) s9 → QI (qToI s9) y138.toInt (10 : Int32).toInt (σ.1 56).toInt := by
  have q0 : (0 : Int32).toInt = 0 := by decide +kernel
  have q10 : (10 : Int32).toInt = 10 := by decide +kernel
  have l_hr1 := LENF_le ((σ.2.2.1 52) k0.toNatClampNeg)
  rw [← hr1] at l_hr1
  intro s9 ht
  have e := q_len ht.1 ht.2.2.1 ht.2.2.2
  rw [← hr1] at e
  have z := hi55y s9 ht
  have zg := z.2.1
  have g0 := hr82y s9 ht (by omega) (by omega)
  rw [show (0 : Int32).toInt.toNat = 0 by decide +kernel] at g0
  rw [q0] at z
  exact z.fin0 (by first | exact q_head0 (by omega) | (rw [q_head (by omega)]; intro h; have h := Option.some.inj h; omega)) (by omega) (fun _ => rfl) (by omega)
-- post2 @146
theorem v_intOf_103 (σ : RS) (k0 : Int32) (r1 : Int32) (r82 : Int32) (x84 : Int32) (x111 : Int32) (y138 : Int32) (y139 : Int32) (y140 : Int32) (hpre_0 : 0 ≤ k0.toInt) (hpre_1 : k0.toInt < 980) (hpre_2 : 0 ≤ (σ.1 56).toInt) (hpre_3 : (σ.1 56).toInt ≤ 11) (hr1 : r1 = LENF ((σ.2.2.1 52) k0.toNatClampNeg)) (c2 : 0 < r1.toInt) (hr82y : ∀ s9 : List Int, QTT ((σ.2.2.1 52) k0.toNatClampNeg) ((σ.2.2.1 53) k0.toNatClampNeg) s9 → 0 ≤ (0 : Int32).toInt → (0 : Int32).toInt < 17 → r82.toInt = s9.getD (0 : Int32).toInt.toNat 0) (c83 : ¬ r82.toInt = 45) (ex84 : x84 = r1 - (0 : Int32)) (tx84 : x84.toInt = r1.toInt - 0) (c85 : 1 ≤ x84.toInt) (ex111 : x111 = r1 - (0 : Int32)) (tx111 : x111.toInt = r1.toInt - 0) (c112 : x111.toInt ≤ 9) (hi55_0 : 0 ≤ y139.toInt) (hi55_1 : y139.toInt ≤ 130) (hi55_2 : y140.toInt = 0 ∨ y140.toInt = 1) (hi55y : ∀ s9 : List Int, QTT ((σ.2.2.1 52) k0.toNatClampNeg) ((σ.2.2.1 53) k0.toNatClampNeg) s9 → INL s9 (0 : Int32).toInt y138.toInt y139.toInt y140.toInt) (c141 : r1.toInt ≤ y139.toInt) (c142 : ¬ y140.toInt = 0) : ∀ s9 : List Int, QTT ((σ.2.2.1 52) k0.toNatClampNeg) ((σ.2.2.1 53) k0.toNatClampNeg) s9 → QI (qToI s9) y138.toInt (σ.1 56).toInt (σ.1 56).toInt := by
  have q0 : (0 : Int32).toInt = 0 := by decide +kernel
  have l_hr1 := LENF_le ((σ.2.2.1 52) k0.toNatClampNeg)
  rw [← hr1] at l_hr1
  intro s9 ht
  have e := q_len ht.1 ht.2.2.1 ht.2.2.2
  rw [← hr1] at e
  have z := hi55y s9 ht
  have zg := z.2.1
  have g0 := hr82y s9 ht (by omega) (by omega)
  rw [show (0 : Int32).toInt.toNat = 0 by decide +kernel] at g0
  rw [q0] at z
  exact z.fin0 (by first | exact q_head0 (by omega) | (rw [q_head (by omega)]; intro h; have h := Option.some.inj h; omega)) (by omega) (fun _ => rfl) (by omega)
-- post2 @146
theorem v_intOf_104 (σ : RS) (k0 : Int32) (r1 : Int32) (r82 : Int32) (x84 : Int32) (x111 : Int32) (y138 : Int32) (y139 : Int32) (y140 : Int32) (hpre_0 : 0 ≤ k0.toInt) (hpre_1 : k0.toInt < 980) (hpre_2 : 0 ≤ (σ.1 56).toInt) (hpre_3 : (σ.1 56).toInt ≤ 11) (hr1 : r1 = LENF ((σ.2.2.1 52) k0.toNatClampNeg)) (c2 : 0 < r1.toInt) (hr82y : ∀ s9 : List Int, QTT ((σ.2.2.1 52) k0.toNatClampNeg) ((σ.2.2.1 53) k0.toNatClampNeg) s9 → 0 ≤ (0 : Int32).toInt → (0 : Int32).toInt < 17 → r82.toInt = s9.getD (0 : Int32).toInt.toNat 0) (c83 : ¬ r82.toInt = 45) (ex84 : x84 = r1 - (0 : Int32)) (tx84 : x84.toInt = r1.toInt - 0) (c85 : 1 ≤ x84.toInt) (ex111 : x111 = r1 - (0 : Int32)) (tx111 : x111.toInt = r1.toInt - 0) (c112 : x111.toInt ≤ 9) (hi55_0 : 0 ≤ y139.toInt) (hi55_1 : y139.toInt ≤ 130) (hi55_2 : y140.toInt = 0 ∨ y140.toInt = 1) (hi55y : ∀ s9 : List Int, QTT ((σ.2.2.1 52) k0.toNatClampNeg) ((σ.2.2.1 53) k0.toNatClampNeg) s9 → INL s9 (0 : Int32).toInt y138.toInt y139.toInt y140.toInt) (c141 : y139.toInt < r1.toInt) (c145 : y140.toInt = 0) (c146 : y140.toInt = 0) : ∀ s9 : List Int, QTT ((σ.2.2.1 52) k0.toNatClampNeg) ((σ.2.2.1 53) k0.toNatClampNeg) s9 → QI (qToI s9) y138.toInt (10 : Int32).toInt (σ.1 56).toInt := by
  have q0 : (0 : Int32).toInt = 0 := by decide +kernel
  have q10 : (10 : Int32).toInt = 10 := by decide +kernel
  have l_hr1 := LENF_le ((σ.2.2.1 52) k0.toNatClampNeg)
  rw [← hr1] at l_hr1
  intro s9 ht
  have e := q_len ht.1 ht.2.2.1 ht.2.2.2
  rw [← hr1] at e
  have z := hi55y s9 ht
  have zg := z.2.1
  have g0 := hr82y s9 ht (by omega) (by omega)
  rw [show (0 : Int32).toInt.toNat = 0 by decide +kernel] at g0
  rw [q0] at z
  exact z.fin0 (by first | exact q_head0 (by omega) | (rw [q_head (by omega)]; intro h; have h := Option.some.inj h; omega)) (by omega) (fun _ => rfl) (by omega)
-- dead@118 @121
theorem v_intOf_105 (y140 : Int32) (hi55_2 : y140.toInt = 0 ∨ y140.toInt = 1) (c145 : y140.toInt = 0) (c146 : ¬ y140.toInt = 0) : False := by
  first | assumption | omega | (subst_vars; omega) | trivial
-- pre:sign8@70 @70
theorem v_intOf_106 (σ : RS) (k0 : Int32) (r1 : Int32) (x84 : Int32) (x111 : Int32) (y139 : Int32) (hpre_0 : 0 ≤ k0.toInt) (hpre_1 : k0.toInt < 980) (hr1 : r1 = LENF ((σ.2.2.1 52) k0.toNatClampNeg)) (c2 : 0 < r1.toInt) (ex84 : x84 = r1 - (0 : Int32)) (tx84 : x84.toInt = r1.toInt - 0) (c85 : 1 ≤ x84.toInt) (ex111 : x111 = r1 - (0 : Int32)) (tx111 : x111.toInt = r1.toInt - 0) (c112 : x111.toInt ≤ 9) (hi55_0 : 0 ≤ y139.toInt) (hi55_1 : y139.toInt ≤ 130) (c141 : y139.toInt < r1.toInt) : 0 ≤ k0.toInt ∧ k0.toInt < 980 ∧ 0 ≤ y139.toInt ∧ y139.toInt ≤ 200 := by
  have q0 : (0 : Int32).toInt = 0 := by decide +kernel
  have l_hr1 := LENF_le ((σ.2.2.1 52) k0.toNatClampNeg)
  rw [← hr1] at l_hr1
  refine ⟨?_, ?_, ?_, ?_⟩ <;> first | assumption | omega | (subst_vars; omega) | trivial
-- nw@109 @109
theorem v_intOf_107 (σ : RS) (k0 : Int32) (r1 : Int32) (x84 : Int32) (x111 : Int32) (y139 : Int32) (x153 : Int32) (hpre_0 : 0 ≤ k0.toInt) (hpre_1 : k0.toInt < 980) (hr1 : r1 = LENF ((σ.2.2.1 52) k0.toNatClampNeg)) (c2 : 0 < r1.toInt) (ex84 : x84 = r1 - (0 : Int32)) (tx84 : x84.toInt = r1.toInt - 0) (c85 : 1 ≤ x84.toInt) (ex111 : x111 = r1 - (0 : Int32)) (tx111 : x111.toInt = r1.toInt - 0) (c112 : x111.toInt ≤ 9) (hi55_0 : 0 ≤ y139.toInt) (hi55_1 : y139.toInt ≤ 130) (c141 : y139.toInt < r1.toInt) (ex153 : x153 = y139 + (1 : Int32)) : x153.toInt = y139.toInt + 1 := by
  have q0 : (0 : Int32).toInt = 0 := by decide +kernel
  have q1 : (1 : Int32).toInt = 1 := by decide +kernel
  have l_hr1 := LENF_le ((σ.2.2.1 52) k0.toNatClampNeg)
  rw [← hr1] at l_hr1
  have z9 : (1 : Int32).toInt = 1 := by decide +kernel
  rw [ex153, z_add (by omega) (by omega)]; first | done | omega
-- inv@55 @55
theorem v_intOf_108 (σ : RS) (k0 : Int32) (r1 : Int32) (x84 : Int32) (x111 : Int32) (y139 : Int32) (x153 : Int32) (hpre_0 : 0 ≤ k0.toInt) (hpre_1 : k0.toInt < 980) (hr1 : r1 = LENF ((σ.2.2.1 52) k0.toNatClampNeg)) (c2 : 0 < r1.toInt) (ex84 : x84 = r1 - (0 : Int32)) (tx84 : x84.toInt = r1.toInt - 0) (c85 : 1 ≤ x84.toInt) (ex111 : x111 = r1 - (0 : Int32)) (tx111 : x111.toInt = r1.toInt - 0) (c112 : x111.toInt ≤ 9) (hi55_0 : 0 ≤ y139.toInt) (hi55_1 : y139.toInt ≤ 130) (c141 : y139.toInt < r1.toInt) (ex153 : x153 = y139 + (1 : Int32)) (tx153 : x153.toInt = y139.toInt + 1) : 0 ≤ x153.toInt ∧ x153.toInt ≤ 130 ∧ ((0 : Int32).toInt = 0 ∨ (0 : Int32).toInt = 1) := by
  have q0 : (0 : Int32).toInt = 0 := by decide +kernel
  have q1 : (1 : Int32).toInt = 1 := by decide +kernel
  have l_hr1 := LENF_le ((σ.2.2.1 52) k0.toNatClampNeg)
  rw [← hr1] at l_hr1
  refine ⟨?_, ?_, ?_⟩ <;> first | assumption | omega | (subst_vars; omega) | trivial
-- inv2@55 @55
theorem v_intOf_109 (σ : RS) (k0 : Int32) (r1 : Int32) (r82 : Int32) (x84 : Int32) (x111 : Int32) (y138 : Int32) (y139 : Int32) (y140 : Int32) (r148 : Int32) (x150 : Int32) (x151 : Int32) (x152 : Int32) (x153 : Int32) (hpre_0 : 0 ≤ k0.toInt) (hpre_1 : k0.toInt < 980) (hpre_2 : 0 ≤ (σ.1 56).toInt) (hpre_3 : (σ.1 56).toInt ≤ 11) (hr1 : r1 = LENF ((σ.2.2.1 52) k0.toNatClampNeg)) (c2 : 0 < r1.toInt) (hr82y : ∀ s9 : List Int, QTT ((σ.2.2.1 52) k0.toNatClampNeg) ((σ.2.2.1 53) k0.toNatClampNeg) s9 → 0 ≤ (0 : Int32).toInt → (0 : Int32).toInt < 17 → r82.toInt = s9.getD (0 : Int32).toInt.toNat 0) (c83 : ¬ r82.toInt = 45) (ex84 : x84 = r1 - (0 : Int32)) (tx84 : x84.toInt = r1.toInt - 0) (c85 : 1 ≤ x84.toInt) (ex111 : x111 = r1 - (0 : Int32)) (tx111 : x111.toInt = r1.toInt - 0) (c112 : x111.toInt ≤ 9) (hi55_0 : 0 ≤ y139.toInt) (hi55_1 : y139.toInt ≤ 130) (hi55_2 : y140.toInt = 0 ∨ y140.toInt = 1) (hi55y : ∀ s9 : List Int, QTT ((σ.2.2.1 52) k0.toNatClampNeg) ((σ.2.2.1 53) k0.toNatClampNeg) s9 → INL s9 (0 : Int32).toInt y138.toInt y139.toInt y140.toInt) (c141 : y139.toInt < r1.toInt) (c145 : ¬ y140.toInt = 0) (hr148y : ∀ s9 : List Int, QTT ((σ.2.2.1 52) k0.toNatClampNeg) ((σ.2.2.1 53) k0.toNatClampNeg) s9 → 0 ≤ y139.toInt → y139.toInt < 17 → r148.toInt = s9.getD y139.toInt.toNat 0) (c149 : r148.toInt < 48) (ex150 : x150 = (10 : Int32) * y138) (ex151 : x151 = x150 + r148) (ex152 : x152 = x151 - (48 : Int32)) (ex153 : x153 = y139 + (1 : Int32)) (tx153 : x153.toInt = y139.toInt + 1) : ∀ s9 : List Int, QTT ((σ.2.2.1 52) k0.toNatClampNeg) ((σ.2.2.1 53) k0.toNatClampNeg) s9 → INL s9 (0 : Int32).toInt x152.toInt x153.toInt (0 : Int32).toInt := by
  have q0 : (0 : Int32).toInt = 0 := by decide +kernel
  have q1 : (1 : Int32).toInt = 1 := by decide +kernel
  have q10 : (10 : Int32).toInt = 10 := by decide +kernel
  have q48 : (48 : Int32).toInt = 48 := by decide +kernel
  have l_hr1 := LENF_le ((σ.2.2.1 52) k0.toNatClampNeg)
  rw [← hr1] at l_hr1
  intro s9 ht
  have e := q_len ht.1 ht.2.2.1 ht.2.2.2
  rw [← hr1] at e
  have l16 := ht.2.2.1
  have z := hi55y s9 ht
  have g9 := hr148y s9 ht (by omega) (by omega)
  have z1 := z.1
  have vb := z.vb (by omega) (by omega) (by omega)
  have gb := q_gb (i := y139.toInt.toNat) ht.2.2.2
  have w10 : (10 : Int32).toInt = 10 := by decide +kernel
  have w48 : (48 : Int32).toInt = 48 := by decide +kernel
  have a9 : x150.toInt = 10 * y138.toInt := by rw [ex150]; exact z_mulc 10 w10 (by omega) (by omega)
  have b9 : x151.toInt = 10 * y138.toInt + r148.toInt := by rw [ex151, z_add (by omega) (by omega), a9]
  have v9 : x152.toInt = 10 * y138.toInt + (r148.toInt - 48) := by rw [ex152, z_sub (by omega) (by omega)]; omega
  exact z.step (by omega) (by omega) (by omega) (by omega) (by omega) (fun _ => by omega)
-- meas@55 @55
theorem v_intOf_110 (σ : RS) (k0 : Int32) (r1 : Int32) (x84 : Int32) (x111 : Int32) (y139 : Int32) (x153 : Int32) (hpre_0 : 0 ≤ k0.toInt) (hpre_1 : k0.toInt < 980) (hr1 : r1 = LENF ((σ.2.2.1 52) k0.toNatClampNeg)) (c2 : 0 < r1.toInt) (ex84 : x84 = r1 - (0 : Int32)) (tx84 : x84.toInt = r1.toInt - 0) (c85 : 1 ≤ x84.toInt) (ex111 : x111 = r1 - (0 : Int32)) (tx111 : x111.toInt = r1.toInt - 0) (c112 : x111.toInt ≤ 9) (hi55_0 : 0 ≤ y139.toInt) (hi55_1 : y139.toInt ≤ 130) (c141 : y139.toInt < r1.toInt) (ex153 : x153 = y139 + (1 : Int32)) (tx153 : x153.toInt = y139.toInt + 1) : (130 - x153.toInt).toNat < (130 - y139.toInt).toNat := by
  have q0 : (0 : Int32).toInt = 0 := by decide +kernel
  have q1 : (1 : Int32).toInt = 1 := by decide +kernel
  have l_hr1 := LENF_le ((σ.2.2.1 52) k0.toNatClampNeg)
  rw [← hr1] at l_hr1
  first | assumption | omega | (subst_vars; omega) | trivial
-- nw@109 @109
theorem v_intOf_111 (σ : RS) (k0 : Int32) (r1 : Int32) (x84 : Int32) (x111 : Int32) (y139 : Int32) (x158 : Int32) (hpre_0 : 0 ≤ k0.toInt) (hpre_1 : k0.toInt < 980) (hr1 : r1 = LENF ((σ.2.2.1 52) k0.toNatClampNeg)) (c2 : 0 < r1.toInt) (ex84 : x84 = r1 - (0 : Int32)) (tx84 : x84.toInt = r1.toInt - 0) (c85 : 1 ≤ x84.toInt) (ex111 : x111 = r1 - (0 : Int32)) (tx111 : x111.toInt = r1.toInt - 0) (c112 : x111.toInt ≤ 9) (hi55_0 : 0 ≤ y139.toInt) (hi55_1 : y139.toInt ≤ 130) (c141 : y139.toInt < r1.toInt) (ex158 : x158 = y139 + (1 : Int32)) : x158.toInt = y139.toInt + 1 := by
  have q0 : (0 : Int32).toInt = 0 := by decide +kernel
  have q1 : (1 : Int32).toInt = 1 := by decide +kernel
  have l_hr1 := LENF_le ((σ.2.2.1 52) k0.toNatClampNeg)
  rw [← hr1] at l_hr1
  have z9 : (1 : Int32).toInt = 1 := by decide +kernel
  rw [ex158, z_add (by omega) (by omega)]; first | done | omega
-- inv@55 @55
theorem v_intOf_112 (σ : RS) (k0 : Int32) (r1 : Int32) (x84 : Int32) (x111 : Int32) (y139 : Int32) (x158 : Int32) (hpre_0 : 0 ≤ k0.toInt) (hpre_1 : k0.toInt < 980) (hr1 : r1 = LENF ((σ.2.2.1 52) k0.toNatClampNeg)) (c2 : 0 < r1.toInt) (ex84 : x84 = r1 - (0 : Int32)) (tx84 : x84.toInt = r1.toInt - 0) (c85 : 1 ≤ x84.toInt) (ex111 : x111 = r1 - (0 : Int32)) (tx111 : x111.toInt = r1.toInt - 0) (c112 : x111.toInt ≤ 9) (hi55_0 : 0 ≤ y139.toInt) (hi55_1 : y139.toInt ≤ 130) (c141 : y139.toInt < r1.toInt) (ex158 : x158 = y139 + (1 : Int32)) (tx158 : x158.toInt = y139.toInt + 1) : 0 ≤ x158.toInt ∧ x158.toInt ≤ 130 ∧ ((0 : Int32).toInt = 0 ∨ (0 : Int32).toInt = 1) := by
  have q0 : (0 : Int32).toInt = 0 := by decide +kernel
  have q1 : (1 : Int32).toInt = 1 := by decide +kernel
  have l_hr1 := LENF_le ((σ.2.2.1 52) k0.toNatClampNeg)
  rw [← hr1] at l_hr1
  refine ⟨?_, ?_, ?_⟩ <;> first | assumption | omega | (subst_vars; omega) | trivial
-- inv2@55 @55
theorem v_intOf_113 (σ : RS) (k0 : Int32) (r1 : Int32) (r82 : Int32) (x84 : Int32) (x111 : Int32) (y138 : Int32) (y139 : Int32) (y140 : Int32) (r148 : Int32) (x155 : Int32) (x156 : Int32) (x157 : Int32) (x158 : Int32) (hpre_0 : 0 ≤ k0.toInt) (hpre_1 : k0.toInt < 980) (hpre_2 : 0 ≤ (σ.1 56).toInt) (hpre_3 : (σ.1 56).toInt ≤ 11) (hr1 : r1 = LENF ((σ.2.2.1 52) k0.toNatClampNeg)) (c2 : 0 < r1.toInt) (hr82y : ∀ s9 : List Int, QTT ((σ.2.2.1 52) k0.toNatClampNeg) ((σ.2.2.1 53) k0.toNatClampNeg) s9 → 0 ≤ (0 : Int32).toInt → (0 : Int32).toInt < 17 → r82.toInt = s9.getD (0 : Int32).toInt.toNat 0) (c83 : ¬ r82.toInt = 45) (ex84 : x84 = r1 - (0 : Int32)) (tx84 : x84.toInt = r1.toInt - 0) (c85 : 1 ≤ x84.toInt) (ex111 : x111 = r1 - (0 : Int32)) (tx111 : x111.toInt = r1.toInt - 0) (c112 : x111.toInt ≤ 9) (hi55_0 : 0 ≤ y139.toInt) (hi55_1 : y139.toInt ≤ 130) (hi55_2 : y140.toInt = 0 ∨ y140.toInt = 1) (hi55y : ∀ s9 : List Int, QTT ((σ.2.2.1 52) k0.toNatClampNeg) ((σ.2.2.1 53) k0.toNatClampNeg) s9 → INL s9 (0 : Int32).toInt y138.toInt y139.toInt y140.toInt) (c141 : y139.toInt < r1.toInt) (c145 : ¬ y140.toInt = 0) (hr148y : ∀ s9 : List Int, QTT ((σ.2.2.1 52) k0.toNatClampNeg) ((σ.2.2.1 53) k0.toNatClampNeg) s9 → 0 ≤ y139.toInt → y139.toInt < 17 → r148.toInt = s9.getD y139.toInt.toNat 0) (c149 : 48 ≤ r148.toInt) (c154 : 57 < r148.toInt) (ex155 : x155 = (10 : Int32) * y138) (ex156 : x156 = x155 + r148) (ex157 : x157 = x156 - (48 : Int32)) (ex158 : x158 = y139 + (1 : Int32)) (tx158 : x158.toInt = y139.toInt + 1) : ∀ s9 : List Int, QTT ((σ.2.2.1 52) k0.toNatClampNeg) ((σ.2.2.1 53) k0.toNatClampNeg) s9 → INL s9 (0 : Int32).toInt x157.toInt x158.toInt (0 : Int32).toInt := by
  have q0 : (0 : Int32).toInt = 0 := by decide +kernel
  have q1 : (1 : Int32).toInt = 1 := by decide +kernel
  have q10 : (10 : Int32).toInt = 10 := by decide +kernel
  have q48 : (48 : Int32).toInt = 48 := by decide +kernel
  have l_hr1 := LENF_le ((σ.2.2.1 52) k0.toNatClampNeg)
  rw [← hr1] at l_hr1
  intro s9 ht
  have e := q_len ht.1 ht.2.2.1 ht.2.2.2
  rw [← hr1] at e
  have l16 := ht.2.2.1
  have z := hi55y s9 ht
  have g9 := hr148y s9 ht (by omega) (by omega)
  have z1 := z.1
  have vb := z.vb (by omega) (by omega) (by omega)
  have gb := q_gb (i := y139.toInt.toNat) ht.2.2.2
  have w10 : (10 : Int32).toInt = 10 := by decide +kernel
  have w48 : (48 : Int32).toInt = 48 := by decide +kernel
  have a9 : x155.toInt = 10 * y138.toInt := by rw [ex155]; exact z_mulc 10 w10 (by omega) (by omega)
  have b9 : x156.toInt = 10 * y138.toInt + r148.toInt := by rw [ex156, z_add (by omega) (by omega), a9]
  have v9 : x157.toInt = 10 * y138.toInt + (r148.toInt - 48) := by rw [ex157, z_sub (by omega) (by omega)]; omega
  exact z.step (by omega) (by omega) (by omega) (by omega) (by omega) (fun _ => by omega)
-- meas@55 @55
theorem v_intOf_114 (σ : RS) (k0 : Int32) (r1 : Int32) (x84 : Int32) (x111 : Int32) (y139 : Int32) (x158 : Int32) (hpre_0 : 0 ≤ k0.toInt) (hpre_1 : k0.toInt < 980) (hr1 : r1 = LENF ((σ.2.2.1 52) k0.toNatClampNeg)) (c2 : 0 < r1.toInt) (ex84 : x84 = r1 - (0 : Int32)) (tx84 : x84.toInt = r1.toInt - 0) (c85 : 1 ≤ x84.toInt) (ex111 : x111 = r1 - (0 : Int32)) (tx111 : x111.toInt = r1.toInt - 0) (c112 : x111.toInt ≤ 9) (hi55_0 : 0 ≤ y139.toInt) (hi55_1 : y139.toInt ≤ 130) (c141 : y139.toInt < r1.toInt) (ex158 : x158 = y139 + (1 : Int32)) (tx158 : x158.toInt = y139.toInt + 1) : (130 - x158.toInt).toNat < (130 - y139.toInt).toNat := by
  have q0 : (0 : Int32).toInt = 0 := by decide +kernel
  have q1 : (1 : Int32).toInt = 1 := by decide +kernel
  have l_hr1 := LENF_le ((σ.2.2.1 52) k0.toNatClampNeg)
  rw [← hr1] at l_hr1
  first | assumption | omega | (subst_vars; omega) | trivial
-- nw@109 @109
theorem v_intOf_115 (σ : RS) (k0 : Int32) (r1 : Int32) (x84 : Int32) (x111 : Int32) (y139 : Int32) (x162 : Int32) (hpre_0 : 0 ≤ k0.toInt) (hpre_1 : k0.toInt < 980) (hr1 : r1 = LENF ((σ.2.2.1 52) k0.toNatClampNeg)) (c2 : 0 < r1.toInt) (ex84 : x84 = r1 - (0 : Int32)) (tx84 : x84.toInt = r1.toInt - 0) (c85 : 1 ≤ x84.toInt) (ex111 : x111 = r1 - (0 : Int32)) (tx111 : x111.toInt = r1.toInt - 0) (c112 : x111.toInt ≤ 9) (hi55_0 : 0 ≤ y139.toInt) (hi55_1 : y139.toInt ≤ 130) (c141 : y139.toInt < r1.toInt) (ex162 : x162 = y139 + (1 : Int32)) : x162.toInt = y139.toInt + 1 := by
  have q0 : (0 : Int32).toInt = 0 := by decide +kernel
  have q1 : (1 : Int32).toInt = 1 := by decide +kernel
  have l_hr1 := LENF_le ((σ.2.2.1 52) k0.toNatClampNeg)
  rw [← hr1] at l_hr1
  have z9 : (1 : Int32).toInt = 1 := by decide +kernel
  rw [ex162, z_add (by omega) (by omega)]; first | done | omega
-- inv@55 @55
theorem v_intOf_116 (σ : RS) (k0 : Int32) (r1 : Int32) (x84 : Int32) (x111 : Int32) (y139 : Int32) (x162 : Int32) (hpre_0 : 0 ≤ k0.toInt) (hpre_1 : k0.toInt < 980) (hr1 : r1 = LENF ((σ.2.2.1 52) k0.toNatClampNeg)) (c2 : 0 < r1.toInt) (ex84 : x84 = r1 - (0 : Int32)) (tx84 : x84.toInt = r1.toInt - 0) (c85 : 1 ≤ x84.toInt) (ex111 : x111 = r1 - (0 : Int32)) (tx111 : x111.toInt = r1.toInt - 0) (c112 : x111.toInt ≤ 9) (hi55_0 : 0 ≤ y139.toInt) (hi55_1 : y139.toInt ≤ 130) (c141 : y139.toInt < r1.toInt) (ex162 : x162 = y139 + (1 : Int32)) (tx162 : x162.toInt = y139.toInt + 1) : 0 ≤ x162.toInt ∧ x162.toInt ≤ 130 ∧ ((1 : Int32).toInt = 0 ∨ (1 : Int32).toInt = 1) := by
  have q0 : (0 : Int32).toInt = 0 := by decide +kernel
  have q1 : (1 : Int32).toInt = 1 := by decide +kernel
  have l_hr1 := LENF_le ((σ.2.2.1 52) k0.toNatClampNeg)
  rw [← hr1] at l_hr1
  refine ⟨?_, ?_, ?_⟩ <;> first | assumption | omega | (subst_vars; omega) | trivial
-- inv2@55 @55
theorem v_intOf_117 (σ : RS) (k0 : Int32) (r1 : Int32) (r82 : Int32) (x84 : Int32) (x111 : Int32) (y138 : Int32) (y139 : Int32) (y140 : Int32) (r148 : Int32) (x159 : Int32) (x160 : Int32) (x161 : Int32) (x162 : Int32) (hpre_0 : 0 ≤ k0.toInt) (hpre_1 : k0.toInt < 980) (hpre_2 : 0 ≤ (σ.1 56).toInt) (hpre_3 : (σ.1 56).toInt ≤ 11) (hr1 : r1 = LENF ((σ.2.2.1 52) k0.toNatClampNeg)) (c2 : 0 < r1.toInt) (hr82y : ∀ s9 : List Int, QTT ((σ.2.2.1 52) k0.toNatClampNeg) ((σ.2.2.1 53) k0.toNatClampNeg) s9 → 0 ≤ (0 : Int32).toInt → (0 : Int32).toInt < 17 → r82.toInt = s9.getD (0 : Int32).toInt.toNat 0) (c83 : ¬ r82.toInt = 45) (ex84 : x84 = r1 - (0 : Int32)) (tx84 : x84.toInt = r1.toInt - 0) (c85 : 1 ≤ x84.toInt) (ex111 : x111 = r1 - (0 : Int32)) (tx111 : x111.toInt = r1.toInt - 0) (c112 : x111.toInt ≤ 9) (hi55_0 : 0 ≤ y139.toInt) (hi55_1 : y139.toInt ≤ 130) (hi55_2 : y140.toInt = 0 ∨ y140.toInt = 1) (hi55y : ∀ s9 : List Int, QTT ((σ.2.2.1 52) k0.toNatClampNeg) ((σ.2.2.1 53) k0.toNatClampNeg) s9 → INL s9 (0 : Int32).toInt y138.toInt y139.toInt y140.toInt) (c141 : y139.toInt < r1.toInt) (c145 : ¬ y140.toInt = 0) (hr148y : ∀ s9 : List Int, QTT ((σ.2.2.1 52) k0.toNatClampNeg) ((σ.2.2.1 53) k0.toNatClampNeg) s9 → 0 ≤ y139.toInt → y139.toInt < 17 → r148.toInt = s9.getD y139.toInt.toNat 0) (c149 : 48 ≤ r148.toInt) (c154 : r148.toInt ≤ 57) (ex159 : x159 = (10 : Int32) * y138) (ex160 : x160 = x159 + r148) (ex161 : x161 = x160 - (48 : Int32)) (ex162 : x162 = y139 + (1 : Int32)) (tx162 : x162.toInt = y139.toInt + 1) : ∀ s9 : List Int, QTT ((σ.2.2.1 52) k0.toNatClampNeg) ((σ.2.2.1 53) k0.toNatClampNeg) s9 → INL s9 (0 : Int32).toInt x161.toInt x162.toInt (1 : Int32).toInt := by
  have q0 : (0 : Int32).toInt = 0 := by decide +kernel
  have q1 : (1 : Int32).toInt = 1 := by decide +kernel
  have q10 : (10 : Int32).toInt = 10 := by decide +kernel
  have q48 : (48 : Int32).toInt = 48 := by decide +kernel
  have l_hr1 := LENF_le ((σ.2.2.1 52) k0.toNatClampNeg)
  rw [← hr1] at l_hr1
  intro s9 ht
  have e := q_len ht.1 ht.2.2.1 ht.2.2.2
  rw [← hr1] at e
  have l16 := ht.2.2.1
  have z := hi55y s9 ht
  have g9 := hr148y s9 ht (by omega) (by omega)
  have z1 := z.1
  have vb := z.vb (by omega) (by omega) (by omega)
  have gb := q_gb (i := y139.toInt.toNat) ht.2.2.2
  have w10 : (10 : Int32).toInt = 10 := by decide +kernel
  have w48 : (48 : Int32).toInt = 48 := by decide +kernel
  have a9 : x159.toInt = 10 * y138.toInt := by rw [ex159]; exact z_mulc 10 w10 (by omega) (by omega)
  have b9 : x160.toInt = 10 * y138.toInt + r148.toInt := by rw [ex160, z_add (by omega) (by omega), a9]
  have v9 : x161.toInt = 10 * y138.toInt + (r148.toInt - 48) := by rw [ex161, z_sub (by omega) (by omega)]; omega
  exact z.step (by omega) (by omega) (by omega) (by omega) (by omega) (fun _ => by omega)
-- meas@55 @55
theorem v_intOf_118 (σ : RS) (k0 : Int32) (r1 : Int32) (x84 : Int32) (x111 : Int32) (y139 : Int32) (x162 : Int32) (hpre_0 : 0 ≤ k0.toInt) (hpre_1 : k0.toInt < 980) (hr1 : r1 = LENF ((σ.2.2.1 52) k0.toNatClampNeg)) (c2 : 0 < r1.toInt) (ex84 : x84 = r1 - (0 : Int32)) (tx84 : x84.toInt = r1.toInt - 0) (c85 : 1 ≤ x84.toInt) (ex111 : x111 = r1 - (0 : Int32)) (tx111 : x111.toInt = r1.toInt - 0) (c112 : x111.toInt ≤ 9) (hi55_0 : 0 ≤ y139.toInt) (hi55_1 : y139.toInt ≤ 130) (c141 : y139.toInt < r1.toInt) (ex162 : x162 = y139 + (1 : Int32)) (tx162 : x162.toInt = y139.toInt + 1) : (130 - x162.toInt).toNat < (130 - y139.toInt).toNat := by
  have q0 : (0 : Int32).toInt = 0 := by decide +kernel
  have q1 : (1 : Int32).toInt = 1 := by decide +kernel
  have l_hr1 := LENF_le ((σ.2.2.1 52) k0.toNatClampNeg)
  rw [← hr1] at l_hr1
  first | assumption | omega | (subst_vars; omega) | trivial
-- nw@29 @29
theorem v_intOf_119 (σ : RS) (k0 : Int32) (r1 : Int32) (x163 : Int32) (hpre_0 : 0 ≤ k0.toInt) (hpre_1 : k0.toInt < 980) (hr1 : r1 = LENF ((σ.2.2.1 52) k0.toNatClampNeg)) (c2 : 0 < r1.toInt) (ex163 : x163 = r1 - (1 : Int32)) : x163.toInt = r1.toInt - 1 := by
  have q1 : (1 : Int32).toInt = 1 := by decide +kernel
  have l_hr1 := LENF_le ((σ.2.2.1 52) k0.toNatClampNeg)
  rw [← hr1] at l_hr1
  have w1 : (1 : Int32).toInt = 1 := by decide +kernel
  rw [ex163, z_sub (by omega) (by omega)]; first | done | omega
-- init@55 @55
theorem v_intOf_120   : 0 ≤ (1 : Int32).toInt ∧ (1 : Int32).toInt ≤ 130 ∧ ((0 : Int32).toInt = 0 ∨ (0 : Int32).toInt = 1) := by
  have q0 : (0 : Int32).toInt = 0 := by decide +kernel
  have q1 : (1 : Int32).toInt = 1 := by decide +kernel
  refine ⟨?_, ?_, ?_⟩ <;> first | assumption | omega | (subst_vars; omega) | trivial
-- init2@55 @55
theorem v_intOf_121 (σ : RS) (k0 : Int32) (r1 : Int32) (r82 : Int32) (x163 : Int32) (hpre_0 : 0 ≤ k0.toInt) (hpre_1 : k0.toInt < 980) (hpre_2 : 0 ≤ (σ.1 56).toInt) (hpre_3 : (σ.1 56).toInt ≤ 11) (hr1 : r1 = LENF ((σ.2.2.1 52) k0.toNatClampNeg)) (c2 : 0 < r1.toInt) (hr82y : ∀ s9 : List Int, QTT ((σ.2.2.1 52) k0.toNatClampNeg) ((σ.2.2.1 53) k0.toNatClampNeg) s9 → 0 ≤ (0 : Int32).toInt → (0 : Int32).toInt < 17 → r82.toInt = s9.getD (0 : Int32).toInt.toNat 0) (c83 : r82.toInt = 45) (ex163 : x163 = r1 - (1 : Int32)) (tx163 : x163.toInt = r1.toInt - 1) (c164 : x163.toInt < 1) : ∀ s9 : List Int, QTT ((σ.2.2.1 52) k0.toNatClampNeg) ((σ.2.2.1 53) k0.toNatClampNeg) s9 → INL s9 (1 : Int32).toInt (0 : Int32).toInt (1 : Int32).toInt (0 : Int32).toInt := by
  have q0 : (0 : Int32).toInt = 0 := by decide +kernel
  have q1 : (1 : Int32).toInt = 1 := by decide +kernel
  have l_hr1 := LENF_le ((σ.2.2.1 52) k0.toNatClampNeg)
  rw [← hr1] at l_hr1
  intro s9 ht
  have e := q_len ht.1 ht.2.2.1 ht.2.2.2
  rw [← hr1] at e
  exact INL.start (by omega) (by omega) (by omega) (by omega)
-- post2 @146
theorem v_intOf_122 (σ : RS) (k0 : Int32) (r1 : Int32) (r82 : Int32) (x163 : Int32) (y165 : Int32) (y166 : Int32) (y167 : Int32) (x171 : Int32) (hpre_0 : 0 ≤ k0.toInt) (hpre_1 : k0.toInt < 980) (hpre_2 : 0 ≤ (σ.1 56).toInt) (hpre_3 : (σ.1 56).toInt ≤ 11) (hr1 : r1 = LENF ((σ.2.2.1 52) k0.toNatClampNeg)) (c2 : 0 < r1.toInt) (hr82y : ∀ s9 : List Int, QTT ((σ.2.2.1 52) k0.toNatClampNeg) ((σ.2.2.1 53) k0.toNatClampNeg) s9 → 0 ≤ (0 : Int32).toInt → (0 : Int32).toInt < 17 → r82.toInt = s9.getD (0 : Int32).toInt.toNat 0) (c83 : r82.toInt = 45) (ex163 : x163 = r1 - (1 : Int32)) (tx163 : x163.toInt = r1.toInt - 1) (c164 : x163.toInt < 1) (hi55_0 : 0 ≤ y166.toInt) (hi55_1 : y166.toInt ≤ 130) (hi55_2 : y167.toInt = 0 ∨ y167.toInt = 1) (hi55y : ∀ s9 : List Int, QTT ((σ.2.2.1 52) k0.toNatClampNeg) ((σ.2.2.1 53) k0.toNatClampNeg) s9 → INL s9 (1 : Int32).toInt y165.toInt y166.toInt y167.toInt) (c168 : r1.toInt ≤ y166.toInt) (c169 : y167.toInt = 0) (ex171 : x171 = -y165) : ∀ s9 : List Int, QTT ((σ.2.2.1 52) k0.toNatClampNeg) ((σ.2.2.1 53) k0.toNatClampNeg) s9 → QI (qToI s9) x171.toInt (10 : Int32).toInt (σ.1 56).toInt := by
  have q0 : (0 : Int32).toInt = 0 := by decide +kernel
  have q1 : (1 : Int32).toInt = 1 := by decide +kernel
  have q10 : (10 : Int32).toInt = 10 := by decide +kernel
  have l_hr1 := LENF_le ((σ.2.2.1 52) k0.toNatClampNeg)
  rw [← hr1] at l_hr1
  intro s9 ht
  have e := q_len ht.1 ht.2.2.1 ht.2.2.2
  rw [← hr1] at e
  have z := hi55y s9 ht
  have zg := z.2.1
  have g0 := hr82y s9 ht (by omega) (by omega)
  rw [show (0 : Int32).toInt.toNat = 0 by decide +kernel] at g0
  rw [q1] at z
  exact z.fin1 (by rw [q_head (by omega)]; exact congrArg some (by omega)) (by omega) (fun h9 => by have vb := z.vb9 (by decide) (by omega); first | (rw [ex171, q_ng (by omega)]) | omega) (by omega)
-- post2 @146
theorem v_intOf_123 (σ : RS) (k0 : Int32) (r1 : Int32) (r82 : Int32) (x163 : Int32) (y165 : Int32) (y166 : Int32) (y167 : Int32) (x173 : Int32) (hpre_0 : 0 ≤ k0.toInt) (hpre_1 : k0.toInt < 980) (hpre_2 : 0 ≤ (σ.1 56).toInt) (hpre_3 : (σ.1 56).toInt ≤ 11) (hr1 : r1 = LENF ((σ.2.2.1 52) k0.toNatClampNeg)) (c2 : 0 < r1.toInt) (hr82y : ∀ s9 : List Int, QTT ((σ.2.2.1 52) k0.toNatClampNeg) ((σ.2.2.1 53) k0.toNatClampNeg) s9 → 0 ≤ (0 : Int32).toInt → (0 : Int32).toInt < 17 → r82.toInt = s9.getD (0 : Int32).toInt.toNat 0) (c83 : r82.toInt = 45) (ex163 : x163 = r1 - (1 : Int32)) (tx163 : x163.toInt = r1.toInt - 1) (c164 : x163.toInt < 1) (hi55_0 : 0 ≤ y166.toInt) (hi55_1 : y166.toInt ≤ 130) (hi55_2 : y167.toInt = 0 ∨ y167.toInt = 1) (hi55y : ∀ s9 : List Int, QTT ((σ.2.2.1 52) k0.toNatClampNeg) ((σ.2.2.1 53) k0.toNatClampNeg) s9 → INL s9 (1 : Int32).toInt y165.toInt y166.toInt y167.toInt) (c168 : r1.toInt ≤ y166.toInt) (c169 : ¬ y167.toInt = 0) (ex173 : x173 = -y165) : ∀ s9 : List Int, QTT ((σ.2.2.1 52) k0.toNatClampNeg) ((σ.2.2.1 53) k0.toNatClampNeg) s9 → QI (qToI s9) x173.toInt (σ.1 56).toInt (σ.1 56).toInt := by
  have q0 : (0 : Int32).toInt = 0 := by decide +kernel
  have q1 : (1 : Int32).toInt = 1 := by decide +kernel
  have l_hr1 := LENF_le ((σ.2.2.1 52) k0.toNatClampNeg)
  rw [← hr1] at l_hr1
  intro s9 ht
  have e := q_len ht.1 ht.2.2.1 ht.2.2.2
  rw [← hr1] at e
  have z := hi55y s9 ht
  have zg := z.2.1
  have g0 := hr82y s9 ht (by omega) (by omega)
  rw [show (0 : Int32).toInt.toNat = 0 by decide +kernel] at g0
  rw [q1] at z
  exact z.fin1 (by rw [q_head (by omega)]; exact congrArg some (by omega)) (by omega) (fun h9 => by have vb := z.vb9 (by decide) (by omega); first | (rw [ex173, q_ng (by omega)]) | omega) (by omega)
-- post2 @146
theorem v_intOf_124 (σ : RS) (k0 : Int32) (r1 : Int32) (r82 : Int32) (x163 : Int32) (y165 : Int32) (y166 : Int32) (y167 : Int32) (x177 : Int32) (hpre_0 : 0 ≤ k0.toInt) (hpre_1 : k0.toInt < 980) (hpre_2 : 0 ≤ (σ.1 56).toInt) (hpre_3 : (σ.1 56).toInt ≤ 11) (hr1 : r1 = LENF ((σ.2.2.1 52) k0.toNatClampNeg)) (c2 : 0 < r1.toInt) (hr82y : ∀ s9 : List Int, QTT ((σ.2.2.1 52) k0.toNatClampNeg) ((σ.2.2.1 53) k0.toNatClampNeg) s9 → 0 ≤ (0 : Int32).toInt → (0 : Int32).toInt < 17 → r82.toInt = s9.getD (0 : Int32).toInt.toNat 0) (c83 : r82.toInt = 45) (ex163 : x163 = r1 - (1 : Int32)) (tx163 : x163.toInt = r1.toInt - 1) (c164 : x163.toInt < 1) (hi55_0 : 0 ≤ y166.toInt) (hi55_1 : y166.toInt ≤ 130) (hi55_2 : y167.toInt = 0 ∨ y167.toInt = 1) (hi55y : ∀ s9 : List Int, QTT ((σ.2.2.1 52) k0.toNatClampNeg) ((σ.2.2.1 53) k0.toNatClampNeg) s9 → INL s9 (1 : Int32).toInt y165.toInt y166.toInt y167.toInt) (c168 : y166.toInt < r1.toInt) (c174 : y167.toInt = 0) (c175 : y167.toInt = 0) (ex177 : x177 = -y165) : ∀ s9 : List Int, QTT ((σ.2.2.1 52) k0.toNatClampNeg) ((σ.2.2.1 53) k0.toNatClampNeg) s9 → QI (qToI s9) x177.toInt (10 : Int32).toInt (σ.1 56).toInt := by
  have q0 : (0 : Int32).toInt = 0 := by decide +kernel
  have q1 : (1 : Int32).toInt = 1 := by decide +kernel
  have q10 : (10 : Int32).toInt = 10 := by decide +kernel
  have l_hr1 := LENF_le ((σ.2.2.1 52) k0.toNatClampNeg)
  rw [← hr1] at l_hr1
  intro s9 ht
  have e := q_len ht.1 ht.2.2.1 ht.2.2.2
  rw [← hr1] at e
  have z := hi55y s9 ht
  have zg := z.2.1
  have g0 := hr82y s9 ht (by omega) (by omega)
  rw [show (0 : Int32).toInt.toNat = 0 by decide +kernel] at g0
  rw [q1] at z
  exact z.fin1 (by rw [q_head (by omega)]; exact congrArg some (by omega)) (by omega) (fun h9 => by have vb := z.vb9 (by decide) (by omega); first | (rw [ex177, q_ng (by omega)]) | omega) (by omega)
-- dead@118 @121
theorem v_intOf_125 (y167 : Int32) (hi55_2 : y167.toInt = 0 ∨ y167.toInt = 1) (c174 : y167.toInt = 0) (c175 : ¬ y167.toInt = 0) : False := by
  first | assumption | omega | (subst_vars; omega) | trivial
-- pre:sign8@70 @70
theorem v_intOf_126 (σ : RS) (k0 : Int32) (r1 : Int32) (x163 : Int32) (y166 : Int32) (hpre_0 : 0 ≤ k0.toInt) (hpre_1 : k0.toInt < 980) (hr1 : r1 = LENF ((σ.2.2.1 52) k0.toNatClampNeg)) (c2 : 0 < r1.toInt) (ex163 : x163 = r1 - (1 : Int32)) (tx163 : x163.toInt = r1.toInt - 1) (c164 : x163.toInt < 1) (hi55_0 : 0 ≤ y166.toInt) (hi55_1 : y166.toInt ≤ 130) (c168 : y166.toInt < r1.toInt) : 0 ≤ k0.toInt ∧ k0.toInt < 980 ∧ 0 ≤ y166.toInt ∧ y166.toInt ≤ 200 := by
  have q1 : (1 : Int32).toInt = 1 := by decide +kernel
  have l_hr1 := LENF_le ((σ.2.2.1 52) k0.toNatClampNeg)
  rw [← hr1] at l_hr1
  refine ⟨?_, ?_, ?_, ?_⟩ <;> first | assumption | omega | (subst_vars; omega) | trivial
-- nw@109 @109
theorem v_intOf_127 (σ : RS) (k0 : Int32) (r1 : Int32) (x163 : Int32) (y166 : Int32) (x183 : Int32) (hpre_0 : 0 ≤ k0.toInt) (hpre_1 : k0.toInt < 980) (hr1 : r1 = LENF ((σ.2.2.1 52) k0.toNatClampNeg)) (c2 : 0 < r1.toInt) (ex163 : x163 = r1 - (1 : Int32)) (tx163 : x163.toInt = r1.toInt - 1) (c164 : x163.toInt < 1) (hi55_0 : 0 ≤ y166.toInt) (hi55_1 : y166.toInt ≤ 130) (c168 : y166.toInt < r1.toInt) (ex183 : x183 = y166 + (1 : Int32)) : x183.toInt = y166.toInt + 1 := by
  have q1 : (1 : Int32).toInt = 1 := by decide +kernel
  have l_hr1 := LENF_le ((σ.2.2.1 52) k0.toNatClampNeg)
  rw [← hr1] at l_hr1
  have z9 : (1 : Int32).toInt = 1 := by decide +kernel
  rw [ex183, z_add (by omega) (by omega)]; first | done | omega
-- inv@55 @55
theorem v_intOf_128 (σ : RS) (k0 : Int32) (r1 : Int32) (x163 : Int32) (y166 : Int32) (x183 : Int32) (hpre_0 : 0 ≤ k0.toInt) (hpre_1 : k0.toInt < 980) (hr1 : r1 = LENF ((σ.2.2.1 52) k0.toNatClampNeg)) (c2 : 0 < r1.toInt) (ex163 : x163 = r1 - (1 : Int32)) (tx163 : x163.toInt = r1.toInt - 1) (c164 : x163.toInt < 1) (hi55_0 : 0 ≤ y166.toInt) (hi55_1 : y166.toInt ≤ 130) (c168 : y166.toInt < r1.toInt) (ex183 : x183 = y166 + (1 : Int32)) (tx183 : x183.toInt = y166.toInt + 1) : 0 ≤ x183.toInt ∧ x183.toInt ≤ 130 ∧ ((0 : Int32).toInt = 0 ∨ (0 : Int32).toInt = 1) := by
  have q0 : (0 : Int32).toInt = 0 := by decide +kernel
  have q1 : (1 : Int32).toInt = 1 := by decide +kernel
  have l_hr1 := LENF_le ((σ.2.2.1 52) k0.toNatClampNeg)
  rw [← hr1] at l_hr1
  refine ⟨?_, ?_, ?_⟩ <;> first | assumption | omega | (subst_vars; omega) | trivial
-- inv2@55 @55
theorem v_intOf_129 (σ : RS) (k0 : Int32) (r1 : Int32) (r82 : Int32) (x163 : Int32) (y165 : Int32) (y166 : Int32) (y167 : Int32) (r178 : Int32) (x180 : Int32) (x181 : Int32) (x182 : Int32) (x183 : Int32) (hpre_0 : 0 ≤ k0.toInt) (hpre_1 : k0.toInt < 980) (hpre_2 : 0 ≤ (σ.1 56).toInt) (hpre_3 : (σ.1 56).toInt ≤ 11) (hr1 : r1 = LENF ((σ.2.2.1 52) k0.toNatClampNeg)) (c2 : 0 < r1.toInt) (hr82y : ∀ s9 : List Int, QTT ((σ.2.2.1 52) k0.toNatClampNeg) ((σ.2.2.1 53) k0.toNatClampNeg) s9 → 0 ≤ (0 : Int32).toInt → (0 : Int32).toInt < 17 → r82.toInt = s9.getD (0 : Int32).toInt.toNat 0) (c83 : r82.toInt = 45) (ex163 : x163 = r1 - (1 : Int32)) (tx163 : x163.toInt = r1.toInt - 1) (c164 : x163.toInt < 1) (hi55_0 : 0 ≤ y166.toInt) (hi55_1 : y166.toInt ≤ 130) (hi55_2 : y167.toInt = 0 ∨ y167.toInt = 1) (hi55y : ∀ s9 : List Int, QTT ((σ.2.2.1 52) k0.toNatClampNeg) ((σ.2.2.1 53) k0.toNatClampNeg) s9 → INL s9 (1 : Int32).toInt y165.toInt y166.toInt y167.toInt) (c168 : y166.toInt < r1.toInt) (c174 : ¬ y167.toInt = 0) (hr178y : ∀ s9 : List Int, QTT ((σ.2.2.1 52) k0.toNatClampNeg) ((σ.2.2.1 53) k0.toNatClampNeg) s9 → 0 ≤ y166.toInt → y166.toInt < 17 → r178.toInt = s9.getD y166.toInt.toNat 0) (c179 : r178.toInt < 48) (ex180 : x180 = (10 : Int32) * y165) (ex181 : x181 = x180 + r178) (ex182 : x182 = x181 - (48 : Int32)) (ex183 : x183 = y166 + (1 : Int32)) (tx183 : x183.toInt = y166.toInt + 1) : ∀ s9 : List Int, QTT ((σ.2.2.1 52) k0.toNatClampNeg) ((σ.2.2.1 53) k0.toNatClampNeg) s9 → INL s9 (1 : Int32).toInt x182.toInt x183.toInt (0 : Int32).toInt := by
  have q0 : (0 : Int32).toInt = 0 := by decide +kernel
  have q1 : (1 : Int32).toInt = 1 := by decide +kernel
  have q10 : (10 : Int32).toInt = 10 := by decide +kernel
  have q48 : (48 : Int32).toInt = 48 := by decide +kernel
  have l_hr1 := LENF_le ((σ.2.2.1 52) k0.toNatClampNeg)
  rw [← hr1] at l_hr1
  intro s9 ht
  have e := q_len ht.1 ht.2.2.1 ht.2.2.2
  rw [← hr1] at e
  have l16 := ht.2.2.1
  have z := hi55y s9 ht
  have g9 := hr178y s9 ht (by omega) (by omega)
  have z1 := z.1
  have vb := z.vb (by omega) (by omega) (by omega)
  have gb := q_gb (i := y166.toInt.toNat) ht.2.2.2
  have w10 : (10 : Int32).toInt = 10 := by decide +kernel
  have w48 : (48 : Int32).toInt = 48 := by decide +kernel
  have a9 : x180.toInt = 10 * y165.toInt := by rw [ex180]; exact z_mulc 10 w10 (by omega) (by omega)
  have b9 : x181.toInt = 10 * y165.toInt + r178.toInt := by rw [ex181, z_add (by omega) (by omega), a9]
  have v9 : x182.toInt = 10 * y165.toInt + (r178.toInt - 48) := by rw [ex182, z_sub (by omega) (by omega)]; omega
  exact z.step (by omega) (by omega) (by omega) (by omega) (by omega) (fun _ => by omega)
-- meas@55 @55
theorem v_intOf_130 (σ : RS) (k0 : Int32) (r1 : Int32) (x163 : Int32) (y166 : Int32) (x183 : Int32) (hpre_0 : 0 ≤ k0.toInt) (hpre_1 : k0.toInt < 980) (hr1 : r1 = LENF ((σ.2.2.1 52) k0.toNatClampNeg)) (c2 : 0 < r1.toInt) (ex163 : x163 = r1 - (1 : Int32)) (tx163 : x163.toInt = r1.toInt - 1) (c164 : x163.toInt < 1) (hi55_0 : 0 ≤ y166.toInt) (hi55_1 : y166.toInt ≤ 130) (c168 : y166.toInt < r1.toInt) (ex183 : x183 = y166 + (1 : Int32)) (tx183 : x183.toInt = y166.toInt + 1) : (130 - x183.toInt).toNat < (130 - y166.toInt).toNat := by
  have q1 : (1 : Int32).toInt = 1 := by decide +kernel
  have l_hr1 := LENF_le ((σ.2.2.1 52) k0.toNatClampNeg)
  rw [← hr1] at l_hr1
  first | assumption | omega | (subst_vars; omega) | trivial
-- nw@109 @109
theorem v_intOf_131 (σ : RS) (k0 : Int32) (r1 : Int32) (x163 : Int32) (y166 : Int32) (x188 : Int32) (hpre_0 : 0 ≤ k0.toInt) (hpre_1 : k0.toInt < 980) (hr1 : r1 = LENF ((σ.2.2.1 52) k0.toNatClampNeg)) (c2 : 0 < r1.toInt) (ex163 : x163 = r1 - (1 : Int32)) (tx163 : x163.toInt = r1.toInt - 1) (c164 : x163.toInt < 1) (hi55_0 : 0 ≤ y166.toInt) (hi55_1 : y166.toInt ≤ 130) (c168 : y166.toInt < r1.toInt) (ex188 : x188 = y166 + (1 : Int32)) : x188.toInt = y166.toInt + 1 := by
  have q1 : (1 : Int32).toInt = 1 := by decide +kernel
  have l_hr1 := LENF_le ((σ.2.2.1 52) k0.toNatClampNeg)
  rw [← hr1] at l_hr1
  have z9 : (1 : Int32).toInt = 1 := by decide +kernel
  rw [ex188, z_add (by omega) (by omega)]; first | done | omega
-- inv@55 @55
theorem v_intOf_132 (σ : RS) (k0 : Int32) (r1 : Int32) (x163 : Int32) (y166 : Int32) (x188 : Int32) (hpre_0 : 0 ≤ k0.toInt) (hpre_1 : k0.toInt < 980) (hr1 : r1 = LENF ((σ.2.2.1 52) k0.toNatClampNeg)) (c2 : 0 < r1.toInt) (ex163 : x163 = r1 - (1 : Int32)) (tx163 : x163.toInt = r1.toInt - 1) (c164 : x163.toInt < 1) (hi55_0 : 0 ≤ y166.toInt) (hi55_1 : y166.toInt ≤ 130) (c168 : y166.toInt < r1.toInt) (ex188 : x188 = y166 + (1 : Int32)) (tx188 : x188.toInt = y166.toInt + 1) : 0 ≤ x188.toInt ∧ x188.toInt ≤ 130 ∧ ((0 : Int32).toInt = 0 ∨ (0 : Int32).toInt = 1) := by
  have q0 : (0 : Int32).toInt = 0 := by decide +kernel
  have q1 : (1 : Int32).toInt = 1 := by decide +kernel
  have l_hr1 := LENF_le ((σ.2.2.1 52) k0.toNatClampNeg)
  rw [← hr1] at l_hr1
  refine ⟨?_, ?_, ?_⟩ <;> first | assumption | omega | (subst_vars; omega) | trivial
-- inv2@55 @55
theorem v_intOf_133 (σ : RS) (k0 : Int32) (r1 : Int32) (r82 : Int32) (x163 : Int32) (y165 : Int32) (y166 : Int32) (y167 : Int32) (r178 : Int32) (x185 : Int32) (x186 : Int32) (x187 : Int32) (x188 : Int32) (hpre_0 : 0 ≤ k0.toInt) (hpre_1 : k0.toInt < 980) (hpre_2 : 0 ≤ (σ.1 56).toInt) (hpre_3 : (σ.1 56).toInt ≤ 11) (hr1 : r1 = LENF ((σ.2.2.1 52) k0.toNatClampNeg)) (c2 : 0 < r1.toInt) (hr82y : ∀ s9 : List Int, QTT ((σ.2.2.1 52) k0.toNatClampNeg) ((σ.2.2.1 53) k0.toNatClampNeg) s9 → 0 ≤ (0 : Int32).toInt → (0 : Int32).toInt < 17 → r82.toInt = s9.getD (0 : Int32).toInt.toNat 0) (c83 : r82.toInt = 45) (ex163 : x163 = r1 - (1 : Int32)) (tx163 : x163.toInt = r1.toInt - 1) (c164 : x163.toInt < 1) (hi55_0 : 0 ≤ y166.toInt) (hi55_1 : y166.toInt ≤ 130) (hi55_2 : y167.toInt = 0 ∨ y167.toInt = 1) (hi55y : ∀ s9 : List Int, QTT ((σ.2.2.1 52) k0.toNatClampNeg) ((σ.2.2.1 53) k0.toNatClampNeg) s9 → INL s9 (1 : Int32).toInt y165.toInt y166.toInt y167.toInt) (c168 : y166.toInt < r1.toInt) (c174 : ¬ y167.toInt = 0) (hr178y : ∀ s9 : List Int, QTT ((σ.2.2.1 52) k0.toNatClampNeg) ((σ.2.2.1 53) k0.toNatClampNeg) s9 → 0 ≤ y166.toInt → y166.toInt < 17 → r178.toInt = s9.getD y166.toInt.toNat 0) (c179 : 48 ≤ r178.toInt) (c184 : 57 < r178.toInt) (ex185 : x185 = (10 : Int32) * y165) (ex186 : x186 = x185 + r178) (ex187 : x187 = x186 - (48 : Int32)) (ex188 : x188 = y166 + (1 : Int32)) (tx188 : x188.toInt = y166.toInt + 1) : ∀ s9 : List Int, QTT ((σ.2.2.1 52) k0.toNatClampNeg) ((σ.2.2.1 53) k0.toNatClampNeg) s9 → INL s9 (1 : Int32).toInt x187.toInt x188.toInt (0 : Int32).toInt := by
  have q0 : (0 : Int32).toInt = 0 := by decide +kernel
  have q1 : (1 : Int32).toInt = 1 := by decide +kernel
  have q10 : (10 : Int32).toInt = 10 := by decide +kernel
  have q48 : (48 : Int32).toInt = 48 := by decide +kernel
  have l_hr1 := LENF_le ((σ.2.2.1 52) k0.toNatClampNeg)
  rw [← hr1] at l_hr1
  intro s9 ht
  have e := q_len ht.1 ht.2.2.1 ht.2.2.2
  rw [← hr1] at e
  have l16 := ht.2.2.1
  have z := hi55y s9 ht
  have g9 := hr178y s9 ht (by omega) (by omega)
  have z1 := z.1
  have vb := z.vb (by omega) (by omega) (by omega)
  have gb := q_gb (i := y166.toInt.toNat) ht.2.2.2
  have w10 : (10 : Int32).toInt = 10 := by decide +kernel
  have w48 : (48 : Int32).toInt = 48 := by decide +kernel
  have a9 : x185.toInt = 10 * y165.toInt := by rw [ex185]; exact z_mulc 10 w10 (by omega) (by omega)
  have b9 : x186.toInt = 10 * y165.toInt + r178.toInt := by rw [ex186, z_add (by omega) (by omega), a9]
  have v9 : x187.toInt = 10 * y165.toInt + (r178.toInt - 48) := by rw [ex187, z_sub (by omega) (by omega)]; omega
  exact z.step (by omega) (by omega) (by omega) (by omega) (by omega) (fun _ => by omega)
-- meas@55 @55
theorem v_intOf_134 (σ : RS) (k0 : Int32) (r1 : Int32) (x163 : Int32) (y166 : Int32) (x188 : Int32) (hpre_0 : 0 ≤ k0.toInt) (hpre_1 : k0.toInt < 980) (hr1 : r1 = LENF ((σ.2.2.1 52) k0.toNatClampNeg)) (c2 : 0 < r1.toInt) (ex163 : x163 = r1 - (1 : Int32)) (tx163 : x163.toInt = r1.toInt - 1) (c164 : x163.toInt < 1) (hi55_0 : 0 ≤ y166.toInt) (hi55_1 : y166.toInt ≤ 130) (c168 : y166.toInt < r1.toInt) (ex188 : x188 = y166 + (1 : Int32)) (tx188 : x188.toInt = y166.toInt + 1) : (130 - x188.toInt).toNat < (130 - y166.toInt).toNat := by
  have q1 : (1 : Int32).toInt = 1 := by decide +kernel
  have l_hr1 := LENF_le ((σ.2.2.1 52) k0.toNatClampNeg)
  rw [← hr1] at l_hr1
  first | assumption | omega | (subst_vars; omega) | trivial
-- nw@109 @109
theorem v_intOf_135 (σ : RS) (k0 : Int32) (r1 : Int32) (x163 : Int32) (y166 : Int32) (x192 : Int32) (hpre_0 : 0 ≤ k0.toInt) (hpre_1 : k0.toInt < 980) (hr1 : r1 = LENF ((σ.2.2.1 52) k0.toNatClampNeg)) (c2 : 0 < r1.toInt) (ex163 : x163 = r1 - (1 : Int32)) (tx163 : x163.toInt = r1.toInt - 1) (c164 : x163.toInt < 1) (hi55_0 : 0 ≤ y166.toInt) (hi55_1 : y166.toInt ≤ 130) (c168 : y166.toInt < r1.toInt) (ex192 : x192 = y166 + (1 : Int32)) : x192.toInt = y166.toInt + 1 := by
  have q1 : (1 : Int32).toInt = 1 := by decide +kernel
  have l_hr1 := LENF_le ((σ.2.2.1 52) k0.toNatClampNeg)
  rw [← hr1] at l_hr1
  have z9 : (1 : Int32).toInt = 1 := by decide +kernel
  rw [ex192, z_add (by omega) (by omega)]; first | done | omega
-- inv@55 @55
theorem v_intOf_136 (σ : RS) (k0 : Int32) (r1 : Int32) (x163 : Int32) (y166 : Int32) (x192 : Int32) (hpre_0 : 0 ≤ k0.toInt) (hpre_1 : k0.toInt < 980) (hr1 : r1 = LENF ((σ.2.2.1 52) k0.toNatClampNeg)) (c2 : 0 < r1.toInt) (ex163 : x163 = r1 - (1 : Int32)) (tx163 : x163.toInt = r1.toInt - 1) (c164 : x163.toInt < 1) (hi55_0 : 0 ≤ y166.toInt) (hi55_1 : y166.toInt ≤ 130) (c168 : y166.toInt < r1.toInt) (ex192 : x192 = y166 + (1 : Int32)) (tx192 : x192.toInt = y166.toInt + 1) : 0 ≤ x192.toInt ∧ x192.toInt ≤ 130 ∧ ((1 : Int32).toInt = 0 ∨ (1 : Int32).toInt = 1) := by
  have q1 : (1 : Int32).toInt = 1 := by decide +kernel
  have l_hr1 := LENF_le ((σ.2.2.1 52) k0.toNatClampNeg)
  rw [← hr1] at l_hr1
  refine ⟨?_, ?_, ?_⟩ <;> first | assumption | omega | (subst_vars; omega) | trivial
-- inv2@55 @55
theorem v_intOf_137 (σ : RS) (k0 : Int32) (r1 : Int32) (r82 : Int32) (x163 : Int32) (y165 : Int32) (y166 : Int32) (y167 : Int32) (r178 : Int32) (x189 : Int32) (x190 : Int32) (x191 : Int32) (x192 : Int32) (hpre_0 : 0 ≤ k0.toInt) (hpre_1 : k0.toInt < 980) (hpre_2 : 0 ≤ (σ.1 56).toInt) (hpre_3 : (σ.1 56).toInt ≤ 11) (hr1 : r1 = LENF ((σ.2.2.1 52) k0.toNatClampNeg)) (c2 : 0 < r1.toInt) (hr82y : ∀ s9 : List Int, QTT ((σ.2.2.1 52) k0.toNatClampNeg) ((σ.2.2.1 53) k0.toNatClampNeg) s9 → 0 ≤ (0 : Int32).toInt → (0 : Int32).toInt < 17 → r82.toInt = s9.getD (0 : Int32).toInt.toNat 0) (c83 : r82.toInt = 45) (ex163 : x163 = r1 - (1 : Int32)) (tx163 : x163.toInt = r1.toInt - 1) (c164 : x163.toInt < 1) (hi55_0 : 0 ≤ y166.toInt) (hi55_1 : y166.toInt ≤ 130) (hi55_2 : y167.toInt = 0 ∨ y167.toInt = 1) (hi55y : ∀ s9 : List Int, QTT ((σ.2.2.1 52) k0.toNatClampNeg) ((σ.2.2.1 53) k0.toNatClampNeg) s9 → INL s9 (1 : Int32).toInt y165.toInt y166.toInt y167.toInt) (c168 : y166.toInt < r1.toInt) (c174 : ¬ y167.toInt = 0) (hr178y : ∀ s9 : List Int, QTT ((σ.2.2.1 52) k0.toNatClampNeg) ((σ.2.2.1 53) k0.toNatClampNeg) s9 → 0 ≤ y166.toInt → y166.toInt < 17 → r178.toInt = s9.getD y166.toInt.toNat 0) (c179 : 48 ≤ r178.toInt) (c184 : r178.toInt ≤ 57) (ex189 : x189 = (10 : Int32) * y165) (ex190 : x190 = x189 + r178) (ex191 : x191 = x190 - (48 : Int32)) (ex192 : x192 = y166 + (1 : Int32)) (tx192 : x192.toInt = y166.toInt + 1) : ∀ s9 : List Int, QTT ((σ.2.2.1 52) k0.toNatClampNeg) ((σ.2.2.1 53) k0.toNatClampNeg) s9 → INL s9 (1 : Int32).toInt x191.toInt x192.toInt (1 : Int32).toInt := by
  have q0 : (0 : Int32).toInt = 0 := by decide +kernel
  have q1 : (1 : Int32).toInt = 1 := by decide +kernel
  have q10 : (10 : Int32).toInt = 10 := by decide +kernel
  have q48 : (48 : Int32).toInt = 48 := by decide +kernel
  have l_hr1 := LENF_le ((σ.2.2.1 52) k0.toNatClampNeg)
  rw [← hr1] at l_hr1
  intro s9 ht
  have e := q_len ht.1 ht.2.2.1 ht.2.2.2
  rw [← hr1] at e
  have l16 := ht.2.2.1
  have z := hi55y s9 ht
  have g9 := hr178y s9 ht (by omega) (by omega)
  have z1 := z.1
  have vb := z.vb (by omega) (by omega) (by omega)
  have gb := q_gb (i := y166.toInt.toNat) ht.2.2.2
  have w10 : (10 : Int32).toInt = 10 := by decide +kernel
  have w48 : (48 : Int32).toInt = 48 := by decide +kernel
  have a9 : x189.toInt = 10 * y165.toInt := by rw [ex189]; exact z_mulc 10 w10 (by omega) (by omega)
  have b9 : x190.toInt = 10 * y165.toInt + r178.toInt := by rw [ex190, z_add (by omega) (by omega), a9]
  have v9 : x191.toInt = 10 * y165.toInt + (r178.toInt - 48) := by rw [ex191, z_sub (by omega) (by omega)]; omega
  exact z.step (by omega) (by omega) (by omega) (by omega) (by omega) (fun _ => by omega)
-- meas@55 @55
theorem v_intOf_138 (σ : RS) (k0 : Int32) (r1 : Int32) (x163 : Int32) (y166 : Int32) (x192 : Int32) (hpre_0 : 0 ≤ k0.toInt) (hpre_1 : k0.toInt < 980) (hr1 : r1 = LENF ((σ.2.2.1 52) k0.toNatClampNeg)) (c2 : 0 < r1.toInt) (ex163 : x163 = r1 - (1 : Int32)) (tx163 : x163.toInt = r1.toInt - 1) (c164 : x163.toInt < 1) (hi55_0 : 0 ≤ y166.toInt) (hi55_1 : y166.toInt ≤ 130) (c168 : y166.toInt < r1.toInt) (ex192 : x192 = y166 + (1 : Int32)) (tx192 : x192.toInt = y166.toInt + 1) : (130 - x192.toInt).toNat < (130 - y166.toInt).toNat := by
  have q1 : (1 : Int32).toInt = 1 := by decide +kernel
  have l_hr1 := LENF_le ((σ.2.2.1 52) k0.toNatClampNeg)
  rw [← hr1] at l_hr1
  first | assumption | omega | (subst_vars; omega) | trivial
-- nw@36 @36
theorem v_intOf_139 (σ : RS) (k0 : Int32) (r1 : Int32) (x163 : Int32) (x193 : Int32) (hpre_0 : 0 ≤ k0.toInt) (hpre_1 : k0.toInt < 980) (hr1 : r1 = LENF ((σ.2.2.1 52) k0.toNatClampNeg)) (c2 : 0 < r1.toInt) (ex163 : x163 = r1 - (1 : Int32)) (tx163 : x163.toInt = r1.toInt - 1) (c164 : 1 ≤ x163.toInt) (ex193 : x193 = r1 - (1 : Int32)) : x193.toInt = r1.toInt - 1 := by
  have q1 : (1 : Int32).toInt = 1 := by decide +kernel
  have l_hr1 := LENF_le ((σ.2.2.1 52) k0.toNatClampNeg)
  rw [← hr1] at l_hr1
  have w1 : (1 : Int32).toInt = 1 := by decide +kernel
  rw [ex193, z_sub (by omega) (by omega)]; first | done | omega
-- init2@55 @55
theorem v_intOf_140 (σ : RS) (k0 : Int32) (r1 : Int32) (r82 : Int32) (x163 : Int32) (x193 : Int32) (hpre_0 : 0 ≤ k0.toInt) (hpre_1 : k0.toInt < 980) (hpre_2 : 0 ≤ (σ.1 56).toInt) (hpre_3 : (σ.1 56).toInt ≤ 11) (hr1 : r1 = LENF ((σ.2.2.1 52) k0.toNatClampNeg)) (c2 : 0 < r1.toInt) (hr82y : ∀ s9 : List Int, QTT ((σ.2.2.1 52) k0.toNatClampNeg) ((σ.2.2.1 53) k0.toNatClampNeg) s9 → 0 ≤ (0 : Int32).toInt → (0 : Int32).toInt < 17 → r82.toInt = s9.getD (0 : Int32).toInt.toNat 0) (c83 : r82.toInt = 45) (ex163 : x163 = r1 - (1 : Int32)) (tx163 : x163.toInt = r1.toInt - 1) (c164 : 1 ≤ x163.toInt) (ex193 : x193 = r1 - (1 : Int32)) (tx193 : x193.toInt = r1.toInt - 1) (c194 : 9 < x193.toInt) : ∀ s9 : List Int, QTT ((σ.2.2.1 52) k0.toNatClampNeg) ((σ.2.2.1 53) k0.toNatClampNeg) s9 → INL s9 (1 : Int32).toInt (0 : Int32).toInt (1 : Int32).toInt (0 : Int32).toInt := by
  have q0 : (0 : Int32).toInt = 0 := by decide +kernel
  have q1 : (1 : Int32).toInt = 1 := by decide +kernel
  have l_hr1 := LENF_le ((σ.2.2.1 52) k0.toNatClampNeg)
  rw [← hr1] at l_hr1
  intro s9 ht
  have e := q_len ht.1 ht.2.2.1 ht.2.2.2
  rw [← hr1] at e
  exact INL.start (by omega) (by omega) (by omega) (by omega)
-- post2 @146
theorem v_intOf_141 (σ : RS) (k0 : Int32) (r1 : Int32) (r82 : Int32) (x163 : Int32) (x193 : Int32) (y195 : Int32) (y196 : Int32) (y197 : Int32) (x201 : Int32) (hpre_0 : 0 ≤ k0.toInt) (hpre_1 : k0.toInt < 980) (hpre_2 : 0 ≤ (σ.1 56).toInt) (hpre_3 : (σ.1 56).toInt ≤ 11) (hr1 : r1 = LENF ((σ.2.2.1 52) k0.toNatClampNeg)) (c2 : 0 < r1.toInt) (hr82y : ∀ s9 : List Int, QTT ((σ.2.2.1 52) k0.toNatClampNeg) ((σ.2.2.1 53) k0.toNatClampNeg) s9 → 0 ≤ (0 : Int32).toInt → (0 : Int32).toInt < 17 → r82.toInt = s9.getD (0 : Int32).toInt.toNat 0) (c83 : r82.toInt = 45) (ex163 : x163 = r1 - (1 : Int32)) (tx163 : x163.toInt = r1.toInt - 1) (c164 : 1 ≤ x163.toInt) (ex193 : x193 = r1 - (1 : Int32)) (tx193 : x193.toInt = r1.toInt - 1) (c194 : 9 < x193.toInt) (hi55_0 : 0 ≤ y196.toInt) (hi55_1 : y196.toInt ≤ 130) (hi55_2 : y197.toInt = 0 ∨ y197.toInt = 1) (hi55y : ∀ s9 : List Int, QTT ((σ.2.2.1 52) k0.toNatClampNeg) ((σ.2.2.1 53) k0.toNatClampNeg) s9 → INL s9 (1 : Int32).toInt y195.toInt y196.toInt y197.toInt) (c198 : r1.toInt ≤ y196.toInt) (c199 : y197.toInt = 0) (ex201 : x201 = -y195) : ∀ s9 : List Int, QTT ((σ.2.2.1 52) k0.toNatClampNeg) ((σ.2.2.1 53) k0.toNatClampNeg) s9 → QI (qToI s9) x201.toInt (10 : Int32).toInt (σ.1 56).toInt := by
  have q0 : (0 : Int32).toInt = 0 := by decide +kernel
  have q1 : (1 : Int32).toInt = 1 := by decide +kernel
  have q10 : (10 : Int32).toInt = 10 := by decide +kernel
  have l_hr1 := LENF_le ((σ.2.2.1 52) k0.toNatClampNeg)
  rw [← hr1] at l_hr1
  intro s9 ht
  have e := q_len ht.1 ht.2.2.1 ht.2.2.2
  rw [← hr1] at e
  have z := hi55y s9 ht
  have zg := z.2.1
  have g0 := hr82y s9 ht (by omega) (by omega)
  rw [show (0 : Int32).toInt.toNat = 0 by decide +kernel] at g0
  rw [q1] at z
  exact z.fin1 (by rw [q_head (by omega)]; exact congrArg some (by omega)) (by omega) (fun h9 => by have vb := z.vb9 (by decide) (by omega); first | (rw [ex201, q_ng (by omega)]) | omega) (by omega)
-- post2 @146
theorem v_intOf_142 (σ : RS) (k0 : Int32) (r1 : Int32) (r82 : Int32) (x163 : Int32) (x193 : Int32) (y195 : Int32) (y196 : Int32) (y197 : Int32) (x203 : Int32) (hpre_0 : 0 ≤ k0.toInt) (hpre_1 : k0.toInt < 980) (hpre_2 : 0 ≤ (σ.1 56).toInt) (hpre_3 : (σ.1 56).toInt ≤ 11) (hr1 : r1 = LENF ((σ.2.2.1 52) k0.toNatClampNeg)) (c2 : 0 < r1.toInt) (hr82y : ∀ s9 : List Int, QTT ((σ.2.2.1 52) k0.toNatClampNeg) ((σ.2.2.1 53) k0.toNatClampNeg) s9 → 0 ≤ (0 : Int32).toInt → (0 : Int32).toInt < 17 → r82.toInt = s9.getD (0 : Int32).toInt.toNat 0) (c83 : r82.toInt = 45) (ex163 : x163 = r1 - (1 : Int32)) (tx163 : x163.toInt = r1.toInt - 1) (c164 : 1 ≤ x163.toInt) (ex193 : x193 = r1 - (1 : Int32)) (tx193 : x193.toInt = r1.toInt - 1) (c194 : 9 < x193.toInt) (hi55_0 : 0 ≤ y196.toInt) (hi55_1 : y196.toInt ≤ 130) (hi55_2 : y197.toInt = 0 ∨ y197.toInt = 1) (hi55y : ∀ s9 : List Int, QTT ((σ.2.2.1 52) k0.toNatClampNeg) ((σ.2.2.1 53) k0.toNatClampNeg) s9 → INL s9 (1 : Int32).toInt y195.toInt y196.toInt y197.toInt) (c198 : r1.toInt ≤ y196.toInt) (c199 : ¬ y197.toInt = 0) (ex203 : x203 = -y195) : ∀ s9 : List Int, QTT ((σ.2.2.1 52) k0.toNatClampNeg) ((σ.2.2.1 53) k0.toNatClampNeg) s9 → QI (qToI s9) x203.toInt (σ.1 56).toInt (σ.1 56).toInt := by
  have q0 : (0 : Int32).toInt = 0 := by decide +kernel
  have q1 : (1 : Int32).toInt = 1 := by decide +kernel
  have l_hr1 := LENF_le ((σ.2.2.1 52) k0.toNatClampNeg)
  rw [← hr1] at l_hr1
  intro s9 ht
  have e := q_len ht.1 ht.2.2.1 ht.2.2.2
  rw [← hr1] at e
  have z := hi55y s9 ht
  have zg := z.2.1
  have g0 := hr82y s9 ht (by omega) (by omega)
  rw [show (0 : Int32).toInt.toNat = 0 by decide +kernel] at g0
  rw [q1] at z
  exact z.fin1 (by rw [q_head (by omega)]; exact congrArg some (by omega)) (by omega) (fun h9 => by have vb := z.vb9 (by decide) (by omega); first | (rw [ex203, q_ng (by omega)]) | omega) (by omega)
-- post2 @146
theorem v_intOf_143 (σ : RS) (k0 : Int32) (r1 : Int32) (r82 : Int32) (x163 : Int32) (x193 : Int32) (y195 : Int32) (y196 : Int32) (y197 : Int32) (x207 : Int32) (hpre_0 : 0 ≤ k0.toInt) (hpre_1 : k0.toInt < 980) (hpre_2 : 0 ≤ (σ.1 56).toInt) (hpre_3 : (σ.1 56).toInt ≤ 11) (hr1 : r1 = LENF ((σ.2.2.1 52) k0.toNatClampNeg)) (c2 : 0 < r1.toInt) (hr82y : ∀ s9 : List Int, QTT ((σ.2.2.1 52) k0.toNatClampNeg) ((σ.2.2.1 53) k0.toNatClampNeg) s9 → 0 ≤ (0 : Int32).toInt → (0 : Int32).toInt < 17 → r82.toInt = s9.getD (0 : Int32).toInt.toNat 0) (c83 : r82.toInt = 45) (ex163 : x163 = r1 - (1 : Int32)) (tx163 : x163.toInt = r1.toInt - 1) (c164 : 1 ≤ x163.toInt) (ex193 : x193 = r1 - (1 : Int32)) (tx193 : x193.toInt = r1.toInt - 1) (c194 : 9 < x193.toInt) (hi55_0 : 0 ≤ y196.toInt) (hi55_1 : y196.toInt ≤ 130) (hi55_2 : y197.toInt = 0 ∨ y197.toInt = 1) (hi55y : ∀ s9 : List Int, QTT ((σ.2.2.1 52) k0.toNatClampNeg) ((σ.2.2.1 53) k0.toNatClampNeg) s9 → INL s9 (1 : Int32).toInt y195.toInt y196.toInt y197.toInt) (c198 : y196.toInt < r1.toInt) (c204 : y197.toInt = 0) (c205 : y197.toInt = 0) (ex207 : x207 = -y195) : ∀ s9 : List Int, QTT ((σ.2.2.1 52) k0.toNatClampNeg) ((σ.2.2.1 53) k0.toNatClampNeg) s9 → QI (qToI s9) x207.toInt (10 : Int32).toInt (σ.1 56).toInt := by
  have q0 : (0 : Int32).toInt = 0 := by decide +kernel
  have q1 : (1 : Int32).toInt = 1 := by decide +kernel
  have q10 : (10 : Int32).toInt = 10 := by decide +kernel
  have l_hr1 := LENF_le ((σ.2.2.1 52) k0.toNatClampNeg)
  rw [← hr1] at l_hr1
  intro s9 ht
  have e := q_len ht.1 ht.2.2.1 ht.2.2.2
  rw [← hr1] at e
  have z := hi55y s9 ht
  have zg := z.2.1
  have g0 := hr82y s9 ht (by omega) (by omega)
  rw [show (0 : Int32).toInt.toNat = 0 by decide +kernel] at g0
  rw [q1] at z
  exact z.fin1 (by rw [q_head (by omega)]; exact congrArg some (by omega)) (by omega) (fun h9 => by have vb := z.vb9 (by decide) (by omega); first | (rw [ex207, q_ng (by omega)]) | omega) (by omega)
-- dead@118 @121
theorem v_intOf_144 (y197 : Int32) (hi55_2 : y197.toInt = 0 ∨ y197.toInt = 1) (c204 : y197.toInt = 0) (c205 : ¬ y197.toInt = 0) : False := by
  first | assumption | omega | (subst_vars; omega) | trivial
-- pre:sign8@70 @70
theorem v_intOf_145 (σ : RS) (k0 : Int32) (r1 : Int32) (x163 : Int32) (x193 : Int32) (y196 : Int32) (hpre_0 : 0 ≤ k0.toInt) (hpre_1 : k0.toInt < 980) (hr1 : r1 = LENF ((σ.2.2.1 52) k0.toNatClampNeg)) (c2 : 0 < r1.toInt) (ex163 : x163 = r1 - (1 : Int32)) (tx163 : x163.toInt = r1.toInt - 1) (c164 : 1 ≤ x163.toInt) (ex193 : x193 = r1 - (1 : Int32)) (tx193 : x193.toInt = r1.toInt - 1) (c194 : 9 < x193.toInt) (hi55_0 : 0 ≤ y196.toInt) (hi55_1 : y196.toInt ≤ 130) (c198 : y196.toInt < r1.toInt) : 0 ≤ k0.toInt ∧ k0.toInt < 980 ∧ 0 ≤ y196.toInt ∧ y196.toInt ≤ 200 := by
  have q1 : (1 : Int32).toInt = 1 := by decide +kernel
  have l_hr1 := LENF_le ((σ.2.2.1 52) k0.toNatClampNeg)
  rw [← hr1] at l_hr1
  refine ⟨?_, ?_, ?_, ?_⟩ <;> first | assumption | omega | (subst_vars; omega) | trivial
-- nw@109 @109
theorem v_intOf_146 (σ : RS) (k0 : Int32) (r1 : Int32) (x163 : Int32) (x193 : Int32) (y196 : Int32) (x213 : Int32) (hpre_0 : 0 ≤ k0.toInt) (hpre_1 : k0.toInt < 980) (hr1 : r1 = LENF ((σ.2.2.1 52) k0.toNatClampNeg)) (c2 : 0 < r1.toInt) (ex163 : x163 = r1 - (1 : Int32)) (tx163 : x163.toInt = r1.toInt - 1) (c164 : 1 ≤ x163.toInt) (ex193 : x193 = r1 - (1 : Int32)) (tx193 : x193.toInt = r1.toInt - 1) (c194 : 9 < x193.toInt) (hi55_0 : 0 ≤ y196.toInt) (hi55_1 : y196.toInt ≤ 130) (c198 : y196.toInt < r1.toInt) (ex213 : x213 = y196 + (1 : Int32)) : x213.toInt = y196.toInt + 1 := by
  have q1 : (1 : Int32).toInt = 1 := by decide +kernel
  have l_hr1 := LENF_le ((σ.2.2.1 52) k0.toNatClampNeg)
  rw [← hr1] at l_hr1
  have z9 : (1 : Int32).toInt = 1 := by decide +kernel
  rw [ex213, z_add (by omega) (by omega)]; first | done | omega
-- inv@55 @55
theorem v_intOf_147 (σ : RS) (k0 : Int32) (r1 : Int32) (x163 : Int32) (x193 : Int32) (y196 : Int32) (x213 : Int32) (hpre_0 : 0 ≤ k0.toInt) (hpre_1 : k0.toInt < 980) (hr1 : r1 = LENF ((σ.2.2.1 52) k0.toNatClampNeg)) (c2 : 0 < r1.toInt) (ex163 : x163 = r1 - (1 : Int32)) (tx163 : x163.toInt = r1.toInt - 1) (c164 : 1 ≤ x163.toInt) (ex193 : x193 = r1 - (1 : Int32)) (tx193 : x193.toInt = r1.toInt - 1) (c194 : 9 < x193.toInt) (hi55_0 : 0 ≤ y196.toInt) (hi55_1 : y196.toInt ≤ 130) (c198 : y196.toInt < r1.toInt) (ex213 : x213 = y196 + (1 : Int32)) (tx213 : x213.toInt = y196.toInt + 1) : 0 ≤ x213.toInt ∧ x213.toInt ≤ 130 ∧ ((0 : Int32).toInt = 0 ∨ (0 : Int32).toInt = 1) := by
  have q0 : (0 : Int32).toInt = 0 := by decide +kernel
  have q1 : (1 : Int32).toInt = 1 := by decide +kernel
  have l_hr1 := LENF_le ((σ.2.2.1 52) k0.toNatClampNeg)
  rw [← hr1] at l_hr1
  refine ⟨?_, ?_, ?_⟩ <;> first | assumption | omega | (subst_vars; omega) | trivial
-- inv2@55 @55
theorem v_intOf_148 (σ : RS) (k0 : Int32) (r1 : Int32) (r82 : Int32) (x163 : Int32) (x193 : Int32) (y195 : Int32) (y196 : Int32) (y197 : Int32) (r208 : Int32) (x210 : Int32) (x211 : Int32) (x212 : Int32) (x213 : Int32) (hpre_0 : 0 ≤ k0.toInt) (hpre_1 : k0.toInt < 980) (hpre_2 : 0 ≤ (σ.1 56).toInt) (hpre_3 : (σ.1 56).toInt ≤ 11) (hr1 : r1 = LENF ((σ.2.2.1 52) k0.toNatClampNeg)) (c2 : 0 < r1.toInt) (hr82y : ∀ s9 : List Int, QTT ((σ.2.2.1 52) k0.toNatClampNeg) ((σ.2.2.1 53) k0.toNatClampNeg) s9 → 0 ≤ (0 : Int32).toInt → (0 : Int32).toInt < 17 → r82.toInt = s9.getD (0 : Int32).toInt.toNat 0) (c83 : r82.toInt = 45) (ex163 : x163 = r1 - (1 : Int32)) (tx163 : x163.toInt = r1.toInt - 1) (c164 : 1 ≤ x163.toInt) (ex193 : x193 = r1 - (1 : Int32)) (tx193 : x193.toInt = r1.toInt - 1) (c194 : 9 < x193.toInt) (hi55_0 : 0 ≤ y196.toInt) (hi55_1 : y196.toInt ≤ 130) (hi55_2 : y197.toInt = 0 ∨ y197.toInt = 1) (hi55y : ∀ s9 : List Int, QTT ((σ.2.2.1 52) k0.toNatClampNeg) ((σ.2.2.1 53) k0.toNatClampNeg) s9 → INL s9 (1 : Int32).toInt y195.toInt y196.toInt y197.toInt) (c198 : y196.toInt < r1.toInt) (c204 : ¬ y197.toInt = 0) (hr208y : ∀ s9 : List Int, QTT ((σ.2.2.1 52) k0.toNatClampNeg) ((σ.2.2.1 53) k0.toNatClampNeg) s9 → 0 ≤ y196.toInt → y196.toInt < 17 → r208.toInt = s9.getD y196.toInt.toNat 0) (c209 : r208.toInt < 48) (ex210 : x210 = (10 : Int32) * y195) (ex211 : x211 = x210 + r208) (ex212 : x212 = x211 - (48 : Int32)) (ex213 : x213 = y196 + (1 : Int32)) (tx213 : x213.toInt = y196.toInt + 1) : ∀ s9 : List Int, QTT ((σ.2.2.1 52) k0.toNatClampNeg) ((σ.2.2.1 53) k0.toNatClampNeg) s9 → INL s9 (1 : Int32).toInt x212.toInt x213.toInt (0 : Int32).toInt := by
  have q0 : (0 : Int32).toInt = 0 := by decide +kernel
  have q1 : (1 : Int32).toInt = 1 := by decide +kernel
  have q10 : (10 : Int32).toInt = 10 := by decide +kernel
  have q48 : (48 : Int32).toInt = 48 := by decide +kernel
  have l_hr1 := LENF_le ((σ.2.2.1 52) k0.toNatClampNeg)
  rw [← hr1] at l_hr1
  intro s9 ht
  have e := q_len ht.1 ht.2.2.1 ht.2.2.2
  rw [← hr1] at e
  have l16 := ht.2.2.1
  have z := hi55y s9 ht
  have g9 := hr208y s9 ht (by omega) (by omega)
  have z1 := z.1
  have vb := z.vb (by omega) (by omega) (by omega)
  have gb := q_gb (i := y196.toInt.toNat) ht.2.2.2
  have w10 : (10 : Int32).toInt = 10 := by decide +kernel
  have w48 : (48 : Int32).toInt = 48 := by decide +kernel
  have a9 : x210.toInt = 10 * y195.toInt := by rw [ex210]; exact z_mulc 10 w10 (by omega) (by omega)
  have b9 : x211.toInt = 10 * y195.toInt + r208.toInt := by rw [ex211, z_add (by omega) (by omega), a9]
  have v9 : x212.toInt = 10 * y195.toInt + (r208.toInt - 48) := by rw [ex212, z_sub (by omega) (by omega)]; omega
  exact z.step (by omega) (by omega) (by omega) (by omega) (by omega) (fun _ => by omega)
-- meas@55 @55
theorem v_intOf_149 (σ : RS) (k0 : Int32) (r1 : Int32) (x163 : Int32) (x193 : Int32) (y196 : Int32) (x213 : Int32) (hpre_0 : 0 ≤ k0.toInt) (hpre_1 : k0.toInt < 980) (hr1 : r1 = LENF ((σ.2.2.1 52) k0.toNatClampNeg)) (c2 : 0 < r1.toInt) (ex163 : x163 = r1 - (1 : Int32)) (tx163 : x163.toInt = r1.toInt - 1) (c164 : 1 ≤ x163.toInt) (ex193 : x193 = r1 - (1 : Int32)) (tx193 : x193.toInt = r1.toInt - 1) (c194 : 9 < x193.toInt) (hi55_0 : 0 ≤ y196.toInt) (hi55_1 : y196.toInt ≤ 130) (c198 : y196.toInt < r1.toInt) (ex213 : x213 = y196 + (1 : Int32)) (tx213 : x213.toInt = y196.toInt + 1) : (130 - x213.toInt).toNat < (130 - y196.toInt).toNat := by
  have q1 : (1 : Int32).toInt = 1 := by decide +kernel
  have l_hr1 := LENF_le ((σ.2.2.1 52) k0.toNatClampNeg)
  rw [← hr1] at l_hr1
  first | assumption | omega | (subst_vars; omega) | trivial
-- nw@109 @109
theorem v_intOf_150 (σ : RS) (k0 : Int32) (r1 : Int32) (x163 : Int32) (x193 : Int32) (y196 : Int32) (x218 : Int32) (hpre_0 : 0 ≤ k0.toInt) (hpre_1 : k0.toInt < 980) (hr1 : r1 = LENF ((σ.2.2.1 52) k0.toNatClampNeg)) (c2 : 0 < r1.toInt) (ex163 : x163 = r1 - (1 : Int32)) (tx163 : x163.toInt = r1.toInt - 1) (c164 : 1 ≤ x163.toInt) (ex193 : x193 = r1 - (1 : Int32)) (tx193 : x193.toInt = r1.toInt - 1) (c194 : 9 < x193.toInt) (hi55_0 : 0 ≤ y196.toInt) (hi55_1 : y196.toInt ≤ 130) (c198 : y196.toInt < r1.toInt) (ex218 : x218 = y196 + (1 : Int32)) : x218.toInt = y196.toInt + 1 := by
  have q1 : (1 : Int32).toInt = 1 := by decide +kernel
  have l_hr1 := LENF_le ((σ.2.2.1 52) k0.toNatClampNeg)
  rw [← hr1] at l_hr1
  have z9 : (1 : Int32).toInt = 1 := by decide +kernel
  rw [ex218, z_add (by omega) (by omega)]; first | done | omega
-- inv@55 @55
theorem v_intOf_151 (σ : RS) (k0 : Int32) (r1 : Int32) (x163 : Int32) (x193 : Int32) (y196 : Int32) (x218 : Int32) (hpre_0 : 0 ≤ k0.toInt) (hpre_1 : k0.toInt < 980) (hr1 : r1 = LENF ((σ.2.2.1 52) k0.toNatClampNeg)) (c2 : 0 < r1.toInt) (ex163 : x163 = r1 - (1 : Int32)) (tx163 : x163.toInt = r1.toInt - 1) (c164 : 1 ≤ x163.toInt) (ex193 : x193 = r1 - (1 : Int32)) (tx193 : x193.toInt = r1.toInt - 1) (c194 : 9 < x193.toInt) (hi55_0 : 0 ≤ y196.toInt) (hi55_1 : y196.toInt ≤ 130) (c198 : y196.toInt < r1.toInt) (ex218 : x218 = y196 + (1 : Int32)) (tx218 : x218.toInt = y196.toInt + 1) : 0 ≤ x218.toInt ∧ x218.toInt ≤ 130 ∧ ((0 : Int32).toInt = 0 ∨ (0 : Int32).toInt = 1) := by
  have q0 : (0 : Int32).toInt = 0 := by decide +kernel
  have q1 : (1 : Int32).toInt = 1 := by decide +kernel
  have l_hr1 := LENF_le ((σ.2.2.1 52) k0.toNatClampNeg)
  rw [← hr1] at l_hr1
  refine ⟨?_, ?_, ?_⟩ <;> first | assumption | omega | (subst_vars; omega) | trivial
-- inv2@55 @55
theorem v_intOf_152 (σ : RS) (k0 : Int32) (r1 : Int32) (r82 : Int32) (x163 : Int32) (x193 : Int32) (y195 : Int32) (y196 : Int32) (y197 : Int32) (r208 : Int32) (x215 : Int32) (x216 : Int32) (x217 : Int32) (x218 : Int32) (hpre_0 : 0 ≤ k0.toInt) (hpre_1 : k0.toInt < 980) (hpre_2 : 0 ≤ (σ.1 56).toInt) (hpre_3 : (σ.1 56).toInt ≤ 11) (hr1 : r1 = LENF ((σ.2.2.1 52) k0.toNatClampNeg)) (c2 : 0 < r1.toInt) (hr82y : ∀ s9 : List Int, QTT ((σ.2.2.1 52) k0.toNatClampNeg) ((σ.2.2.1 53) k0.toNatClampNeg) s9 → 0 ≤ (0 : Int32).toInt → (0 : Int32).toInt < 17 → r82.toInt = s9.getD (0 : Int32).toInt.toNat 0) (c83 : r82.toInt = 45) (ex163 : x163 = r1 - (1 : Int32)) (tx163 : x163.toInt = r1.toInt - 1) (c164 : 1 ≤ x163.toInt) (ex193 : x193 = r1 - (1 : Int32)) (tx193 : x193.toInt = r1.toInt - 1) (c194 : 9 < x193.toInt) (hi55_0 : 0 ≤ y196.toInt) (hi55_1 : y196.toInt ≤ 130) (hi55_2 : y197.toInt = 0 ∨ y197.toInt = 1) (hi55y : ∀ s9 : List Int, QTT ((σ.2.2.1 52) k0.toNatClampNeg) ((σ.2.2.1 53) k0.toNatClampNeg) s9 → INL s9 (1 : Int32).toInt y195.toInt y196.toInt y197.toInt) (c198 : y196.toInt < r1.toInt) (c204 : ¬ y197.toInt = 0) (hr208y : ∀ s9 : List Int, QTT ((σ.2.2.1 52) k0.toNatClampNeg) ((σ.2.2.1 53) k0.toNatClampNeg) s9 → 0 ≤ y196.toInt → y196.toInt < 17 → r208.toInt = s9.getD y196.toInt.toNat 0) (c209 : 48 ≤ r208.toInt) (c214 : 57 < r208.toInt) (ex215 : x215 = (10 : Int32) * y195) (ex216 : x216 = x215 + r208) (ex217 : x217 = x216 - (48 : Int32)) (ex218 : x218 = y196 + (1 : Int32)) (tx218 : x218.toInt = y196.toInt + 1) : ∀ s9 : List Int, QTT ((σ.2.2.1 52) k0.toNatClampNeg) ((σ.2.2.1 53) k0.toNatClampNeg) s9 → INL s9 (1 : Int32).toInt x217.toInt x218.toInt (0 : Int32).toInt := by
  have q0 : (0 : Int32).toInt = 0 := by decide +kernel
  have q1 : (1 : Int32).toInt = 1 := by decide +kernel
  have q10 : (10 : Int32).toInt = 10 := by decide +kernel
  have q48 : (48 : Int32).toInt = 48 := by decide +kernel
  have l_hr1 := LENF_le ((σ.2.2.1 52) k0.toNatClampNeg)
  rw [← hr1] at l_hr1
  intro s9 ht
  have e := q_len ht.1 ht.2.2.1 ht.2.2.2
  rw [← hr1] at e
  have l16 := ht.2.2.1
  have z := hi55y s9 ht
  have g9 := hr208y s9 ht (by omega) (by omega)
  have z1 := z.1
  have vb := z.vb (by omega) (by omega) (by omega)
  have gb := q_gb (i := y196.toInt.toNat) ht.2.2.2
  have w10 : (10 : Int32).toInt = 10 := by decide +kernel
  have w48 : (48 : Int32).toInt = 48 := by decide +kernel
  have a9 : x215.toInt = 10 * y195.toInt := by rw [ex215]; exact z_mulc 10 w10 (by omega) (by omega)
  have b9 : x216.toInt = 10 * y195.toInt + r208.toInt := by rw [ex216, z_add (by omega) (by omega), a9]
  have v9 : x217.toInt = 10 * y195.toInt + (r208.toInt - 48) := by rw [ex217, z_sub (by omega) (by omega)]; omega
  exact z.step (by omega) (by omega) (by omega) (by omega) (by omega) (fun _ => by omega)
-- meas@55 @55
theorem v_intOf_153 (σ : RS) (k0 : Int32) (r1 : Int32) (x163 : Int32) (x193 : Int32) (y196 : Int32) (x218 : Int32) (hpre_0 : 0 ≤ k0.toInt) (hpre_1 : k0.toInt < 980) (hr1 : r1 = LENF ((σ.2.2.1 52) k0.toNatClampNeg)) (c2 : 0 < r1.toInt) (ex163 : x163 = r1 - (1 : Int32)) (tx163 : x163.toInt = r1.toInt - 1) (c164 : 1 ≤ x163.toInt) (ex193 : x193 = r1 - (1 : Int32)) (tx193 : x193.toInt = r1.toInt - 1) (c194 : 9 < x193.toInt) (hi55_0 : 0 ≤ y196.toInt) (hi55_1 : y196.toInt ≤ 130) (c198 : y196.toInt < r1.toInt) (ex218 : x218 = y196 + (1 : Int32)) (tx218 : x218.toInt = y196.toInt + 1) : (130 - x218.toInt).toNat < (130 - y196.toInt).toNat := by
  have q1 : (1 : Int32).toInt = 1 := by decide +kernel
  have l_hr1 := LENF_le ((σ.2.2.1 52) k0.toNatClampNeg)
  rw [← hr1] at l_hr1
  first | assumption | omega | (subst_vars; omega) | trivial
-- nw@109 @109
theorem v_intOf_154 (σ : RS) (k0 : Int32) (r1 : Int32) (x163 : Int32) (x193 : Int32) (y196 : Int32) (x222 : Int32) (hpre_0 : 0 ≤ k0.toInt) (hpre_1 : k0.toInt < 980) (hr1 : r1 = LENF ((σ.2.2.1 52) k0.toNatClampNeg)) (c2 : 0 < r1.toInt) (ex163 : x163 = r1 - (1 : Int32)) (tx163 : x163.toInt = r1.toInt - 1) (c164 : 1 ≤ x163.toInt) (ex193 : x193 = r1 - (1 : Int32)) (tx193 : x193.toInt = r1.toInt - 1) (c194 : 9 < x193.toInt) (hi55_0 : 0 ≤ y196.toInt) (hi55_1 : y196.toInt ≤ 130) (c198 : y196.toInt < r1.toInt) (ex222 : x222 = y196 + (1 : Int32)) : x222.toInt = y196.toInt + 1 := by
  have q1 : (1 : Int32).toInt = 1 := by decide +kernel
  have l_hr1 := LENF_le ((σ.2.2.1 52) k0.toNatClampNeg)
  rw [← hr1] at l_hr1
  have z9 : (1 : Int32).toInt = 1 := by decide +kernel
  rw [ex222, z_add (by omega) (by omega)]; first | done | omega
-- inv@55 @55
theorem v_intOf_155 (σ : RS) (k0 : Int32) (r1 : Int32) (x163 : Int32) (x193 : Int32) (y196 : Int32) (x222 : Int32) (hpre_0 : 0 ≤ k0.toInt) (hpre_1 : k0.toInt < 980) (hr1 : r1 = LENF ((σ.2.2.1 52) k0.toNatClampNeg)) (c2 : 0 < r1.toInt) (ex163 : x163 = r1 - (1 : Int32)) (tx163 : x163.toInt = r1.toInt - 1) (c164 : 1 ≤ x163.toInt) (ex193 : x193 = r1 - (1 : Int32)) (tx193 : x193.toInt = r1.toInt - 1) (c194 : 9 < x193.toInt) (hi55_0 : 0 ≤ y196.toInt) (hi55_1 : y196.toInt ≤ 130) (c198 : y196.toInt < r1.toInt) (ex222 : x222 = y196 + (1 : Int32)) (tx222 : x222.toInt = y196.toInt + 1) : 0 ≤ x222.toInt ∧ x222.toInt ≤ 130 ∧ ((1 : Int32).toInt = 0 ∨ (1 : Int32).toInt = 1) := by
  have q1 : (1 : Int32).toInt = 1 := by decide +kernel
  have l_hr1 := LENF_le ((σ.2.2.1 52) k0.toNatClampNeg)
  rw [← hr1] at l_hr1
  refine ⟨?_, ?_, ?_⟩ <;> first | assumption | omega | (subst_vars; omega) | trivial
-- inv2@55 @55
theorem v_intOf_156 (σ : RS) (k0 : Int32) (r1 : Int32) (r82 : Int32) (x163 : Int32) (x193 : Int32) (y195 : Int32) (y196 : Int32) (y197 : Int32) (r208 : Int32) (x219 : Int32) (x220 : Int32) (x221 : Int32) (x222 : Int32) (hpre_0 : 0 ≤ k0.toInt) (hpre_1 : k0.toInt < 980) (hpre_2 : 0 ≤ (σ.1 56).toInt) (hpre_3 : (σ.1 56).toInt ≤ 11) (hr1 : r1 = LENF ((σ.2.2.1 52) k0.toNatClampNeg)) (c2 : 0 < r1.toInt) (hr82y : ∀ s9 : List Int, QTT ((σ.2.2.1 52) k0.toNatClampNeg) ((σ.2.2.1 53) k0.toNatClampNeg) s9 → 0 ≤ (0 : Int32).toInt → (0 : Int32).toInt < 17 → r82.toInt = s9.getD (0 : Int32).toInt.toNat 0) (c83 : r82.toInt = 45) (ex163 : x163 = r1 - (1 : Int32)) (tx163 : x163.toInt = r1.toInt - 1) (c164 : 1 ≤ x163.toInt) (ex193 : x193 = r1 - (1 : Int32)) (tx193 : x193.toInt = r1.toInt - 1) (c194 : 9 < x193.toInt) (hi55_0 : 0 ≤ y196.toInt) (hi55_1 : y196.toInt ≤ 130) (hi55_2 : y197.toInt = 0 ∨ y197.toInt = 1) (hi55y : ∀ s9 : List Int, QTT ((σ.2.2.1 52) k0.toNatClampNeg) ((σ.2.2.1 53) k0.toNatClampNeg) s9 → INL s9 (1 : Int32).toInt y195.toInt y196.toInt y197.toInt) (c198 : y196.toInt < r1.toInt) (c204 : ¬ y197.toInt = 0) (hr208y : ∀ s9 : List Int, QTT ((σ.2.2.1 52) k0.toNatClampNeg) ((σ.2.2.1 53) k0.toNatClampNeg) s9 → 0 ≤ y196.toInt → y196.toInt < 17 → r208.toInt = s9.getD y196.toInt.toNat 0) (c209 : 48 ≤ r208.toInt) (c214 : r208.toInt ≤ 57) (ex219 : x219 = (10 : Int32) * y195) (ex220 : x220 = x219 + r208) (ex221 : x221 = x220 - (48 : Int32)) (ex222 : x222 = y196 + (1 : Int32)) (tx222 : x222.toInt = y196.toInt + 1) : ∀ s9 : List Int, QTT ((σ.2.2.1 52) k0.toNatClampNeg) ((σ.2.2.1 53) k0.toNatClampNeg) s9 → INL s9 (1 : Int32).toInt x221.toInt x222.toInt (1 : Int32).toInt := by
  have q0 : (0 : Int32).toInt = 0 := by decide +kernel
  have q1 : (1 : Int32).toInt = 1 := by decide +kernel
  have q10 : (10 : Int32).toInt = 10 := by decide +kernel
  have q48 : (48 : Int32).toInt = 48 := by decide +kernel
  have l_hr1 := LENF_le ((σ.2.2.1 52) k0.toNatClampNeg)
  rw [← hr1] at l_hr1
  intro s9 ht
  have e := q_len ht.1 ht.2.2.1 ht.2.2.2
  rw [← hr1] at e
  have l16 := ht.2.2.1
  have z := hi55y s9 ht
  have g9 := hr208y s9 ht (by omega) (by omega)
  have z1 := z.1
  have vb := z.vb (by omega) (by omega) (by omega)
  have gb := q_gb (i := y196.toInt.toNat) ht.2.2.2
  have w10 : (10 : Int32).toInt = 10 := by decide +kernel
  have w48 : (48 : Int32).toInt = 48 := by decide +kernel
  have a9 : x219.toInt = 10 * y195.toInt := by rw [ex219]; exact z_mulc 10 w10 (by omega) (by omega)
  have b9 : x220.toInt = 10 * y195.toInt + r208.toInt := by rw [ex220, z_add (by omega) (by omega), a9]
  have v9 : x221.toInt = 10 * y195.toInt + (r208.toInt - 48) := by rw [ex221, z_sub (by omega) (by omega)]; omega
  exact z.step (by omega) (by omega) (by omega) (by omega) (by omega) (fun _ => by omega)
-- meas@55 @55
theorem v_intOf_157 (σ : RS) (k0 : Int32) (r1 : Int32) (x163 : Int32) (x193 : Int32) (y196 : Int32) (x222 : Int32) (hpre_0 : 0 ≤ k0.toInt) (hpre_1 : k0.toInt < 980) (hr1 : r1 = LENF ((σ.2.2.1 52) k0.toNatClampNeg)) (c2 : 0 < r1.toInt) (ex163 : x163 = r1 - (1 : Int32)) (tx163 : x163.toInt = r1.toInt - 1) (c164 : 1 ≤ x163.toInt) (ex193 : x193 = r1 - (1 : Int32)) (tx193 : x193.toInt = r1.toInt - 1) (c194 : 9 < x193.toInt) (hi55_0 : 0 ≤ y196.toInt) (hi55_1 : y196.toInt ≤ 130) (c198 : y196.toInt < r1.toInt) (ex222 : x222 = y196 + (1 : Int32)) (tx222 : x222.toInt = y196.toInt + 1) : (130 - x222.toInt).toNat < (130 - y196.toInt).toNat := by
  have q1 : (1 : Int32).toInt = 1 := by decide +kernel
  have l_hr1 := LENF_le ((σ.2.2.1 52) k0.toNatClampNeg)
  rw [← hr1] at l_hr1
  first | assumption | omega | (subst_vars; omega) | trivial
-- init@55 @55
theorem v_intOf_158   : 0 ≤ (1 : Int32).toInt ∧ (1 : Int32).toInt ≤ 130 ∧ ((1 : Int32).toInt = 0 ∨ (1 : Int32).toInt = 1) := by
  have q1 : (1 : Int32).toInt = 1 := by decide +kernel
  refine ⟨?_, ?_, ?_⟩ <;> first | assumption | omega | (subst_vars; omega) | trivial
-- init2@55 @55
theorem v_intOf_159 (σ : RS) (k0 : Int32) (r1 : Int32) (r82 : Int32) (x163 : Int32) (x193 : Int32) (hpre_0 : 0 ≤ k0.toInt) (hpre_1 : k0.toInt < 980) (hpre_2 : 0 ≤ (σ.1 56).toInt) (hpre_3 : (σ.1 56).toInt ≤ 11) (hr1 : r1 = LENF ((σ.2.2.1 52) k0.toNatClampNeg)) (c2 : 0 < r1.toInt) (hr82y : ∀ s9 : List Int, QTT ((σ.2.2.1 52) k0.toNatClampNeg) ((σ.2.2.1 53) k0.toNatClampNeg) s9 → 0 ≤ (0 : Int32).toInt → (0 : Int32).toInt < 17 → r82.toInt = s9.getD (0 : Int32).toInt.toNat 0) (c83 : r82.toInt = 45) (ex163 : x163 = r1 - (1 : Int32)) (tx163 : x163.toInt = r1.toInt - 1) (c164 : 1 ≤ x163.toInt) (ex193 : x193 = r1 - (1 : Int32)) (tx193 : x193.toInt = r1.toInt - 1) (c194 : x193.toInt ≤ 9) : ∀ s9 : List Int, QTT ((σ.2.2.1 52) k0.toNatClampNeg) ((σ.2.2.1 53) k0.toNatClampNeg) s9 → INL s9 (1 : Int32).toInt (0 : Int32).toInt (1 : Int32).toInt (1 : Int32).toInt := by
  have q0 : (0 : Int32).toInt = 0 := by decide +kernel
  have q1 : (1 : Int32).toInt = 1 := by decide +kernel
  have l_hr1 := LENF_le ((σ.2.2.1 52) k0.toNatClampNeg)
  rw [← hr1] at l_hr1
  intro s9 ht
  have e := q_len ht.1 ht.2.2.1 ht.2.2.2
  rw [← hr1] at e
  exact INL.start (by omega) (by omega) (by omega) (by omega)
-- post2 @146
theorem v_intOf_160 (σ : RS) (k0 : Int32) (r1 : Int32) (r82 : Int32) (x163 : Int32) (x193 : Int32) (y223 : Int32) (y224 : Int32) (y225 : Int32) (x229 : Int32) (hpre_0 : 0 ≤ k0.toInt) (hpre_1 : k0.toInt < 980) (hpre_2 : 0 ≤ (σ.1 56).toInt) (hpre_3 : (σ.1 56).toInt ≤ 11) (hr1 : r1 = LENF ((σ.2.2.1 52) k0.toNatClampNeg)) (c2 : 0 < r1.toInt) (hr82y : ∀ s9 : List Int, QTT ((σ.2.2.1 52) k0.toNatClampNeg) ((σ.2.2.1 53) k0.toNatClampNeg) s9 → 0 ≤ (0 : Int32).toInt → (0 : Int32).toInt < 17 → r82.toInt = s9.getD (0 : Int32).toInt.toNat 0) (c83 : r82.toInt = 45) (ex163 : x163 = r1 - (1 : Int32)) (tx163 : x163.toInt = r1.toInt - 1) (c164 : 1 ≤ x163.toInt) (ex193 : x193 = r1 - (1 : Int32)) (tx193 : x193.toInt = r1.toInt - 1) (c194 : x193.toInt ≤ 9) (hi55_0 : 0 ≤ y224.toInt) (hi55_1 : y224.toInt ≤ 130) (hi55_2 : y225.toInt = 0 ∨ y225.toInt = 1) (hi55y : ∀ s9 : List Int, QTT ((σ.2.2.1 52) k0.toNatClampNeg) ((σ.2.2.1 53) k0.toNatClampNeg) s9 → INL s9 (1 : Int32).toInt y223.toInt y224.toInt y225.toInt) (c226 : r1.toInt ≤ y224.toInt) (c227 : y225.toInt = 0) (ex229 : x229 = -y223) : ∀ s9 : List Int, QTT ((σ.2.2.1 52) k0.toNatClampNeg) ((σ.2.2.1 53) k0.toNatClampNeg) s9 → QI (qToI s9) x229.toInt (10 : Int32).toInt (σ.1 56).toInt := by
  have q0 : (0 : Int32).toInt = 0 := by decide +kernel
  have q1 : (1 : Int32).toInt = 1 := by decide +kernel
  have q10 : (10 : Int32).toInt = 10 := by decide +kernel
  have l_hr1 := LENF_le ((σ.2.2.1 52) k0.toNatClampNeg)
  rw [← hr1] at l_hr1
  intro s9 ht
  have e := q_len ht.1 ht.2.2.1 ht.2.2.2
  rw [← hr1] at e
  have z := hi55y s9 ht
  have zg := z.2.1
  have g0 := hr82y s9 ht (by omega) (by omega)
  rw [show (0 : Int32).toInt.toNat = 0 by decide +kernel] at g0
  rw [q1] at z
  exact z.fin1 (by rw [q_head (by omega)]; exact congrArg some (by omega)) (by omega) (fun h9 => by have vb := z.vb9 (by decide) (by omega); first | (rw [ex229, q_ng (by omega)]) | omega) (by omega)
-- post2 @146
theorem v_intOf_161 (σ : RS) (k0 : Int32) (r1 : Int32) (r82 : Int32) (x163 : Int32) (x193 : Int32) (y223 : Int32) (y224 : Int32) (y225 : Int32) (x231 : Int32) (hpre_0 : 0 ≤ k0.toInt) (hpre_1 : k0.toInt < 980) (hpre_2 : 0 ≤ (σ.1 56).toInt) (hpre_3 : (σ.1 56).toInt ≤ 11) (hr1 : r1 = LENF ((σ.2.2.1 52) k0.toNatClampNeg)) (c2 : 0 < r1.toInt) (hr82y : ∀ s9 : List Int, QTT ((σ.2.2.1 52) k0.toNatClampNeg) ((σ.2.2.1 53) k0.toNatClampNeg) s9 → 0 ≤ (0 : Int32).toInt → (0 : Int32).toInt < 17 → r82.toInt = s9.getD (0 : Int32).toInt.toNat 0) (c83 : r82.toInt = 45) (ex163 : x163 = r1 - (1 : Int32)) (tx163 : x163.toInt = r1.toInt - 1) (c164 : 1 ≤ x163.toInt) (ex193 : x193 = r1 - (1 : Int32)) (tx193 : x193.toInt = r1.toInt - 1) (c194 : x193.toInt ≤ 9) (hi55_0 : 0 ≤ y224.toInt) (hi55_1 : y224.toInt ≤ 130) (hi55_2 : y225.toInt = 0 ∨ y225.toInt = 1) (hi55y : ∀ s9 : List Int, QTT ((σ.2.2.1 52) k0.toNatClampNeg) ((σ.2.2.1 53) k0.toNatClampNeg) s9 → INL s9 (1 : Int32).toInt y223.toInt y224.toInt y225.toInt) (c226 : r1.toInt ≤ y224.toInt) (c227 : ¬ y225.toInt = 0) (ex231 : x231 = -y223) : ∀ s9 : List Int, QTT ((σ.2.2.1 52) k0.toNatClampNeg) ((σ.2.2.1 53) k0.toNatClampNeg) s9 → QI (qToI s9) x231.toInt (σ.1 56).toInt (σ.1 56).toInt := by
  have q0 : (0 : Int32).toInt = 0 := by decide +kernel
  have q1 : (1 : Int32).toInt = 1 := by decide +kernel
  have l_hr1 := LENF_le ((σ.2.2.1 52) k0.toNatClampNeg)
  rw [← hr1] at l_hr1
  intro s9 ht
  have e := q_len ht.1 ht.2.2.1 ht.2.2.2
  rw [← hr1] at e
  have z := hi55y s9 ht
  have zg := z.2.1
  have g0 := hr82y s9 ht (by omega) (by omega)
  rw [show (0 : Int32).toInt.toNat = 0 by decide +kernel] at g0
  rw [q1] at z
  exact z.fin1 (by rw [q_head (by omega)]; exact congrArg some (by omega)) (by omega) (fun h9 => by have vb := z.vb9 (by decide) (by omega); first | (rw [ex231, q_ng (by omega)]) | omega) (by omega)
-- post2 @146
theorem v_intOf_162 (σ : RS) (k0 : Int32) (r1 : Int32) (r82 : Int32) (x163 : Int32) (x193 : Int32) (y223 : Int32) (y224 : Int32) (y225 : Int32) (x235 : Int32) (hpre_0 : 0 ≤ k0.toInt) (hpre_1 : k0.toInt < 980) (hpre_2 : 0 ≤ (σ.1 56).toInt) (hpre_3 : (σ.1 56).toInt ≤ 11) (hr1 : r1 = LENF ((σ.2.2.1 52) k0.toNatClampNeg)) (c2 : 0 < r1.toInt) (hr82y : ∀ s9 : List Int, QTT ((σ.2.2.1 52) k0.toNatClampNeg) ((σ.2.2.1 53) k0.toNatClampNeg) s9 → 0 ≤ (0 : Int32).toInt → (0 : Int32).toInt < 17 → r82.toInt = s9.getD (0 : Int32).toInt.toNat 0) (c83 : r82.toInt = 45) (ex163 : x163 = r1 - (1 : Int32)) (tx163 : x163.toInt = r1.toInt - 1) (c164 : 1 ≤ x163.toInt) (ex193 : x193 = r1 - (1 : Int32)) (tx193 : x193.toInt = r1.toInt - 1) (c194 : x193.toInt ≤ 9) (hi55_0 : 0 ≤ y224.toInt) (hi55_1 : y224.toInt ≤ 130) (hi55_2 : y225.toInt = 0 ∨ y225.toInt = 1) (hi55y : ∀ s9 : List Int, QTT ((σ.2.2.1 52) k0.toNatClampNeg) ((σ.2.2.1 53) k0.toNatClampNeg) s9 → INL s9 (1 : Int32).toInt y223.toInt y224.toInt y225.toInt) (c226 : y224.toInt < r1.toInt) (c232 : y225.toInt = 0) (c233 : y225.toInt = 0) (ex235 : x235 = -y223) : ∀ s9 : List Int, QTT ((σ.2.2.1 52) k0.toNatClampNeg) ((σ.2.2.1 53) k0.toNatClampNeg) s9 → QI (qToI s9) x235.toInt (10 : Int32).toInt (σ.1 56).toInt := by
  have q0 : (0 : Int32).toInt = 0 := by decide +kernel
  have q1 : (1 : Int32).toInt = 1 := by decide +kernel
  have q10 : (10 : Int32).toInt = 10 := by decide +kernel
  have l_hr1 := LENF_le ((σ.2.2.1 52) k0.toNatClampNeg)
  rw [← hr1] at l_hr1
  intro s9 ht
  have e := q_len ht.1 ht.2.2.1 ht.2.2.2
  rw [← hr1] at e
  have z := hi55y s9 ht
  have zg := z.2.1
  have g0 := hr82y s9 ht (by omega) (by omega)
  rw [show (0 : Int32).toInt.toNat = 0 by decide +kernel] at g0
  rw [q1] at z
  exact z.fin1 (by rw [q_head (by omega)]; exact congrArg some (by omega)) (by omega) (fun h9 => by have vb := z.vb9 (by decide) (by omega); first | (rw [ex235, q_ng (by omega)]) | omega) (by omega)
-- dead@118 @121
theorem v_intOf_163 (y225 : Int32) (hi55_2 : y225.toInt = 0 ∨ y225.toInt = 1) (c232 : y225.toInt = 0) (c233 : ¬ y225.toInt = 0) : False := by
  first | assumption | omega | (subst_vars; omega) | trivial
-- pre:sign8@70 @70
theorem v_intOf_164 (σ : RS) (k0 : Int32) (r1 : Int32) (x163 : Int32) (x193 : Int32) (y224 : Int32) (hpre_0 : 0 ≤ k0.toInt) (hpre_1 : k0.toInt < 980) (hr1 : r1 = LENF ((σ.2.2.1 52) k0.toNatClampNeg)) (c2 : 0 < r1.toInt) (ex163 : x163 = r1 - (1 : Int32)) (tx163 : x163.toInt = r1.toInt - 1) (c164 : 1 ≤ x163.toInt) (ex193 : x193 = r1 - (1 : Int32)) (tx193 : x193.toInt = r1.toInt - 1) (c194 : x193.toInt ≤ 9) (hi55_0 : 0 ≤ y224.toInt) (hi55_1 : y224.toInt ≤ 130) (c226 : y224.toInt < r1.toInt) : 0 ≤ k0.toInt ∧ k0.toInt < 980 ∧ 0 ≤ y224.toInt ∧ y224.toInt ≤ 200 := by
  have q1 : (1 : Int32).toInt = 1 := by decide +kernel
  have l_hr1 := LENF_le ((σ.2.2.1 52) k0.toNatClampNeg)
  rw [← hr1] at l_hr1
  refine ⟨?_, ?_, ?_, ?_⟩ <;> first | assumption | omega | (subst_vars; omega) | trivial
-- nw@109 @109
theorem v_intOf_165 (σ : RS) (k0 : Int32) (r1 : Int32) (x163 : Int32) (x193 : Int32) (y224 : Int32) (x241 : Int32) (hpre_0 : 0 ≤ k0.toInt) (hpre_1 : k0.toInt < 980) (hr1 : r1 = LENF ((σ.2.2.1 52) k0.toNatClampNeg)) (c2 : 0 < r1.toInt) (ex163 : x163 = r1 - (1 : Int32)) (tx163 : x163.toInt = r1.toInt - 1) (c164 : 1 ≤ x163.toInt) (ex193 : x193 = r1 - (1 : Int32)) (tx193 : x193.toInt = r1.toInt - 1) (c194 : x193.toInt ≤ 9) (hi55_0 : 0 ≤ y224.toInt) (hi55_1 : y224.toInt ≤ 130) (c226 : y224.toInt < r1.toInt) (ex241 : x241 = y224 + (1 : Int32)) : x241.toInt = y224.toInt + 1 := by
  have q1 : (1 : Int32).toInt = 1 := by decide +kernel
  have l_hr1 := LENF_le ((σ.2.2.1 52) k0.toNatClampNeg)
  rw [← hr1] at l_hr1
  have z9 : (1 : Int32).toInt = 1 := by decide +kernel
  rw [ex241, z_add (by omega) (by omega)]; first | done | omega
-- inv@55 @55
theorem v_intOf_166 (σ : RS) (k0 : Int32) (r1 : Int32) (x163 : Int32) (x193 : Int32) (y224 : Int32) (x241 : Int32) (hpre_0 : 0 ≤ k0.toInt) (hpre_1 : k0.toInt < 980) (hr1 : r1 = LENF ((σ.2.2.1 52) k0.toNatClampNeg)) (c2 : 0 < r1.toInt) (ex163 : x163 = r1 - (1 : Int32)) (tx163 : x163.toInt = r1.toInt - 1) (c164 : 1 ≤ x163.toInt) (ex193 : x193 = r1 - (1 : Int32)) (tx193 : x193.toInt = r1.toInt - 1) (c194 : x193.toInt ≤ 9) (hi55_0 : 0 ≤ y224.toInt) (hi55_1 : y224.toInt ≤ 130) (c226 : y224.toInt < r1.toInt) (ex241 : x241 = y224 + (1 : Int32)) (tx241 : x241.toInt = y224.toInt + 1) : 0 ≤ x241.toInt ∧ x241.toInt ≤ 130 ∧ ((0 : Int32).toInt = 0 ∨ (0 : Int32).toInt = 1) := by
  have q0 : (0 : Int32).toInt = 0 := by decide +kernel
  have q1 : (1 : Int32).toInt = 1 := by decide +kernel
  have l_hr1 := LENF_le ((σ.2.2.1 52) k0.toNatClampNeg)
  rw [← hr1] at l_hr1
  refine ⟨?_, ?_, ?_⟩ <;> first | assumption | omega | (subst_vars; omega) | trivial
-- inv2@55 @55
theorem v_intOf_167 (σ : RS) (k0 : Int32) (r1 : Int32) (r82 : Int32) (x163 : Int32) (x193 : Int32) (y223 : Int32) (y224 : Int32) (y225 : Int32) (r236 : Int32) (x238 : Int32) (x239 : Int32) (x240 : Int32) (x241 : Int32) (hpre_0 : 0 ≤ k0.toInt) (hpre_1 : k0.toInt < 980) (hpre_2 : 0 ≤ (σ.1 56).toInt) (hpre_3 : (σ.1 56).toInt ≤ 11) (hr1 : r1 = LENF ((σ.2.2.1 52) k0.toNatClampNeg)) (c2 : 0 < r1.toInt) (hr82y : ∀ s9 : List Int, QTT ((σ.2.2.1 52) k0.toNatClampNeg) ((σ.2.2.1 53) k0.toNatClampNeg) s9 → 0 ≤ (0 : Int32).toInt → (0 : Int32).toInt < 17 → r82.toInt = s9.getD (0 : Int32).toInt.toNat 0) (c83 : r82.toInt = 45) (ex163 : x163 = r1 - (1 : Int32)) (tx163 : x163.toInt = r1.toInt - 1) (c164 : 1 ≤ x163.toInt) (ex193 : x193 = r1 - (1 : Int32)) (tx193 : x193.toInt = r1.toInt - 1) (c194 : x193.toInt ≤ 9) (hi55_0 : 0 ≤ y224.toInt) (hi55_1 : y224.toInt ≤ 130) (hi55_2 : y225.toInt = 0 ∨ y225.toInt = 1) (hi55y : ∀ s9 : List Int, QTT ((σ.2.2.1 52) k0.toNatClampNeg) ((σ.2.2.1 53) k0.toNatClampNeg) s9 → INL s9 (1 : Int32).toInt y223.toInt y224.toInt y225.toInt) (c226 : y224.toInt < r1.toInt) (c232 : ¬ y225.toInt = 0) (hr236y : ∀ s9 : List Int, QTT ((σ.2.2.1 52) k0.toNatClampNeg) ((σ.2.2.1 53) k0.toNatClampNeg) s9 → 0 ≤ y224.toInt → y224.toInt < 17 → r236.toInt = s9.getD y224.toInt.toNat 0) (c237 : r236.toInt < 48) (ex238 : x238 = (10 : Int32) * y223) (ex239 : x239 = x238 + r236) (ex240 : x240 = x239 - (48 : Int32)) (ex241 : x241 = y224 + (1 : Int32)) (tx241 : x241.toInt = y224.toInt + 1) : ∀ s9 : List Int, QTT ((σ.2.2.1 52) k0.toNatClampNeg) ((σ.2.2.1 53) k0.toNatClampNeg) s9 → INL s9 (1 : Int32).toInt x240.toInt x241.toInt (0 : Int32).toInt := by
  have q0 : (0 : Int32).toInt = 0 := by decide +kernel
  have q1 : (1 : Int32).toInt = 1 := by decide +kernel
  have q10 : (10 : Int32).toInt = 10 := by decide +kernel
  have q48 : (48 : Int32).toInt = 48 := by decide +kernel
  have l_hr1 := LENF_le ((σ.2.2.1 52) k0.toNatClampNeg)
  rw [← hr1] at l_hr1
  intro s9 ht
  have e := q_len ht.1 ht.2.2.1 ht.2.2.2
  rw [← hr1] at e
  have l16 := ht.2.2.1
  have z := hi55y s9 ht
  have g9 := hr236y s9 ht (by omega) (by omega)
  have z1 := z.1
  have vb := z.vb (by omega) (by omega) (by omega)
  have gb := q_gb (i := y224.toInt.toNat) ht.2.2.2
  have w10 : (10 : Int32).toInt = 10 := by decide +kernel
  have w48 : (48 : Int32).toInt = 48 := by decide +kernel
  have a9 : x238.toInt = 10 * y223.toInt := by rw [ex238]; exact z_mulc 10 w10 (by omega) (by omega)
  have b9 : x239.toInt = 10 * y223.toInt + r236.toInt := by rw [ex239, z_add (by omega) (by omega), a9]
  have v9 : x240.toInt = 10 * y223.toInt + (r236.toInt - 48) := by rw [ex240, z_sub (by omega) (by omega)]; omega
  exact z.step (by omega) (by omega) (by omega) (by omega) (by omega) (fun _ => by omega)
-- meas@55 @55
theorem v_intOf_168 (σ : RS) (k0 : Int32) (r1 : Int32) (x163 : Int32) (x193 : Int32) (y224 : Int32) (x241 : Int32) (hpre_0 : 0 ≤ k0.toInt) (hpre_1 : k0.toInt < 980) (hr1 : r1 = LENF ((σ.2.2.1 52) k0.toNatClampNeg)) (c2 : 0 < r1.toInt) (ex163 : x163 = r1 - (1 : Int32)) (tx163 : x163.toInt = r1.toInt - 1) (c164 : 1 ≤ x163.toInt) (ex193 : x193 = r1 - (1 : Int32)) (tx193 : x193.toInt = r1.toInt - 1) (c194 : x193.toInt ≤ 9) (hi55_0 : 0 ≤ y224.toInt) (hi55_1 : y224.toInt ≤ 130) (c226 : y224.toInt < r1.toInt) (ex241 : x241 = y224 + (1 : Int32)) (tx241 : x241.toInt = y224.toInt + 1) : (130 - x241.toInt).toNat < (130 - y224.toInt).toNat := by
  have q1 : (1 : Int32).toInt = 1 := by decide +kernel
  have l_hr1 := LENF_le ((σ.2.2.1 52) k0.toNatClampNeg)
  rw [← hr1] at l_hr1
  first | assumption | omega | (subst_vars; omega) | trivial
-- nw@109 @109
theorem v_intOf_169 (σ : RS) (k0 : Int32) (r1 : Int32) (x163 : Int32) (x193 : Int32) (y224 : Int32) (x246 : Int32) (hpre_0 : 0 ≤ k0.toInt) (hpre_1 : k0.toInt < 980) (hr1 : r1 = LENF ((σ.2.2.1 52) k0.toNatClampNeg)) (c2 : 0 < r1.toInt) (ex163 : x163 = r1 - (1 : Int32)) (tx163 : x163.toInt = r1.toInt - 1) (c164 : 1 ≤ x163.toInt) (ex193 : x193 = r1 - (1 : Int32)) (tx193 : x193.toInt = r1.toInt - 1) (c194 : x193.toInt ≤ 9) (hi55_0 : 0 ≤ y224.toInt) (hi55_1 : y224.toInt ≤ 130) (c226 : y224.toInt < r1.toInt) (ex246 : x246 = y224 + (1 : Int32)) : x246.toInt = y224.toInt + 1 := by
  have q1 : (1 : Int32).toInt = 1 := by decide +kernel
  have l_hr1 := LENF_le ((σ.2.2.1 52) k0.toNatClampNeg)
  rw [← hr1] at l_hr1
  have z9 : (1 : Int32).toInt = 1 := by decide +kernel
  rw [ex246, z_add (by omega) (by omega)]; first | done | omega
-- inv@55 @55
theorem v_intOf_170 (σ : RS) (k0 : Int32) (r1 : Int32) (x163 : Int32) (x193 : Int32) (y224 : Int32) (x246 : Int32) (hpre_0 : 0 ≤ k0.toInt) (hpre_1 : k0.toInt < 980) (hr1 : r1 = LENF ((σ.2.2.1 52) k0.toNatClampNeg)) (c2 : 0 < r1.toInt) (ex163 : x163 = r1 - (1 : Int32)) (tx163 : x163.toInt = r1.toInt - 1) (c164 : 1 ≤ x163.toInt) (ex193 : x193 = r1 - (1 : Int32)) (tx193 : x193.toInt = r1.toInt - 1) (c194 : x193.toInt ≤ 9) (hi55_0 : 0 ≤ y224.toInt) (hi55_1 : y224.toInt ≤ 130) (c226 : y224.toInt < r1.toInt) (ex246 : x246 = y224 + (1 : Int32)) (tx246 : x246.toInt = y224.toInt + 1) : 0 ≤ x246.toInt ∧ x246.toInt ≤ 130 ∧ ((0 : Int32).toInt = 0 ∨ (0 : Int32).toInt = 1) := by
  have q0 : (0 : Int32).toInt = 0 := by decide +kernel
  have q1 : (1 : Int32).toInt = 1 := by decide +kernel
  have l_hr1 := LENF_le ((σ.2.2.1 52) k0.toNatClampNeg)
  rw [← hr1] at l_hr1
  refine ⟨?_, ?_, ?_⟩ <;> first | assumption | omega | (subst_vars; omega) | trivial
-- inv2@55 @55
theorem v_intOf_171 (σ : RS) (k0 : Int32) (r1 : Int32) (r82 : Int32) (x163 : Int32) (x193 : Int32) (y223 : Int32) (y224 : Int32) (y225 : Int32) (r236 : Int32) (x243 : Int32) (x244 : Int32) (x245 : Int32) (x246 : Int32) (hpre_0 : 0 ≤ k0.toInt) (hpre_1 : k0.toInt < 980) (hpre_2 : 0 ≤ (σ.1 56).toInt) (hpre_3 : (σ.1 56).toInt ≤ 11) (hr1 : r1 = LENF ((σ.2.2.1 52) k0.toNatClampNeg)) (c2 : 0 < r1.toInt) (hr82y : ∀ s9 : List Int, QTT ((σ.2.2.1 52) k0.toNatClampNeg) ((σ.2.2.1 53) k0.toNatClampNeg) s9 → 0 ≤ (0 : Int32).toInt → (0 : Int32).toInt < 17 → r82.toInt = s9.getD (0 : Int32).toInt.toNat 0) (c83 : r82.toInt = 45) (ex163 : x163 = r1 - (1 : Int32)) (tx163 : x163.toInt = r1.toInt - 1) (c164 : 1 ≤ x163.toInt) (ex193 : x193 = r1 - (1 : Int32)) (tx193 : x193.toInt = r1.toInt - 1) (c194 : x193.toInt ≤ 9) (hi55_0 : 0 ≤ y224.toInt) (hi55_1 : y224.toInt ≤ 130) (hi55_2 : y225.toInt = 0 ∨ y225.toInt = 1) (hi55y : ∀ s9 : List Int, QTT ((σ.2.2.1 52) k0.toNatClampNeg) ((σ.2.2.1 53) k0.toNatClampNeg) s9 → INL s9 (1 : Int32).toInt y223.toInt y224.toInt y225.toInt) (c226 : y224.toInt < r1.toInt) (c232 : ¬ y225.toInt = 0) (hr236y : ∀ s9 : List Int, QTT ((σ.2.2.1 52) k0.toNatClampNeg) ((σ.2.2.1 53) k0.toNatClampNeg) s9 → 0 ≤ y224.toInt → y224.toInt < 17 → r236.toInt = s9.getD y224.toInt.toNat 0) (c237 : 48 ≤ r236.toInt) (c242 : 57 < r236.toInt) (ex243 : x243 = (10 : Int32) * y223) (ex244 : x244 = x243 + r236) (ex245 : x245 = x244 - (48 : Int32)) (ex246 : x246 = y224 + (1 : Int32)) (tx246 : x246.toInt = y224.toInt + 1) : ∀ s9 : List Int, QTT ((σ.2.2.1 52) k0.toNatClampNeg) ((σ.2.2.1 53) k0.toNatClampNeg) s9 → INL s9 (1 : Int32).toInt x245.toInt x246.toInt (0 : Int32).toInt := by
  have q0 : (0 : Int32).toInt = 0 := by decide +kernel
  have q1 : (1 : Int32).toInt = 1 := by decide +kernel
  have q10 : (10 : Int32).toInt = 10 := by decide +kernel
  have q48 : (48 : Int32).toInt = 48 := by decide +kernel
  have l_hr1 := LENF_le ((σ.2.2.1 52) k0.toNatClampNeg)
  rw [← hr1] at l_hr1
  intro s9 ht
  have e := q_len ht.1 ht.2.2.1 ht.2.2.2
  rw [← hr1] at e
  have l16 := ht.2.2.1
  have z := hi55y s9 ht
  have g9 := hr236y s9 ht (by omega) (by omega)
  have z1 := z.1
  have vb := z.vb (by omega) (by omega) (by omega)
  have gb := q_gb (i := y224.toInt.toNat) ht.2.2.2
  have w10 : (10 : Int32).toInt = 10 := by decide +kernel
  have w48 : (48 : Int32).toInt = 48 := by decide +kernel
  have a9 : x243.toInt = 10 * y223.toInt := by rw [ex243]; exact z_mulc 10 w10 (by omega) (by omega)
  have b9 : x244.toInt = 10 * y223.toInt + r236.toInt := by rw [ex244, z_add (by omega) (by omega), a9]
  have v9 : x245.toInt = 10 * y223.toInt + (r236.toInt - 48) := by rw [ex245, z_sub (by omega) (by omega)]; omega
  exact z.step (by omega) (by omega) (by omega) (by omega) (by omega) (fun _ => by omega)
-- meas@55 @55
theorem v_intOf_172 (σ : RS) (k0 : Int32) (r1 : Int32) (x163 : Int32) (x193 : Int32) (y224 : Int32) (x246 : Int32) (hpre_0 : 0 ≤ k0.toInt) (hpre_1 : k0.toInt < 980) (hr1 : r1 = LENF ((σ.2.2.1 52) k0.toNatClampNeg)) (c2 : 0 < r1.toInt) (ex163 : x163 = r1 - (1 : Int32)) (tx163 : x163.toInt = r1.toInt - 1) (c164 : 1 ≤ x163.toInt) (ex193 : x193 = r1 - (1 : Int32)) (tx193 : x193.toInt = r1.toInt - 1) (c194 : x193.toInt ≤ 9) (hi55_0 : 0 ≤ y224.toInt) (hi55_1 : y224.toInt ≤ 130) (c226 : y224.toInt < r1.toInt) (ex246 : x246 = y224 + (1 : Int32)) (tx246 : x246.toInt = y224.toInt + 1) : (130 - x246.toInt).toNat < (130 - y224.toInt).toNat := by
  have q1 : (1 : Int32).toInt = 1 := by decide +kernel
  have l_hr1 := LENF_le ((σ.2.2.1 52) k0.toNatClampNeg)
  rw [← hr1] at l_hr1
  first | assumption | omega | (subst_vars; omega) | trivial
-- nw@109 @109
theorem v_intOf_173 (σ : RS) (k0 : Int32) (r1 : Int32) (x163 : Int32) (x193 : Int32) (y224 : Int32) (x250 : Int32) (hpre_0 : 0 ≤ k0.toInt) (hpre_1 : k0.toInt < 980) (hr1 : r1 = LENF ((σ.2.2.1 52) k0.toNatClampNeg)) (c2 : 0 < r1.toInt) (ex163 : x163 = r1 - (1 : Int32)) (tx163 : x163.toInt = r1.toInt - 1) (c164 : 1 ≤ x163.toInt) (ex193 : x193 = r1 - (1 : Int32)) (tx193 : x193.toInt = r1.toInt - 1) (c194 : x193.toInt ≤ 9) (hi55_0 : 0 ≤ y224.toInt) (hi55_1 : y224.toInt ≤ 130) (c226 : y224.toInt < r1.toInt) (ex250 : x250 = y224 + (1 : Int32)) : x250.toInt = y224.toInt + 1 := by
  have q1 : (1 : Int32).toInt = 1 := by decide +kernel
  have l_hr1 := LENF_le ((σ.2.2.1 52) k0.toNatClampNeg)
  rw [← hr1] at l_hr1
  have z9 : (1 : Int32).toInt = 1 := by decide +kernel
  rw [ex250, z_add (by omega) (by omega)]; first | done | omega
-- inv@55 @55
theorem v_intOf_174 (σ : RS) (k0 : Int32) (r1 : Int32) (x163 : Int32) (x193 : Int32) (y224 : Int32) (x250 : Int32) (hpre_0 : 0 ≤ k0.toInt) (hpre_1 : k0.toInt < 980) (hr1 : r1 = LENF ((σ.2.2.1 52) k0.toNatClampNeg)) (c2 : 0 < r1.toInt) (ex163 : x163 = r1 - (1 : Int32)) (tx163 : x163.toInt = r1.toInt - 1) (c164 : 1 ≤ x163.toInt) (ex193 : x193 = r1 - (1 : Int32)) (tx193 : x193.toInt = r1.toInt - 1) (c194 : x193.toInt ≤ 9) (hi55_0 : 0 ≤ y224.toInt) (hi55_1 : y224.toInt ≤ 130) (c226 : y224.toInt < r1.toInt) (ex250 : x250 = y224 + (1 : Int32)) (tx250 : x250.toInt = y224.toInt + 1) : 0 ≤ x250.toInt ∧ x250.toInt ≤ 130 ∧ ((1 : Int32).toInt = 0 ∨ (1 : Int32).toInt = 1) := by
  have q1 : (1 : Int32).toInt = 1 := by decide +kernel
  have l_hr1 := LENF_le ((σ.2.2.1 52) k0.toNatClampNeg)
  rw [← hr1] at l_hr1
  refine ⟨?_, ?_, ?_⟩ <;> first | assumption | omega | (subst_vars; omega) | trivial
-- inv2@55 @55
theorem v_intOf_175 (σ : RS) (k0 : Int32) (r1 : Int32) (r82 : Int32) (x163 : Int32) (x193 : Int32) (y223 : Int32) (y224 : Int32) (y225 : Int32) (r236 : Int32) (x247 : Int32) (x248 : Int32) (x249 : Int32) (x250 : Int32) (hpre_0 : 0 ≤ k0.toInt) (hpre_1 : k0.toInt < 980) (hpre_2 : 0 ≤ (σ.1 56).toInt) (hpre_3 : (σ.1 56).toInt ≤ 11) (hr1 : r1 = LENF ((σ.2.2.1 52) k0.toNatClampNeg)) (c2 : 0 < r1.toInt) (hr82y : ∀ s9 : List Int, QTT ((σ.2.2.1 52) k0.toNatClampNeg) ((σ.2.2.1 53) k0.toNatClampNeg) s9 → 0 ≤ (0 : Int32).toInt → (0 : Int32).toInt < 17 → r82.toInt = s9.getD (0 : Int32).toInt.toNat 0) (c83 : r82.toInt = 45) (ex163 : x163 = r1 - (1 : Int32)) (tx163 : x163.toInt = r1.toInt - 1) (c164 : 1 ≤ x163.toInt) (ex193 : x193 = r1 - (1 : Int32)) (tx193 : x193.toInt = r1.toInt - 1) (c194 : x193.toInt ≤ 9) (hi55_0 : 0 ≤ y224.toInt) (hi55_1 : y224.toInt ≤ 130) (hi55_2 : y225.toInt = 0 ∨ y225.toInt = 1) (hi55y : ∀ s9 : List Int, QTT ((σ.2.2.1 52) k0.toNatClampNeg) ((σ.2.2.1 53) k0.toNatClampNeg) s9 → INL s9 (1 : Int32).toInt y223.toInt y224.toInt y225.toInt) (c226 : y224.toInt < r1.toInt) (c232 : ¬ y225.toInt = 0) (hr236y : ∀ s9 : List Int, QTT ((σ.2.2.1 52) k0.toNatClampNeg) ((σ.2.2.1 53) k0.toNatClampNeg) s9 → 0 ≤ y224.toInt → y224.toInt < 17 → r236.toInt = s9.getD y224.toInt.toNat 0) (c237 : 48 ≤ r236.toInt) (c242 : r236.toInt ≤ 57) (ex247 : x247 = (10 : Int32) * y223) (ex248 : x248 = x247 + r236) (ex249 : x249 = x248 - (48 : Int32)) (ex250 : x250 = y224 + (1 : Int32)) (tx250 : x250.toInt = y224.toInt + 1) : ∀ s9 : List Int, QTT ((σ.2.2.1 52) k0.toNatClampNeg) ((σ.2.2.1 53) k0.toNatClampNeg) s9 → INL s9 (1 : Int32).toInt x249.toInt x250.toInt (1 : Int32).toInt := by
  have q0 : (0 : Int32).toInt = 0 := by decide +kernel
  have q1 : (1 : Int32).toInt = 1 := by decide +kernel
  have q10 : (10 : Int32).toInt = 10 := by decide +kernel
  have q48 : (48 : Int32).toInt = 48 := by decide +kernel
  have l_hr1 := LENF_le ((σ.2.2.1 52) k0.toNatClampNeg)
  rw [← hr1] at l_hr1
  intro s9 ht
  have e := q_len ht.1 ht.2.2.1 ht.2.2.2
  rw [← hr1] at e
  have l16 := ht.2.2.1
  have z := hi55y s9 ht
  have g9 := hr236y s9 ht (by omega) (by omega)
  have z1 := z.1
  have vb := z.vb (by omega) (by omega) (by omega)
  have gb := q_gb (i := y224.toInt.toNat) ht.2.2.2
  have w10 : (10 : Int32).toInt = 10 := by decide +kernel
  have w48 : (48 : Int32).toInt = 48 := by decide +kernel
  have a9 : x247.toInt = 10 * y223.toInt := by rw [ex247]; exact z_mulc 10 w10 (by omega) (by omega)
  have b9 : x248.toInt = 10 * y223.toInt + r236.toInt := by rw [ex248, z_add (by omega) (by omega), a9]
  have v9 : x249.toInt = 10 * y223.toInt + (r236.toInt - 48) := by rw [ex249, z_sub (by omega) (by omega)]; omega
  exact z.step (by omega) (by omega) (by omega) (by omega) (by omega) (fun _ => by omega)
-- meas@55 @55
theorem v_intOf_176 (σ : RS) (k0 : Int32) (r1 : Int32) (x163 : Int32) (x193 : Int32) (y224 : Int32) (x250 : Int32) (hpre_0 : 0 ≤ k0.toInt) (hpre_1 : k0.toInt < 980) (hr1 : r1 = LENF ((σ.2.2.1 52) k0.toNatClampNeg)) (c2 : 0 < r1.toInt) (ex163 : x163 = r1 - (1 : Int32)) (tx163 : x163.toInt = r1.toInt - 1) (c164 : 1 ≤ x163.toInt) (ex193 : x193 = r1 - (1 : Int32)) (tx193 : x193.toInt = r1.toInt - 1) (c194 : x193.toInt ≤ 9) (hi55_0 : 0 ≤ y224.toInt) (hi55_1 : y224.toInt ≤ 130) (c226 : y224.toInt < r1.toInt) (ex250 : x250 = y224 + (1 : Int32)) (tx250 : x250.toInt = y224.toInt + 1) : (130 - x250.toInt).toNat < (130 - y224.toInt).toNat := by
  have q1 : (1 : Int32).toInt = 1 := by decide +kernel
  have l_hr1 := LENF_le ((σ.2.2.1 52) k0.toNatClampNeg)
  rw [← hr1] at l_hr1
  first | assumption | omega | (subst_vars; omega) | trivial
set_option maxHeartbeats 4000000 in
set_option maxRecDepth 100000 in
theorem L_intOf_55_1 {p : Program} {e : Env} {s : State} {m : MethodId} {below : List Frame} {meth : Method} {c : Code} (l : Launch) (D : va_G) (cy : Nat → ClassId) (sz0 : Nat) (sa : Nat → Nat) (ad : Nat → Nat) (sz : Nat) (σ : RS) (k0 : Int32) (r1 : Int32) (x3 : Int32) (C : RC p s m #[.ref (ad 0), .int k0] meth c cX12_intOf 8 (some .int) D cy sz0 sa ad (AR cy ad sz)) (hpre_0 : 0 ≤ k0.toInt) (hpre_1 : k0.toInt < 980) (hpre_2 : 0 ≤ (σ.1 56).toInt) (hpre_3 : (σ.1 56).toInt ≤ 11) (hr1 : r1 = LENF ((σ.2.2.1 52) k0.toNatClampNeg)) (c2 : r1.toInt ≤ 0) (ex3 : x3 = r1 - (0 : Int32)) (tx3 : x3.toInt = r1.toInt - 0) (c4 : x3.toInt < 1) : ∀ (n : Nat) (y5 : Int32) (y6 : Int32) (y7 : Int32) (H : Heap) (locs : List Loc) (ls : Array Slot), (130 - y6.toInt).toNat < n → ((0 ≤ y6.toInt ∧ y6.toInt ≤ 130 ∧ (y7.toInt = 0 ∨ y7.toInt = 1)) ∧ (∀ s9 : List Int, QTT ((σ.2.2.1 52) k0.toNatClampNeg) ((σ.2.2.1 53) k0.toNatClampNeg) s9 → INL s9 (0 : Int32).toInt y5.toInt y6.toInt y7.toInt)) → RP D cy ad σ H → va_S (AR cy ad sz) s.heap H locs → lv_has ls 8 [(6, .int y6), (5, .int y5), (4, .int y7), (3, .int 0), (2, .int r1), (0, .ref (ad 0)), (1, .int k0)] → W p l e (headSpec (Cond.code yX12_intOf cX12_intOf 8 (some .int) :: GWm) ({ frames := 1, cells := 0, slots := 0, locals := 22 })).room s m #[.ref (ad 0), .int k0] below meth c H locs 0 0 (MQ below (va_Qi (fun (r : Int32) (u : Int32) => (0 ≤ u.toInt ∧ u.toInt ≤ 11) ∧ (∀ s9 : List Int, QTT ((σ.2.2.1 52) k0.toNatClampNeg) ((σ.2.2.1 53) k0.toNatClampNeg) s9 → QI (qToI s9) r.toInt u.toInt (σ.1 56).toInt)) (fun (u : Int32) (t : State) => RP D cy ad (rS σ 56 u) t.heap) (AR cy ad sz)) #[.ref (ad 0), .int k0] s 0 0 (AR cy ad sz)) (F0 m 55 ls []) := by
  have hx := C.1
  have hb := C.2.1
  have hown := C.2.2.2.2.1
  have hw := C.2.2.2.2.2.1
  intro n
  induction n with
  | zero => intro y5 y6 y7 H locs ls hn; exact absurd hn (Nat.not_lt_zero _)
  | succ n ih55 =>
    intro y5 y6 y7 H locs ls hn55 hi55 hP hS hl
    obtain ⟨hi55, hi55y⟩ := hi55
    obtain ⟨hi55_0, hi55_1, hi55_2⟩ := hi55
    refine lv_iload hx hb dX12_intOf_55 (lv_at hl 0 rfl) ?_
    refine lv_iload_n hx hb dX12_intOf_57 rfl (lv_at hl 4 rfl) ?_
    refine lv_icmp_ge (tgt := 115) hx hb dX12_intOf_58 (by decide) (fun c8 => ?_) (fun c8 => ?_)
    · have c8 : r1.toInt ≤ y6.toInt := by have h := z_le c8; exact h
      refine lv_aload_n hx hb dX12_intOf_115 rfl (lv_at hl 5 rfl) ?_
      refine lv_iload hx hb dX12_intOf_116 (lv_at hl 2 rfl) ?_
      refine lv_if_eq (tgt := 128) hx hb dX12_intOf_118 (by decide) (fun c9 => ?_) (fun c9 => ?_)
      · have c9 : y7.toInt = 0 := by have h := z_eq c9; rw [show (0 : Int32).toInt = 0 from by decide +kernel] at h; exact h
        refine lv_bipush (v := 10) hx hb dX12_intOf_128 (by decide +kernel) ?_
        refine rp_56 C hP hS wm_242 dX12_intOf_130 (fun H locs hP hS => ?_)
        refine lv_iload_n hx hb dX12_intOf_133 rfl (lv_at hl 3 rfl) ?_
        refine lv_iconst (v := 1) hx hb dX12_intOf_134 (by decide +kernel) ?_
        refine lv_icmp_ne (tgt := 144) hx hb dX12_intOf_135 (by decide) (fun _ => ?_) (fun c10 => absurd c10 (by decide +kernel))
        refine lv_iload hx hb dX12_intOf_144 (lv_at hl 1 rfl) ?_
        exact r_reti C (10 : Int32) ⟨(v_intOf_5  ), (v_intOf_6 σ k0 r1 x3 y5 y6 y7 hpre_0 hpre_1 hpre_2 hpre_3 hr1 c2 ex3 tx3 c4 hi55_0 hi55_1 hi55_2 hi55y c8 c9)⟩ hP hS dX12_intOf_146
      · have c9 : ¬ y7.toInt = 0 := by have h := z_ne c9; rw [show (0 : Int32).toInt = 0 from by decide +kernel] at h; exact h
        refine lv_aload_n hx hb dX12_intOf_121 rfl (lv_at hl 5 rfl) ?_
        refine rg_56 (v := (σ.1 56)) C hP rfl wm_242 dX12_intOf_122 ?_
        refine lv_goto (tgt := 130) hx hb dX12_intOf_125 (by decide) ?_
        refine rp_56 C hP hS wm_242 dX12_intOf_130 (fun H locs hP hS => ?_)
        refine lv_iload_n hx hb dX12_intOf_133 rfl (lv_at hl 3 rfl) ?_
        refine lv_iconst (v := 1) hx hb dX12_intOf_134 (by decide +kernel) ?_
        refine lv_icmp_ne (tgt := 144) hx hb dX12_intOf_135 (by decide) (fun _ => ?_) (fun c11 => absurd c11 (by decide +kernel))
        refine lv_iload hx hb dX12_intOf_144 (lv_at hl 1 rfl) ?_
        exact r_reti C (σ.1 56) ⟨(v_intOf_7 σ hpre_2 hpre_3), (v_intOf_8 σ k0 r1 x3 y5 y6 y7 hpre_0 hpre_1 hpre_2 hpre_3 hr1 c2 ex3 tx3 c4 hi55_0 hi55_1 hi55_2 hi55y c8 c9)⟩ hP hS dX12_intOf_146
    · have c8 : y6.toInt < r1.toInt := by have h := z_nle c8; exact h
      refine lv_iload hx hb dX12_intOf_61 (lv_at hl 2 rfl) ?_
      refine lv_if_eq (tgt := 115) hx hb dX12_intOf_63 (by decide) (fun c12 => ?_) (fun c12 => ?_)
      · have c12 : y7.toInt = 0 := by have h := z_eq c12; rw [show (0 : Int32).toInt = 0 from by decide +kernel] at h; exact h
        refine lv_aload_n hx hb dX12_intOf_115 rfl (lv_at hl 5 rfl) ?_
        refine lv_iload hx hb dX12_intOf_116 (lv_at hl 2 rfl) ?_
        refine lv_if_eq (tgt := 128) hx hb dX12_intOf_118 (by decide) (fun c13 => ?_) (fun c13 => ?_)
        · have c13 : y7.toInt = 0 := by have h := z_eq c13; rw [show (0 : Int32).toInt = 0 from by decide +kernel] at h; exact h
          refine lv_bipush (v := 10) hx hb dX12_intOf_128 (by decide +kernel) ?_
          refine rp_56 C hP hS wm_242 dX12_intOf_130 (fun H locs hP hS => ?_)
          refine lv_iload_n hx hb dX12_intOf_133 rfl (lv_at hl 3 rfl) ?_
          refine lv_iconst (v := 1) hx hb dX12_intOf_134 (by decide +kernel) ?_
          refine lv_icmp_ne (tgt := 144) hx hb dX12_intOf_135 (by decide) (fun _ => ?_) (fun c14 => absurd c14 (by decide +kernel))
          refine lv_iload hx hb dX12_intOf_144 (lv_at hl 1 rfl) ?_
          exact r_reti C (10 : Int32) ⟨(v_intOf_5  ), (v_intOf_9 σ k0 r1 x3 y5 y6 y7 hpre_0 hpre_1 hpre_2 hpre_3 hr1 c2 ex3 tx3 c4 hi55_0 hi55_1 hi55_2 hi55y c8 c12 c13)⟩ hP hS dX12_intOf_146
        · have c13 : ¬ y7.toInt = 0 := by have h := z_ne c13; rw [show (0 : Int32).toInt = 0 from by decide +kernel] at h; exact h
          exact absurd (v_intOf_10 y7 hi55_2 c12 c13) id
      · have c12 : ¬ y7.toInt = 0 := by have h := z_ne c12; rw [show (0 : Int32).toInt = 0 from by decide +kernel] at h; exact h
        refine lv_aload_n hx hb dX12_intOf_66 rfl (lv_at hl 5 rfl) ?_
        refine lv_iload_n hx hb dX12_intOf_67 rfl (lv_at hl 6 rfl) ?_
        refine lv_iload hx hb dX12_intOf_68 (lv_at hl 0 rfl) ?_
        refine r_callVi (As := [.int k0, .int y6]) (rest := []) C hP hS hl.1 ⟨Nat.zero_le _, Nat.zero_le _⟩ (M_sign8 l D cy sz0 sa ad σ H.size k0 y6 (v_intOf_11 σ k0 r1 x3 y6 hpre_0 hpre_1 hr1 c2 ex3 tx3 c4 hi55_0 hi55_1 c8)) (n := 2) ⟨wm_231, wm_217, by decide +kernel⟩ ⟨wm_232, wm_233, wm_10⟩ rfl rfl (lv_room (Nat.le_of_ble_eq_true rfl)) ⟨Nat.le_of_ble_eq_true rfl, Nat.le_of_ble_eq_true rfl⟩ dX12_intOf_70 (fun r15 u H locs hr15 hP hS => ?_)
        obtain ⟨hr15, hr15y⟩ := hr15
        have hr15y : ∀ s9 : List Int, QTT ((σ.2.2.1 52) k0.toNatClampNeg) ((σ.2.2.1 53) k0.toNatClampNeg) s9 → 0 ≤ y6.toInt → y6.toInt < 17 → r15.toInt = s9.getD y6.toInt.toNat 0 := hr15y
        have hr15 : True := hr15
        refine lv_istore (lv' := [(7, .int r15), (6, .int y6), (5, .int y5), (4, .int y7), (3, .int 0), (2, .int r1), (0, .ref (ad 0)), (1, .int k0)]) hx hb dX12_intOf_73 hl (by decide) rfl (fun ls hl => ?_)
        refine lv_iload hx hb dX12_intOf_75 (lv_at hl 0 rfl) ?_
        refine lv_bipush (v := 48) hx hb dX12_intOf_77 (by decide +kernel) ?_
        refine lv_icmp_lt (tgt := 93) hx hb dX12_intOf_79 (by decide) (fun c16 => ?_) (fun c16 => ?_)
        · have c16 : r15.toInt < 48 := by have h := z_lt c16; rw [show (48 : Int32).toInt = 48 from by decide +kernel] at h; exact h
          refine lv_iconst (v := 0) hx hb dX12_intOf_93 (by decide +kernel) ?_
          refine lv_istore (lv' := [(4, .int 0), (7, .int r15), (6, .int y6), (5, .int y5), (3, .int 0), (2, .int r1), (0, .ref (ad 0)), (1, .int k0)]) hx hb dX12_intOf_94 hl (by decide) rfl (fun ls hl => ?_)
          refine lv_bipush (v := 10) hx hb dX12_intOf_96 (by decide +kernel) ?_
          refine lv_iload hx hb dX12_intOf_98 (lv_at hl 3 rfl) ?_
          refine lv_imul hx hb dX12_intOf_100 ?_
          refine lv_topi (fun x17 ex17 => ?_)
          refine lv_iload hx hb dX12_intOf_101 (lv_at hl 1 rfl) ?_
          refine lv_iadd hx hb dX12_intOf_103 ?_
          refine lv_topi (fun x18 ex18 => ?_)
          refine lv_bipush (v := 48) hx hb dX12_intOf_104 (by decide +kernel) ?_
          refine lv_isub hx hb dX12_intOf_106 ?_
          refine lv_topi (fun x19 ex19 => ?_)
          refine lv_istore (lv' := [(5, .int x19), (4, .int 0), (7, .int r15), (6, .int y6), (3, .int 0), (2, .int r1), (0, .ref (ad 0)), (1, .int k0)]) hx hb dX12_intOf_107 hl (by decide) rfl (fun ls hl => ?_)
          obtain ⟨x20, ex20⟩ : ∃ y : Int32, y = y6 + (1 : Int32) := ⟨_, rfl⟩
          have tx20 : x20.toInt = y6.toInt + 1 := (v_intOf_12 σ k0 r1 x3 y6 x20 hpre_0 hpre_1 hr1 c2 ex3 tx3 c4 hi55_0 hi55_1 c8 ex20)
          refine lv_iinc (v := x20) (lv' := [(6, .int x20), (5, .int x19), (4, .int 0), (7, .int r15), (3, .int 0), (2, .int r1), (0, .ref (ad 0)), (1, .int k0)]) hx hb dX12_intOf_109 hl (k := 3) rfl (by rw [ex20]; rfl) (by decide) rfl (fun ls hl => ?_)
          refine lv_goto (tgt := 55) hx hb dX12_intOf_112 (by decide) ?_
          exact ih55 x19 x20 (0 : Int32) _ _ _ (Nat.lt_of_lt_of_le (v_intOf_15 σ k0 r1 x3 y6 x20 hpre_0 hpre_1 hr1 c2 ex3 tx3 c4 hi55_0 hi55_1 c8 ex20 tx20) (Nat.le_of_lt_succ hn55)) ⟨(v_intOf_13 σ k0 r1 x3 y6 x20 hpre_0 hpre_1 hr1 c2 ex3 tx3 c4 hi55_0 hi55_1 c8 ex20 tx20), (v_intOf_14 σ k0 r1 x3 y5 y6 y7 r15 x17 x18 x19 x20 hpre_0 hpre_1 hpre_2 hpre_3 hr1 c2 ex3 tx3 c4 hi55_0 hi55_1 hi55_2 hi55y c8 c12 hr15y c16 ex17 ex18 ex19 ex20 tx20)⟩ hP hS (lv_sub hl [0, 1, 2, 4, 5, 6, 7] rfl)
        · have c16 : 48 ≤ r15.toInt := by have h := z_nlt c16; rw [show (48 : Int32).toInt = 48 from by decide +kernel] at h; exact h
          refine lv_iload hx hb dX12_intOf_82 (lv_at hl 0 rfl) ?_
          refine lv_bipush (v := 57) hx hb dX12_intOf_84 (by decide +kernel) ?_
          refine lv_icmp_gt (tgt := 93) hx hb dX12_intOf_86 (by decide) (fun c21 => ?_) (fun c21 => ?_)
          · have c21 : 57 < r15.toInt := by have h := z_lt c21; rw [show (57 : Int32).toInt = 57 from by decide +kernel] at h; exact h
            refine lv_iconst (v := 0) hx hb dX12_intOf_93 (by decide +kernel) ?_
            refine lv_istore (lv' := [(4, .int 0), (7, .int r15), (6, .int y6), (5, .int y5), (3, .int 0), (2, .int r1), (0, .ref (ad 0)), (1, .int k0)]) hx hb dX12_intOf_94 hl (by decide) rfl (fun ls hl => ?_)
            refine lv_bipush (v := 10) hx hb dX12_intOf_96 (by decide +kernel) ?_
            refine lv_iload hx hb dX12_intOf_98 (lv_at hl 3 rfl) ?_
            refine lv_imul hx hb dX12_intOf_100 ?_
            refine lv_topi (fun x22 ex22 => ?_)
            refine lv_iload hx hb dX12_intOf_101 (lv_at hl 1 rfl) ?_
            refine lv_iadd hx hb dX12_intOf_103 ?_
            refine lv_topi (fun x23 ex23 => ?_)
            refine lv_bipush (v := 48) hx hb dX12_intOf_104 (by decide +kernel) ?_
            refine lv_isub hx hb dX12_intOf_106 ?_
            refine lv_topi (fun x24 ex24 => ?_)
            refine lv_istore (lv' := [(5, .int x24), (4, .int 0), (7, .int r15), (6, .int y6), (3, .int 0), (2, .int r1), (0, .ref (ad 0)), (1, .int k0)]) hx hb dX12_intOf_107 hl (by decide) rfl (fun ls hl => ?_)
            obtain ⟨x25, ex25⟩ : ∃ y : Int32, y = y6 + (1 : Int32) := ⟨_, rfl⟩
            have tx25 : x25.toInt = y6.toInt + 1 := (v_intOf_16 σ k0 r1 x3 y6 x25 hpre_0 hpre_1 hr1 c2 ex3 tx3 c4 hi55_0 hi55_1 c8 ex25)
            refine lv_iinc (v := x25) (lv' := [(6, .int x25), (5, .int x24), (4, .int 0), (7, .int r15), (3, .int 0), (2, .int r1), (0, .ref (ad 0)), (1, .int k0)]) hx hb dX12_intOf_109 hl (k := 3) rfl (by rw [ex25]; rfl) (by decide) rfl (fun ls hl => ?_)
            refine lv_goto (tgt := 55) hx hb dX12_intOf_112 (by decide) ?_
            exact ih55 x24 x25 (0 : Int32) _ _ _ (Nat.lt_of_lt_of_le (v_intOf_19 σ k0 r1 x3 y6 x25 hpre_0 hpre_1 hr1 c2 ex3 tx3 c4 hi55_0 hi55_1 c8 ex25 tx25) (Nat.le_of_lt_succ hn55)) ⟨(v_intOf_17 σ k0 r1 x3 y6 x25 hpre_0 hpre_1 hr1 c2 ex3 tx3 c4 hi55_0 hi55_1 c8 ex25 tx25), (v_intOf_18 σ k0 r1 x3 y5 y6 y7 r15 x22 x23 x24 x25 hpre_0 hpre_1 hpre_2 hpre_3 hr1 c2 ex3 tx3 c4 hi55_0 hi55_1 hi55_2 hi55y c8 c12 hr15y c16 c21 ex22 ex23 ex24 ex25 tx25)⟩ hP hS (lv_sub hl [0, 1, 2, 4, 5, 6, 7] rfl)
          · have c21 : r15.toInt ≤ 57 := by have h := z_nlt c21; rw [show (57 : Int32).toInt = 57 from by decide +kernel] at h; exact h
            refine lv_iconst (v := 1) hx hb dX12_intOf_89 (by decide +kernel) ?_
            refine lv_goto (tgt := 94) hx hb dX12_intOf_90 (by decide) ?_
            refine lv_istore (lv' := [(4, .int 1), (7, .int r15), (6, .int y6), (5, .int y5), (3, .int 0), (2, .int r1), (0, .ref (ad 0)), (1, .int k0)]) hx hb dX12_intOf_94 hl (by decide) rfl (fun ls hl => ?_)
            refine lv_bipush (v := 10) hx hb dX12_intOf_96 (by decide +kernel) ?_
            refine lv_iload hx hb dX12_intOf_98 (lv_at hl 3 rfl) ?_
            refine lv_imul hx hb dX12_intOf_100 ?_
            refine lv_topi (fun x26 ex26 => ?_)
            refine lv_iload hx hb dX12_intOf_101 (lv_at hl 1 rfl) ?_
            refine lv_iadd hx hb dX12_intOf_103 ?_
            refine lv_topi (fun x27 ex27 => ?_)
            refine lv_bipush (v := 48) hx hb dX12_intOf_104 (by decide +kernel) ?_
            refine lv_isub hx hb dX12_intOf_106 ?_
            refine lv_topi (fun x28 ex28 => ?_)
            refine lv_istore (lv' := [(5, .int x28), (4, .int 1), (7, .int r15), (6, .int y6), (3, .int 0), (2, .int r1), (0, .ref (ad 0)), (1, .int k0)]) hx hb dX12_intOf_107 hl (by decide) rfl (fun ls hl => ?_)
            obtain ⟨x29, ex29⟩ : ∃ y : Int32, y = y6 + (1 : Int32) := ⟨_, rfl⟩
            have tx29 : x29.toInt = y6.toInt + 1 := (v_intOf_20 σ k0 r1 x3 y6 x29 hpre_0 hpre_1 hr1 c2 ex3 tx3 c4 hi55_0 hi55_1 c8 ex29)
            refine lv_iinc (v := x29) (lv' := [(6, .int x29), (5, .int x28), (4, .int 1), (7, .int r15), (3, .int 0), (2, .int r1), (0, .ref (ad 0)), (1, .int k0)]) hx hb dX12_intOf_109 hl (k := 3) rfl (by rw [ex29]; rfl) (by decide) rfl (fun ls hl => ?_)
            refine lv_goto (tgt := 55) hx hb dX12_intOf_112 (by decide) ?_
            exact ih55 x28 x29 (1 : Int32) _ _ _ (Nat.lt_of_lt_of_le (v_intOf_23 σ k0 r1 x3 y6 x29 hpre_0 hpre_1 hr1 c2 ex3 tx3 c4 hi55_0 hi55_1 c8 ex29 tx29) (Nat.le_of_lt_succ hn55)) ⟨(v_intOf_21 σ k0 r1 x3 y6 x29 hpre_0 hpre_1 hr1 c2 ex3 tx3 c4 hi55_0 hi55_1 c8 ex29 tx29), (v_intOf_22 σ k0 r1 x3 y5 y6 y7 r15 x26 x27 x28 x29 hpre_0 hpre_1 hpre_2 hpre_3 hr1 c2 ex3 tx3 c4 hi55_0 hi55_1 hi55_2 hi55y c8 c12 hr15y c16 c21 ex26 ex27 ex28 ex29 tx29)⟩ hP hS (lv_sub hl [0, 1, 2, 4, 5, 6, 7] rfl)
set_option maxHeartbeats 4000000 in
set_option maxRecDepth 100000 in
theorem L_intOf_55_2 {p : Program} {e : Env} {s : State} {m : MethodId} {below : List Frame} {meth : Method} {c : Code} (l : Launch) (D : va_G) (cy : Nat → ClassId) (sz0 : Nat) (sa : Nat → Nat) (ad : Nat → Nat) (sz : Nat) (σ : RS) (k0 : Int32) (r1 : Int32) (x3 : Int32) (x30 : Int32) (C : RC p s m #[.ref (ad 0), .int k0] meth c cX12_intOf 8 (some .int) D cy sz0 sa ad (AR cy ad sz)) (hpre_0 : 0 ≤ k0.toInt) (hpre_1 : k0.toInt < 980) (hpre_2 : 0 ≤ (σ.1 56).toInt) (hpre_3 : (σ.1 56).toInt ≤ 11) (hr1 : r1 = LENF ((σ.2.2.1 52) k0.toNatClampNeg)) (c2 : r1.toInt ≤ 0) (ex3 : x3 = r1 - (0 : Int32)) (tx3 : x3.toInt = r1.toInt - 0) (c4 : 1 ≤ x3.toInt) (ex30 : x30 = r1 - (0 : Int32)) (tx30 : x30.toInt = r1.toInt - 0) (c31 : 9 < x30.toInt) : ∀ (n : Nat) (y32 : Int32) (y33 : Int32) (y34 : Int32) (H : Heap) (locs : List Loc) (ls : Array Slot), (130 - y33.toInt).toNat < n → ((0 ≤ y33.toInt ∧ y33.toInt ≤ 130 ∧ (y34.toInt = 0 ∨ y34.toInt = 1)) ∧ (∀ s9 : List Int, QTT ((σ.2.2.1 52) k0.toNatClampNeg) ((σ.2.2.1 53) k0.toNatClampNeg) s9 → INL s9 (0 : Int32).toInt y32.toInt y33.toInt y34.toInt)) → RP D cy ad σ H → va_S (AR cy ad sz) s.heap H locs → lv_has ls 8 [(6, .int y33), (5, .int y32), (4, .int y34), (3, .int 0), (2, .int r1), (0, .ref (ad 0)), (1, .int k0)] → W p l e (headSpec (Cond.code yX12_intOf cX12_intOf 8 (some .int) :: GWm) ({ frames := 1, cells := 0, slots := 0, locals := 22 })).room s m #[.ref (ad 0), .int k0] below meth c H locs 0 0 (MQ below (va_Qi (fun (r : Int32) (u : Int32) => (0 ≤ u.toInt ∧ u.toInt ≤ 11) ∧ (∀ s9 : List Int, QTT ((σ.2.2.1 52) k0.toNatClampNeg) ((σ.2.2.1 53) k0.toNatClampNeg) s9 → QI (qToI s9) r.toInt u.toInt (σ.1 56).toInt)) (fun (u : Int32) (t : State) => RP D cy ad (rS σ 56 u) t.heap) (AR cy ad sz)) #[.ref (ad 0), .int k0] s 0 0 (AR cy ad sz)) (F0 m 55 ls []) := by
  have hx := C.1
  have hb := C.2.1
  have hown := C.2.2.2.2.1
  have hw := C.2.2.2.2.2.1
  intro n
  induction n with
  | zero => intro y32 y33 y34 H locs ls hn; exact absurd hn (Nat.not_lt_zero _)
  | succ n ih55 =>
    intro y32 y33 y34 H locs ls hn55 hi55 hP hS hl
    obtain ⟨hi55, hi55y⟩ := hi55
    obtain ⟨hi55_0, hi55_1, hi55_2⟩ := hi55
    refine lv_iload hx hb dX12_intOf_55 (lv_at hl 0 rfl) ?_
    refine lv_iload_n hx hb dX12_intOf_57 rfl (lv_at hl 4 rfl) ?_
    refine lv_icmp_ge (tgt := 115) hx hb dX12_intOf_58 (by decide) (fun c35 => ?_) (fun c35 => ?_)
    · have c35 : r1.toInt ≤ y33.toInt := by have h := z_le c35; exact h
      refine lv_aload_n hx hb dX12_intOf_115 rfl (lv_at hl 5 rfl) ?_
      refine lv_iload hx hb dX12_intOf_116 (lv_at hl 2 rfl) ?_
      refine lv_if_eq (tgt := 128) hx hb dX12_intOf_118 (by decide) (fun c36 => ?_) (fun c36 => ?_)
      · have c36 : y34.toInt = 0 := by have h := z_eq c36; rw [show (0 : Int32).toInt = 0 from by decide +kernel] at h; exact h
        refine lv_bipush (v := 10) hx hb dX12_intOf_128 (by decide +kernel) ?_
        refine rp_56 C hP hS wm_242 dX12_intOf_130 (fun H locs hP hS => ?_)
        refine lv_iload_n hx hb dX12_intOf_133 rfl (lv_at hl 3 rfl) ?_
        refine lv_iconst (v := 1) hx hb dX12_intOf_134 (by decide +kernel) ?_
        refine lv_icmp_ne (tgt := 144) hx hb dX12_intOf_135 (by decide) (fun _ => ?_) (fun c37 => absurd c37 (by decide +kernel))
        refine lv_iload hx hb dX12_intOf_144 (lv_at hl 1 rfl) ?_
        exact r_reti C (10 : Int32) ⟨(v_intOf_5  ), (v_intOf_26 σ k0 r1 x3 x30 y32 y33 y34 hpre_0 hpre_1 hpre_2 hpre_3 hr1 c2 ex3 tx3 c4 ex30 tx30 c31 hi55_0 hi55_1 hi55_2 hi55y c35 c36)⟩ hP hS dX12_intOf_146
      · have c36 : ¬ y34.toInt = 0 := by have h := z_ne c36; rw [show (0 : Int32).toInt = 0 from by decide +kernel] at h; exact h
        refine lv_aload_n hx hb dX12_intOf_121 rfl (lv_at hl 5 rfl) ?_
        refine rg_56 (v := (σ.1 56)) C hP rfl wm_242 dX12_intOf_122 ?_
        refine lv_goto (tgt := 130) hx hb dX12_intOf_125 (by decide) ?_
        refine rp_56 C hP hS wm_242 dX12_intOf_130 (fun H locs hP hS => ?_)
        refine lv_iload_n hx hb dX12_intOf_133 rfl (lv_at hl 3 rfl) ?_
        refine lv_iconst (v := 1) hx hb dX12_intOf_134 (by decide +kernel) ?_
        refine lv_icmp_ne (tgt := 144) hx hb dX12_intOf_135 (by decide) (fun _ => ?_) (fun c38 => absurd c38 (by decide +kernel))
        refine lv_iload hx hb dX12_intOf_144 (lv_at hl 1 rfl) ?_
        exact r_reti C (σ.1 56) ⟨(v_intOf_7 σ hpre_2 hpre_3), (v_intOf_27 σ k0 r1 x3 x30 y32 y33 y34 hpre_0 hpre_1 hpre_2 hpre_3 hr1 c2 ex3 tx3 c4 ex30 tx30 c31 hi55_0 hi55_1 hi55_2 hi55y c35 c36)⟩ hP hS dX12_intOf_146
    · have c35 : y33.toInt < r1.toInt := by have h := z_nle c35; exact h
      refine lv_iload hx hb dX12_intOf_61 (lv_at hl 2 rfl) ?_
      refine lv_if_eq (tgt := 115) hx hb dX12_intOf_63 (by decide) (fun c39 => ?_) (fun c39 => ?_)
      · have c39 : y34.toInt = 0 := by have h := z_eq c39; rw [show (0 : Int32).toInt = 0 from by decide +kernel] at h; exact h
        refine lv_aload_n hx hb dX12_intOf_115 rfl (lv_at hl 5 rfl) ?_
        refine lv_iload hx hb dX12_intOf_116 (lv_at hl 2 rfl) ?_
        refine lv_if_eq (tgt := 128) hx hb dX12_intOf_118 (by decide) (fun c40 => ?_) (fun c40 => ?_)
        · have c40 : y34.toInt = 0 := by have h := z_eq c40; rw [show (0 : Int32).toInt = 0 from by decide +kernel] at h; exact h
          refine lv_bipush (v := 10) hx hb dX12_intOf_128 (by decide +kernel) ?_
          refine rp_56 C hP hS wm_242 dX12_intOf_130 (fun H locs hP hS => ?_)
          refine lv_iload_n hx hb dX12_intOf_133 rfl (lv_at hl 3 rfl) ?_
          refine lv_iconst (v := 1) hx hb dX12_intOf_134 (by decide +kernel) ?_
          refine lv_icmp_ne (tgt := 144) hx hb dX12_intOf_135 (by decide) (fun _ => ?_) (fun c41 => absurd c41 (by decide +kernel))
          refine lv_iload hx hb dX12_intOf_144 (lv_at hl 1 rfl) ?_
          exact r_reti C (10 : Int32) ⟨(v_intOf_5  ), (v_intOf_28 σ k0 r1 x3 x30 y32 y33 y34 hpre_0 hpre_1 hpre_2 hpre_3 hr1 c2 ex3 tx3 c4 ex30 tx30 c31 hi55_0 hi55_1 hi55_2 hi55y c35 c39 c40)⟩ hP hS dX12_intOf_146
        · have c40 : ¬ y34.toInt = 0 := by have h := z_ne c40; rw [show (0 : Int32).toInt = 0 from by decide +kernel] at h; exact h
          exact absurd (v_intOf_29 y34 hi55_2 c39 c40) id
      · have c39 : ¬ y34.toInt = 0 := by have h := z_ne c39; rw [show (0 : Int32).toInt = 0 from by decide +kernel] at h; exact h
        refine lv_aload_n hx hb dX12_intOf_66 rfl (lv_at hl 5 rfl) ?_
        refine lv_iload_n hx hb dX12_intOf_67 rfl (lv_at hl 6 rfl) ?_
        refine lv_iload hx hb dX12_intOf_68 (lv_at hl 0 rfl) ?_
        refine r_callVi (As := [.int k0, .int y33]) (rest := []) C hP hS hl.1 ⟨Nat.zero_le _, Nat.zero_le _⟩ (M_sign8 l D cy sz0 sa ad σ H.size k0 y33 (v_intOf_30 σ k0 r1 x3 x30 y33 hpre_0 hpre_1 hr1 c2 ex3 tx3 c4 ex30 tx30 c31 hi55_0 hi55_1 c35)) (n := 2) ⟨wm_231, wm_217, by decide +kernel⟩ ⟨wm_232, wm_233, wm_10⟩ rfl rfl (lv_room (Nat.le_of_ble_eq_true rfl)) ⟨Nat.le_of_ble_eq_true rfl, Nat.le_of_ble_eq_true rfl⟩ dX12_intOf_70 (fun r42 u H locs hr42 hP hS => ?_)
        obtain ⟨hr42, hr42y⟩ := hr42
        have hr42y : ∀ s9 : List Int, QTT ((σ.2.2.1 52) k0.toNatClampNeg) ((σ.2.2.1 53) k0.toNatClampNeg) s9 → 0 ≤ y33.toInt → y33.toInt < 17 → r42.toInt = s9.getD y33.toInt.toNat 0 := hr42y
        have hr42 : True := hr42
        refine lv_istore (lv' := [(7, .int r42), (6, .int y33), (5, .int y32), (4, .int y34), (3, .int 0), (2, .int r1), (0, .ref (ad 0)), (1, .int k0)]) hx hb dX12_intOf_73 hl (by decide) rfl (fun ls hl => ?_)
        refine lv_iload hx hb dX12_intOf_75 (lv_at hl 0 rfl) ?_
        refine lv_bipush (v := 48) hx hb dX12_intOf_77 (by decide +kernel) ?_
        refine lv_icmp_lt (tgt := 93) hx hb dX12_intOf_79 (by decide) (fun c43 => ?_) (fun c43 => ?_)
        · have c43 : r42.toInt < 48 := by have h := z_lt c43; rw [show (48 : Int32).toInt = 48 from by decide +kernel] at h; exact h
          refine lv_iconst (v := 0) hx hb dX12_intOf_93 (by decide +kernel) ?_
          refine lv_istore (lv' := [(4, .int 0), (7, .int r42), (6, .int y33), (5, .int y32), (3, .int 0), (2, .int r1), (0, .ref (ad 0)), (1, .int k0)]) hx hb dX12_intOf_94 hl (by decide) rfl (fun ls hl => ?_)
          refine lv_bipush (v := 10) hx hb dX12_intOf_96 (by decide +kernel) ?_
          refine lv_iload hx hb dX12_intOf_98 (lv_at hl 3 rfl) ?_
          refine lv_imul hx hb dX12_intOf_100 ?_
          refine lv_topi (fun x44 ex44 => ?_)
          refine lv_iload hx hb dX12_intOf_101 (lv_at hl 1 rfl) ?_
          refine lv_iadd hx hb dX12_intOf_103 ?_
          refine lv_topi (fun x45 ex45 => ?_)
          refine lv_bipush (v := 48) hx hb dX12_intOf_104 (by decide +kernel) ?_
          refine lv_isub hx hb dX12_intOf_106 ?_
          refine lv_topi (fun x46 ex46 => ?_)
          refine lv_istore (lv' := [(5, .int x46), (4, .int 0), (7, .int r42), (6, .int y33), (3, .int 0), (2, .int r1), (0, .ref (ad 0)), (1, .int k0)]) hx hb dX12_intOf_107 hl (by decide) rfl (fun ls hl => ?_)
          obtain ⟨x47, ex47⟩ : ∃ y : Int32, y = y33 + (1 : Int32) := ⟨_, rfl⟩
          have tx47 : x47.toInt = y33.toInt + 1 := (v_intOf_31 σ k0 r1 x3 x30 y33 x47 hpre_0 hpre_1 hr1 c2 ex3 tx3 c4 ex30 tx30 c31 hi55_0 hi55_1 c35 ex47)
          refine lv_iinc (v := x47) (lv' := [(6, .int x47), (5, .int x46), (4, .int 0), (7, .int r42), (3, .int 0), (2, .int r1), (0, .ref (ad 0)), (1, .int k0)]) hx hb dX12_intOf_109 hl (k := 3) rfl (by rw [ex47]; rfl) (by decide) rfl (fun ls hl => ?_)
          refine lv_goto (tgt := 55) hx hb dX12_intOf_112 (by decide) ?_
          exact ih55 x46 x47 (0 : Int32) _ _ _ (Nat.lt_of_lt_of_le (v_intOf_34 σ k0 r1 x3 x30 y33 x47 hpre_0 hpre_1 hr1 c2 ex3 tx3 c4 ex30 tx30 c31 hi55_0 hi55_1 c35 ex47 tx47) (Nat.le_of_lt_succ hn55)) ⟨(v_intOf_32 σ k0 r1 x3 x30 y33 x47 hpre_0 hpre_1 hr1 c2 ex3 tx3 c4 ex30 tx30 c31 hi55_0 hi55_1 c35 ex47 tx47), (v_intOf_33 σ k0 r1 x3 x30 y32 y33 y34 r42 x44 x45 x46 x47 hpre_0 hpre_1 hpre_2 hpre_3 hr1 c2 ex3 tx3 c4 ex30 tx30 c31 hi55_0 hi55_1 hi55_2 hi55y c35 c39 hr42y c43 ex44 ex45 ex46 ex47 tx47)⟩ hP hS (lv_sub hl [0, 1, 2, 4, 5, 6, 7] rfl)
        · have c43 : 48 ≤ r42.toInt := by have h := z_nlt c43; rw [show (48 : Int32).toInt = 48 from by decide +kernel] at h; exact h
          refine lv_iload hx hb dX12_intOf_82 (lv_at hl 0 rfl) ?_
          refine lv_bipush (v := 57) hx hb dX12_intOf_84 (by decide +kernel) ?_
          refine lv_icmp_gt (tgt := 93) hx hb dX12_intOf_86 (by decide) (fun c48 => ?_) (fun c48 => ?_)
          · have c48 : 57 < r42.toInt := by have h := z_lt c48; rw [show (57 : Int32).toInt = 57 from by decide +kernel] at h; exact h
            refine lv_iconst (v := 0) hx hb dX12_intOf_93 (by decide +kernel) ?_
            refine lv_istore (lv' := [(4, .int 0), (7, .int r42), (6, .int y33), (5, .int y32), (3, .int 0), (2, .int r1), (0, .ref (ad 0)), (1, .int k0)]) hx hb dX12_intOf_94 hl (by decide) rfl (fun ls hl => ?_)
            refine lv_bipush (v := 10) hx hb dX12_intOf_96 (by decide +kernel) ?_
            refine lv_iload hx hb dX12_intOf_98 (lv_at hl 3 rfl) ?_
            refine lv_imul hx hb dX12_intOf_100 ?_
            refine lv_topi (fun x49 ex49 => ?_)
            refine lv_iload hx hb dX12_intOf_101 (lv_at hl 1 rfl) ?_
            refine lv_iadd hx hb dX12_intOf_103 ?_
            refine lv_topi (fun x50 ex50 => ?_)
            refine lv_bipush (v := 48) hx hb dX12_intOf_104 (by decide +kernel) ?_
            refine lv_isub hx hb dX12_intOf_106 ?_
            refine lv_topi (fun x51 ex51 => ?_)
            refine lv_istore (lv' := [(5, .int x51), (4, .int 0), (7, .int r42), (6, .int y33), (3, .int 0), (2, .int r1), (0, .ref (ad 0)), (1, .int k0)]) hx hb dX12_intOf_107 hl (by decide) rfl (fun ls hl => ?_)
            obtain ⟨x52, ex52⟩ : ∃ y : Int32, y = y33 + (1 : Int32) := ⟨_, rfl⟩
            have tx52 : x52.toInt = y33.toInt + 1 := (v_intOf_35 σ k0 r1 x3 x30 y33 x52 hpre_0 hpre_1 hr1 c2 ex3 tx3 c4 ex30 tx30 c31 hi55_0 hi55_1 c35 ex52)
            refine lv_iinc (v := x52) (lv' := [(6, .int x52), (5, .int x51), (4, .int 0), (7, .int r42), (3, .int 0), (2, .int r1), (0, .ref (ad 0)), (1, .int k0)]) hx hb dX12_intOf_109 hl (k := 3) rfl (by rw [ex52]; rfl) (by decide) rfl (fun ls hl => ?_)
            refine lv_goto (tgt := 55) hx hb dX12_intOf_112 (by decide) ?_
            exact ih55 x51 x52 (0 : Int32) _ _ _ (Nat.lt_of_lt_of_le (v_intOf_38 σ k0 r1 x3 x30 y33 x52 hpre_0 hpre_1 hr1 c2 ex3 tx3 c4 ex30 tx30 c31 hi55_0 hi55_1 c35 ex52 tx52) (Nat.le_of_lt_succ hn55)) ⟨(v_intOf_36 σ k0 r1 x3 x30 y33 x52 hpre_0 hpre_1 hr1 c2 ex3 tx3 c4 ex30 tx30 c31 hi55_0 hi55_1 c35 ex52 tx52), (v_intOf_37 σ k0 r1 x3 x30 y32 y33 y34 r42 x49 x50 x51 x52 hpre_0 hpre_1 hpre_2 hpre_3 hr1 c2 ex3 tx3 c4 ex30 tx30 c31 hi55_0 hi55_1 hi55_2 hi55y c35 c39 hr42y c43 c48 ex49 ex50 ex51 ex52 tx52)⟩ hP hS (lv_sub hl [0, 1, 2, 4, 5, 6, 7] rfl)
          · have c48 : r42.toInt ≤ 57 := by have h := z_nlt c48; rw [show (57 : Int32).toInt = 57 from by decide +kernel] at h; exact h
            refine lv_iconst (v := 1) hx hb dX12_intOf_89 (by decide +kernel) ?_
            refine lv_goto (tgt := 94) hx hb dX12_intOf_90 (by decide) ?_
            refine lv_istore (lv' := [(4, .int 1), (7, .int r42), (6, .int y33), (5, .int y32), (3, .int 0), (2, .int r1), (0, .ref (ad 0)), (1, .int k0)]) hx hb dX12_intOf_94 hl (by decide) rfl (fun ls hl => ?_)
            refine lv_bipush (v := 10) hx hb dX12_intOf_96 (by decide +kernel) ?_
            refine lv_iload hx hb dX12_intOf_98 (lv_at hl 3 rfl) ?_
            refine lv_imul hx hb dX12_intOf_100 ?_
            refine lv_topi (fun x53 ex53 => ?_)
            refine lv_iload hx hb dX12_intOf_101 (lv_at hl 1 rfl) ?_
            refine lv_iadd hx hb dX12_intOf_103 ?_
            refine lv_topi (fun x54 ex54 => ?_)
            refine lv_bipush (v := 48) hx hb dX12_intOf_104 (by decide +kernel) ?_
            refine lv_isub hx hb dX12_intOf_106 ?_
            refine lv_topi (fun x55 ex55 => ?_)
            refine lv_istore (lv' := [(5, .int x55), (4, .int 1), (7, .int r42), (6, .int y33), (3, .int 0), (2, .int r1), (0, .ref (ad 0)), (1, .int k0)]) hx hb dX12_intOf_107 hl (by decide) rfl (fun ls hl => ?_)
            obtain ⟨x56, ex56⟩ : ∃ y : Int32, y = y33 + (1 : Int32) := ⟨_, rfl⟩
            have tx56 : x56.toInt = y33.toInt + 1 := (v_intOf_39 σ k0 r1 x3 x30 y33 x56 hpre_0 hpre_1 hr1 c2 ex3 tx3 c4 ex30 tx30 c31 hi55_0 hi55_1 c35 ex56)
            refine lv_iinc (v := x56) (lv' := [(6, .int x56), (5, .int x55), (4, .int 1), (7, .int r42), (3, .int 0), (2, .int r1), (0, .ref (ad 0)), (1, .int k0)]) hx hb dX12_intOf_109 hl (k := 3) rfl (by rw [ex56]; rfl) (by decide) rfl (fun ls hl => ?_)
            refine lv_goto (tgt := 55) hx hb dX12_intOf_112 (by decide) ?_
            exact ih55 x55 x56 (1 : Int32) _ _ _ (Nat.lt_of_lt_of_le (v_intOf_42 σ k0 r1 x3 x30 y33 x56 hpre_0 hpre_1 hr1 c2 ex3 tx3 c4 ex30 tx30 c31 hi55_0 hi55_1 c35 ex56 tx56) (Nat.le_of_lt_succ hn55)) ⟨(v_intOf_40 σ k0 r1 x3 x30 y33 x56 hpre_0 hpre_1 hr1 c2 ex3 tx3 c4 ex30 tx30 c31 hi55_0 hi55_1 c35 ex56 tx56), (v_intOf_41 σ k0 r1 x3 x30 y32 y33 y34 r42 x53 x54 x55 x56 hpre_0 hpre_1 hpre_2 hpre_3 hr1 c2 ex3 tx3 c4 ex30 tx30 c31 hi55_0 hi55_1 hi55_2 hi55y c35 c39 hr42y c43 c48 ex53 ex54 ex55 ex56 tx56)⟩ hP hS (lv_sub hl [0, 1, 2, 4, 5, 6, 7] rfl)
set_option maxHeartbeats 4000000 in
set_option maxRecDepth 100000 in
theorem L_intOf_55_3 {p : Program} {e : Env} {s : State} {m : MethodId} {below : List Frame} {meth : Method} {c : Code} (l : Launch) (D : va_G) (cy : Nat → ClassId) (sz0 : Nat) (sa : Nat → Nat) (ad : Nat → Nat) (sz : Nat) (σ : RS) (k0 : Int32) (r1 : Int32) (x3 : Int32) (x30 : Int32) (C : RC p s m #[.ref (ad 0), .int k0] meth c cX12_intOf 8 (some .int) D cy sz0 sa ad (AR cy ad sz)) (hpre_0 : 0 ≤ k0.toInt) (hpre_1 : k0.toInt < 980) (hpre_2 : 0 ≤ (σ.1 56).toInt) (hpre_3 : (σ.1 56).toInt ≤ 11) (hr1 : r1 = LENF ((σ.2.2.1 52) k0.toNatClampNeg)) (c2 : r1.toInt ≤ 0) (ex3 : x3 = r1 - (0 : Int32)) (tx3 : x3.toInt = r1.toInt - 0) (c4 : 1 ≤ x3.toInt) (ex30 : x30 = r1 - (0 : Int32)) (tx30 : x30.toInt = r1.toInt - 0) (c31 : x30.toInt ≤ 9) : ∀ (n : Nat) (y57 : Int32) (y58 : Int32) (y59 : Int32) (H : Heap) (locs : List Loc) (ls : Array Slot), (130 - y58.toInt).toNat < n → ((0 ≤ y58.toInt ∧ y58.toInt ≤ 130 ∧ (y59.toInt = 0 ∨ y59.toInt = 1)) ∧ (∀ s9 : List Int, QTT ((σ.2.2.1 52) k0.toNatClampNeg) ((σ.2.2.1 53) k0.toNatClampNeg) s9 → INL s9 (0 : Int32).toInt y57.toInt y58.toInt y59.toInt)) → RP D cy ad σ H → va_S (AR cy ad sz) s.heap H locs → lv_has ls 8 [(6, .int y58), (5, .int y57), (4, .int y59), (3, .int 0), (2, .int r1), (0, .ref (ad 0)), (1, .int k0)] → W p l e (headSpec (Cond.code yX12_intOf cX12_intOf 8 (some .int) :: GWm) ({ frames := 1, cells := 0, slots := 0, locals := 22 })).room s m #[.ref (ad 0), .int k0] below meth c H locs 0 0 (MQ below (va_Qi (fun (r : Int32) (u : Int32) => (0 ≤ u.toInt ∧ u.toInt ≤ 11) ∧ (∀ s9 : List Int, QTT ((σ.2.2.1 52) k0.toNatClampNeg) ((σ.2.2.1 53) k0.toNatClampNeg) s9 → QI (qToI s9) r.toInt u.toInt (σ.1 56).toInt)) (fun (u : Int32) (t : State) => RP D cy ad (rS σ 56 u) t.heap) (AR cy ad sz)) #[.ref (ad 0), .int k0] s 0 0 (AR cy ad sz)) (F0 m 55 ls []) := by
  have hx := C.1
  have hb := C.2.1
  have hown := C.2.2.2.2.1
  have hw := C.2.2.2.2.2.1
  intro n
  induction n with
  | zero => intro y57 y58 y59 H locs ls hn; exact absurd hn (Nat.not_lt_zero _)
  | succ n ih55 =>
    intro y57 y58 y59 H locs ls hn55 hi55 hP hS hl
    obtain ⟨hi55, hi55y⟩ := hi55
    obtain ⟨hi55_0, hi55_1, hi55_2⟩ := hi55
    refine lv_iload hx hb dX12_intOf_55 (lv_at hl 0 rfl) ?_
    refine lv_iload_n hx hb dX12_intOf_57 rfl (lv_at hl 4 rfl) ?_
    refine lv_icmp_ge (tgt := 115) hx hb dX12_intOf_58 (by decide) (fun c60 => ?_) (fun c60 => ?_)
    · have c60 : r1.toInt ≤ y58.toInt := by have h := z_le c60; exact h
      refine lv_aload_n hx hb dX12_intOf_115 rfl (lv_at hl 5 rfl) ?_
      refine lv_iload hx hb dX12_intOf_116 (lv_at hl 2 rfl) ?_
      refine lv_if_eq (tgt := 128) hx hb dX12_intOf_118 (by decide) (fun c61 => ?_) (fun c61 => ?_)
      · have c61 : y59.toInt = 0 := by have h := z_eq c61; rw [show (0 : Int32).toInt = 0 from by decide +kernel] at h; exact h
        refine lv_bipush (v := 10) hx hb dX12_intOf_128 (by decide +kernel) ?_
        refine rp_56 C hP hS wm_242 dX12_intOf_130 (fun H locs hP hS => ?_)
        refine lv_iload_n hx hb dX12_intOf_133 rfl (lv_at hl 3 rfl) ?_
        refine lv_iconst (v := 1) hx hb dX12_intOf_134 (by decide +kernel) ?_
        refine lv_icmp_ne (tgt := 144) hx hb dX12_intOf_135 (by decide) (fun _ => ?_) (fun c62 => absurd c62 (by decide +kernel))
        refine lv_iload hx hb dX12_intOf_144 (lv_at hl 1 rfl) ?_
        exact r_reti C (10 : Int32) ⟨(v_intOf_5  ), (v_intOf_45 σ k0 r1 x3 x30 y57 y58 y59 hpre_0 hpre_1 hpre_2 hpre_3 hr1 c2 ex3 tx3 c4 ex30 tx30 c31 hi55_0 hi55_1 hi55_2 hi55y c60 c61)⟩ hP hS dX12_intOf_146
      · have c61 : ¬ y59.toInt = 0 := by have h := z_ne c61; rw [show (0 : Int32).toInt = 0 from by decide +kernel] at h; exact h
        refine lv_aload_n hx hb dX12_intOf_121 rfl (lv_at hl 5 rfl) ?_
        refine rg_56 (v := (σ.1 56)) C hP rfl wm_242 dX12_intOf_122 ?_
        refine lv_goto (tgt := 130) hx hb dX12_intOf_125 (by decide) ?_
        refine rp_56 C hP hS wm_242 dX12_intOf_130 (fun H locs hP hS => ?_)
        refine lv_iload_n hx hb dX12_intOf_133 rfl (lv_at hl 3 rfl) ?_
        refine lv_iconst (v := 1) hx hb dX12_intOf_134 (by decide +kernel) ?_
        refine lv_icmp_ne (tgt := 144) hx hb dX12_intOf_135 (by decide) (fun _ => ?_) (fun c63 => absurd c63 (by decide +kernel))
        refine lv_iload hx hb dX12_intOf_144 (lv_at hl 1 rfl) ?_
        exact r_reti C (σ.1 56) ⟨(v_intOf_7 σ hpre_2 hpre_3), (v_intOf_46 σ k0 r1 x3 x30 y57 y58 y59 hpre_0 hpre_1 hpre_2 hpre_3 hr1 c2 ex3 tx3 c4 ex30 tx30 c31 hi55_0 hi55_1 hi55_2 hi55y c60 c61)⟩ hP hS dX12_intOf_146
    · have c60 : y58.toInt < r1.toInt := by have h := z_nle c60; exact h
      refine lv_iload hx hb dX12_intOf_61 (lv_at hl 2 rfl) ?_
      refine lv_if_eq (tgt := 115) hx hb dX12_intOf_63 (by decide) (fun c64 => ?_) (fun c64 => ?_)
      · have c64 : y59.toInt = 0 := by have h := z_eq c64; rw [show (0 : Int32).toInt = 0 from by decide +kernel] at h; exact h
        refine lv_aload_n hx hb dX12_intOf_115 rfl (lv_at hl 5 rfl) ?_
        refine lv_iload hx hb dX12_intOf_116 (lv_at hl 2 rfl) ?_
        refine lv_if_eq (tgt := 128) hx hb dX12_intOf_118 (by decide) (fun c65 => ?_) (fun c65 => ?_)
        · have c65 : y59.toInt = 0 := by have h := z_eq c65; rw [show (0 : Int32).toInt = 0 from by decide +kernel] at h; exact h
          refine lv_bipush (v := 10) hx hb dX12_intOf_128 (by decide +kernel) ?_
          refine rp_56 C hP hS wm_242 dX12_intOf_130 (fun H locs hP hS => ?_)
          refine lv_iload_n hx hb dX12_intOf_133 rfl (lv_at hl 3 rfl) ?_
          refine lv_iconst (v := 1) hx hb dX12_intOf_134 (by decide +kernel) ?_
          refine lv_icmp_ne (tgt := 144) hx hb dX12_intOf_135 (by decide) (fun _ => ?_) (fun c66 => absurd c66 (by decide +kernel))
          refine lv_iload hx hb dX12_intOf_144 (lv_at hl 1 rfl) ?_
          exact r_reti C (10 : Int32) ⟨(v_intOf_5  ), (v_intOf_47 σ k0 r1 x3 x30 y57 y58 y59 hpre_0 hpre_1 hpre_2 hpre_3 hr1 c2 ex3 tx3 c4 ex30 tx30 c31 hi55_0 hi55_1 hi55_2 hi55y c60 c64 c65)⟩ hP hS dX12_intOf_146
        · have c65 : ¬ y59.toInt = 0 := by have h := z_ne c65; rw [show (0 : Int32).toInt = 0 from by decide +kernel] at h; exact h
          exact absurd (v_intOf_48 y59 hi55_2 c64 c65) id
      · have c64 : ¬ y59.toInt = 0 := by have h := z_ne c64; rw [show (0 : Int32).toInt = 0 from by decide +kernel] at h; exact h
        refine lv_aload_n hx hb dX12_intOf_66 rfl (lv_at hl 5 rfl) ?_
        refine lv_iload_n hx hb dX12_intOf_67 rfl (lv_at hl 6 rfl) ?_
        refine lv_iload hx hb dX12_intOf_68 (lv_at hl 0 rfl) ?_
        refine r_callVi (As := [.int k0, .int y58]) (rest := []) C hP hS hl.1 ⟨Nat.zero_le _, Nat.zero_le _⟩ (M_sign8 l D cy sz0 sa ad σ H.size k0 y58 (v_intOf_49 σ k0 r1 x3 x30 y58 hpre_0 hpre_1 hr1 c2 ex3 tx3 c4 ex30 tx30 c31 hi55_0 hi55_1 c60)) (n := 2) ⟨wm_231, wm_217, by decide +kernel⟩ ⟨wm_232, wm_233, wm_10⟩ rfl rfl (lv_room (Nat.le_of_ble_eq_true rfl)) ⟨Nat.le_of_ble_eq_true rfl, Nat.le_of_ble_eq_true rfl⟩ dX12_intOf_70 (fun r67 u H locs hr67 hP hS => ?_)
        obtain ⟨hr67, hr67y⟩ := hr67
        have hr67y : ∀ s9 : List Int, QTT ((σ.2.2.1 52) k0.toNatClampNeg) ((σ.2.2.1 53) k0.toNatClampNeg) s9 → 0 ≤ y58.toInt → y58.toInt < 17 → r67.toInt = s9.getD y58.toInt.toNat 0 := hr67y
        have hr67 : True := hr67
        refine lv_istore (lv' := [(7, .int r67), (6, .int y58), (5, .int y57), (4, .int y59), (3, .int 0), (2, .int r1), (0, .ref (ad 0)), (1, .int k0)]) hx hb dX12_intOf_73 hl (by decide) rfl (fun ls hl => ?_)
        refine lv_iload hx hb dX12_intOf_75 (lv_at hl 0 rfl) ?_
        refine lv_bipush (v := 48) hx hb dX12_intOf_77 (by decide +kernel) ?_
        refine lv_icmp_lt (tgt := 93) hx hb dX12_intOf_79 (by decide) (fun c68 => ?_) (fun c68 => ?_)
        · have c68 : r67.toInt < 48 := by have h := z_lt c68; rw [show (48 : Int32).toInt = 48 from by decide +kernel] at h; exact h
          refine lv_iconst (v := 0) hx hb dX12_intOf_93 (by decide +kernel) ?_
          refine lv_istore (lv' := [(4, .int 0), (7, .int r67), (6, .int y58), (5, .int y57), (3, .int 0), (2, .int r1), (0, .ref (ad 0)), (1, .int k0)]) hx hb dX12_intOf_94 hl (by decide) rfl (fun ls hl => ?_)
          refine lv_bipush (v := 10) hx hb dX12_intOf_96 (by decide +kernel) ?_
          refine lv_iload hx hb dX12_intOf_98 (lv_at hl 3 rfl) ?_
          refine lv_imul hx hb dX12_intOf_100 ?_
          refine lv_topi (fun x69 ex69 => ?_)
          refine lv_iload hx hb dX12_intOf_101 (lv_at hl 1 rfl) ?_
          refine lv_iadd hx hb dX12_intOf_103 ?_
          refine lv_topi (fun x70 ex70 => ?_)
          refine lv_bipush (v := 48) hx hb dX12_intOf_104 (by decide +kernel) ?_
          refine lv_isub hx hb dX12_intOf_106 ?_
          refine lv_topi (fun x71 ex71 => ?_)
          refine lv_istore (lv' := [(5, .int x71), (4, .int 0), (7, .int r67), (6, .int y58), (3, .int 0), (2, .int r1), (0, .ref (ad 0)), (1, .int k0)]) hx hb dX12_intOf_107 hl (by decide) rfl (fun ls hl => ?_)
          obtain ⟨x72, ex72⟩ : ∃ y : Int32, y = y58 + (1 : Int32) := ⟨_, rfl⟩
          have tx72 : x72.toInt = y58.toInt + 1 := (v_intOf_50 σ k0 r1 x3 x30 y58 x72 hpre_0 hpre_1 hr1 c2 ex3 tx3 c4 ex30 tx30 c31 hi55_0 hi55_1 c60 ex72)
          refine lv_iinc (v := x72) (lv' := [(6, .int x72), (5, .int x71), (4, .int 0), (7, .int r67), (3, .int 0), (2, .int r1), (0, .ref (ad 0)), (1, .int k0)]) hx hb dX12_intOf_109 hl (k := 3) rfl (by rw [ex72]; rfl) (by decide) rfl (fun ls hl => ?_)
          refine lv_goto (tgt := 55) hx hb dX12_intOf_112 (by decide) ?_
          exact ih55 x71 x72 (0 : Int32) _ _ _ (Nat.lt_of_lt_of_le (v_intOf_53 σ k0 r1 x3 x30 y58 x72 hpre_0 hpre_1 hr1 c2 ex3 tx3 c4 ex30 tx30 c31 hi55_0 hi55_1 c60 ex72 tx72) (Nat.le_of_lt_succ hn55)) ⟨(v_intOf_51 σ k0 r1 x3 x30 y58 x72 hpre_0 hpre_1 hr1 c2 ex3 tx3 c4 ex30 tx30 c31 hi55_0 hi55_1 c60 ex72 tx72), (v_intOf_52 σ k0 r1 x3 x30 y57 y58 y59 r67 x69 x70 x71 x72 hpre_0 hpre_1 hpre_2 hpre_3 hr1 c2 ex3 tx3 c4 ex30 tx30 c31 hi55_0 hi55_1 hi55_2 hi55y c60 c64 hr67y c68 ex69 ex70 ex71 ex72 tx72)⟩ hP hS (lv_sub hl [0, 1, 2, 4, 5, 6, 7] rfl)
        · have c68 : 48 ≤ r67.toInt := by have h := z_nlt c68; rw [show (48 : Int32).toInt = 48 from by decide +kernel] at h; exact h
          refine lv_iload hx hb dX12_intOf_82 (lv_at hl 0 rfl) ?_
          refine lv_bipush (v := 57) hx hb dX12_intOf_84 (by decide +kernel) ?_
          refine lv_icmp_gt (tgt := 93) hx hb dX12_intOf_86 (by decide) (fun c73 => ?_) (fun c73 => ?_)
          · have c73 : 57 < r67.toInt := by have h := z_lt c73; rw [show (57 : Int32).toInt = 57 from by decide +kernel] at h; exact h
            refine lv_iconst (v := 0) hx hb dX12_intOf_93 (by decide +kernel) ?_
            refine lv_istore (lv' := [(4, .int 0), (7, .int r67), (6, .int y58), (5, .int y57), (3, .int 0), (2, .int r1), (0, .ref (ad 0)), (1, .int k0)]) hx hb dX12_intOf_94 hl (by decide) rfl (fun ls hl => ?_)
            refine lv_bipush (v := 10) hx hb dX12_intOf_96 (by decide +kernel) ?_
            refine lv_iload hx hb dX12_intOf_98 (lv_at hl 3 rfl) ?_
            refine lv_imul hx hb dX12_intOf_100 ?_
            refine lv_topi (fun x74 ex74 => ?_)
            refine lv_iload hx hb dX12_intOf_101 (lv_at hl 1 rfl) ?_
            refine lv_iadd hx hb dX12_intOf_103 ?_
            refine lv_topi (fun x75 ex75 => ?_)
            refine lv_bipush (v := 48) hx hb dX12_intOf_104 (by decide +kernel) ?_
            refine lv_isub hx hb dX12_intOf_106 ?_
            refine lv_topi (fun x76 ex76 => ?_)
            refine lv_istore (lv' := [(5, .int x76), (4, .int 0), (7, .int r67), (6, .int y58), (3, .int 0), (2, .int r1), (0, .ref (ad 0)), (1, .int k0)]) hx hb dX12_intOf_107 hl (by decide) rfl (fun ls hl => ?_)
            obtain ⟨x77, ex77⟩ : ∃ y : Int32, y = y58 + (1 : Int32) := ⟨_, rfl⟩
            have tx77 : x77.toInt = y58.toInt + 1 := (v_intOf_54 σ k0 r1 x3 x30 y58 x77 hpre_0 hpre_1 hr1 c2 ex3 tx3 c4 ex30 tx30 c31 hi55_0 hi55_1 c60 ex77)
            refine lv_iinc (v := x77) (lv' := [(6, .int x77), (5, .int x76), (4, .int 0), (7, .int r67), (3, .int 0), (2, .int r1), (0, .ref (ad 0)), (1, .int k0)]) hx hb dX12_intOf_109 hl (k := 3) rfl (by rw [ex77]; rfl) (by decide) rfl (fun ls hl => ?_)
            refine lv_goto (tgt := 55) hx hb dX12_intOf_112 (by decide) ?_
            exact ih55 x76 x77 (0 : Int32) _ _ _ (Nat.lt_of_lt_of_le (v_intOf_57 σ k0 r1 x3 x30 y58 x77 hpre_0 hpre_1 hr1 c2 ex3 tx3 c4 ex30 tx30 c31 hi55_0 hi55_1 c60 ex77 tx77) (Nat.le_of_lt_succ hn55)) ⟨(v_intOf_55 σ k0 r1 x3 x30 y58 x77 hpre_0 hpre_1 hr1 c2 ex3 tx3 c4 ex30 tx30 c31 hi55_0 hi55_1 c60 ex77 tx77), (v_intOf_56 σ k0 r1 x3 x30 y57 y58 y59 r67 x74 x75 x76 x77 hpre_0 hpre_1 hpre_2 hpre_3 hr1 c2 ex3 tx3 c4 ex30 tx30 c31 hi55_0 hi55_1 hi55_2 hi55y c60 c64 hr67y c68 c73 ex74 ex75 ex76 ex77 tx77)⟩ hP hS (lv_sub hl [0, 1, 2, 4, 5, 6, 7] rfl)
          · have c73 : r67.toInt ≤ 57 := by have h := z_nlt c73; rw [show (57 : Int32).toInt = 57 from by decide +kernel] at h; exact h
            refine lv_iconst (v := 1) hx hb dX12_intOf_89 (by decide +kernel) ?_
            refine lv_goto (tgt := 94) hx hb dX12_intOf_90 (by decide) ?_
            refine lv_istore (lv' := [(4, .int 1), (7, .int r67), (6, .int y58), (5, .int y57), (3, .int 0), (2, .int r1), (0, .ref (ad 0)), (1, .int k0)]) hx hb dX12_intOf_94 hl (by decide) rfl (fun ls hl => ?_)
            refine lv_bipush (v := 10) hx hb dX12_intOf_96 (by decide +kernel) ?_
            refine lv_iload hx hb dX12_intOf_98 (lv_at hl 3 rfl) ?_
            refine lv_imul hx hb dX12_intOf_100 ?_
            refine lv_topi (fun x78 ex78 => ?_)
            refine lv_iload hx hb dX12_intOf_101 (lv_at hl 1 rfl) ?_
            refine lv_iadd hx hb dX12_intOf_103 ?_
            refine lv_topi (fun x79 ex79 => ?_)
            refine lv_bipush (v := 48) hx hb dX12_intOf_104 (by decide +kernel) ?_
            refine lv_isub hx hb dX12_intOf_106 ?_
            refine lv_topi (fun x80 ex80 => ?_)
            refine lv_istore (lv' := [(5, .int x80), (4, .int 1), (7, .int r67), (6, .int y58), (3, .int 0), (2, .int r1), (0, .ref (ad 0)), (1, .int k0)]) hx hb dX12_intOf_107 hl (by decide) rfl (fun ls hl => ?_)
            obtain ⟨x81, ex81⟩ : ∃ y : Int32, y = y58 + (1 : Int32) := ⟨_, rfl⟩
            have tx81 : x81.toInt = y58.toInt + 1 := (v_intOf_58 σ k0 r1 x3 x30 y58 x81 hpre_0 hpre_1 hr1 c2 ex3 tx3 c4 ex30 tx30 c31 hi55_0 hi55_1 c60 ex81)
            refine lv_iinc (v := x81) (lv' := [(6, .int x81), (5, .int x80), (4, .int 1), (7, .int r67), (3, .int 0), (2, .int r1), (0, .ref (ad 0)), (1, .int k0)]) hx hb dX12_intOf_109 hl (k := 3) rfl (by rw [ex81]; rfl) (by decide) rfl (fun ls hl => ?_)
            refine lv_goto (tgt := 55) hx hb dX12_intOf_112 (by decide) ?_
            exact ih55 x80 x81 (1 : Int32) _ _ _ (Nat.lt_of_lt_of_le (v_intOf_61 σ k0 r1 x3 x30 y58 x81 hpre_0 hpre_1 hr1 c2 ex3 tx3 c4 ex30 tx30 c31 hi55_0 hi55_1 c60 ex81 tx81) (Nat.le_of_lt_succ hn55)) ⟨(v_intOf_59 σ k0 r1 x3 x30 y58 x81 hpre_0 hpre_1 hr1 c2 ex3 tx3 c4 ex30 tx30 c31 hi55_0 hi55_1 c60 ex81 tx81), (v_intOf_60 σ k0 r1 x3 x30 y57 y58 y59 r67 x78 x79 x80 x81 hpre_0 hpre_1 hpre_2 hpre_3 hr1 c2 ex3 tx3 c4 ex30 tx30 c31 hi55_0 hi55_1 hi55_2 hi55y c60 c64 hr67y c68 c73 ex78 ex79 ex80 ex81 tx81)⟩ hP hS (lv_sub hl [0, 1, 2, 4, 5, 6, 7] rfl)
set_option maxHeartbeats 4000000 in
set_option maxRecDepth 100000 in
theorem L_intOf_55_4 {p : Program} {e : Env} {s : State} {m : MethodId} {below : List Frame} {meth : Method} {c : Code} (l : Launch) (D : va_G) (cy : Nat → ClassId) (sz0 : Nat) (sa : Nat → Nat) (ad : Nat → Nat) (sz : Nat) (σ : RS) (k0 : Int32) (r1 : Int32) (r82 : Int32) (x84 : Int32) (C : RC p s m #[.ref (ad 0), .int k0] meth c cX12_intOf 8 (some .int) D cy sz0 sa ad (AR cy ad sz)) (hpre_0 : 0 ≤ k0.toInt) (hpre_1 : k0.toInt < 980) (hpre_2 : 0 ≤ (σ.1 56).toInt) (hpre_3 : (σ.1 56).toInt ≤ 11) (hr1 : r1 = LENF ((σ.2.2.1 52) k0.toNatClampNeg)) (c2 : 0 < r1.toInt) (hr82y : ∀ s9 : List Int, QTT ((σ.2.2.1 52) k0.toNatClampNeg) ((σ.2.2.1 53) k0.toNatClampNeg) s9 → 0 ≤ (0 : Int32).toInt → (0 : Int32).toInt < 17 → r82.toInt = s9.getD (0 : Int32).toInt.toNat 0) (c83 : ¬ r82.toInt = 45) (ex84 : x84 = r1 - (0 : Int32)) (tx84 : x84.toInt = r1.toInt - 0) (c85 : x84.toInt < 1) : ∀ (n : Nat) (y86 : Int32) (y87 : Int32) (y88 : Int32) (H : Heap) (locs : List Loc) (ls : Array Slot), (130 - y87.toInt).toNat < n → ((0 ≤ y87.toInt ∧ y87.toInt ≤ 130 ∧ (y88.toInt = 0 ∨ y88.toInt = 1)) ∧ (∀ s9 : List Int, QTT ((σ.2.2.1 52) k0.toNatClampNeg) ((σ.2.2.1 53) k0.toNatClampNeg) s9 → INL s9 (0 : Int32).toInt y86.toInt y87.toInt y88.toInt)) → RP D cy ad σ H → va_S (AR cy ad sz) s.heap H locs → lv_has ls 8 [(6, .int y87), (5, .int y86), (4, .int y88), (3, .int 0), (2, .int r1), (0, .ref (ad 0)), (1, .int k0)] → W p l e (headSpec (Cond.code yX12_intOf cX12_intOf 8 (some .int) :: GWm) ({ frames := 1, cells := 0, slots := 0, locals := 22 })).room s m #[.ref (ad 0), .int k0] below meth c H locs 0 0 (MQ below (va_Qi (fun (r : Int32) (u : Int32) => (0 ≤ u.toInt ∧ u.toInt ≤ 11) ∧ (∀ s9 : List Int, QTT ((σ.2.2.1 52) k0.toNatClampNeg) ((σ.2.2.1 53) k0.toNatClampNeg) s9 → QI (qToI s9) r.toInt u.toInt (σ.1 56).toInt)) (fun (u : Int32) (t : State) => RP D cy ad (rS σ 56 u) t.heap) (AR cy ad sz)) #[.ref (ad 0), .int k0] s 0 0 (AR cy ad sz)) (F0 m 55 ls []) := by
  have hx := C.1
  have hb := C.2.1
  have hown := C.2.2.2.2.1
  have hw := C.2.2.2.2.2.1
  intro n
  induction n with
  | zero => intro y86 y87 y88 H locs ls hn; exact absurd hn (Nat.not_lt_zero _)
  | succ n ih55 =>
    intro y86 y87 y88 H locs ls hn55 hi55 hP hS hl
    obtain ⟨hi55, hi55y⟩ := hi55
    obtain ⟨hi55_0, hi55_1, hi55_2⟩ := hi55
    refine lv_iload hx hb dX12_intOf_55 (lv_at hl 0 rfl) ?_
    refine lv_iload_n hx hb dX12_intOf_57 rfl (lv_at hl 4 rfl) ?_
    refine lv_icmp_ge (tgt := 115) hx hb dX12_intOf_58 (by decide) (fun c89 => ?_) (fun c89 => ?_)
    · have c89 : r1.toInt ≤ y87.toInt := by have h := z_le c89; exact h
      refine lv_aload_n hx hb dX12_intOf_115 rfl (lv_at hl 5 rfl) ?_
      refine lv_iload hx hb dX12_intOf_116 (lv_at hl 2 rfl) ?_
      refine lv_if_eq (tgt := 128) hx hb dX12_intOf_118 (by decide) (fun c90 => ?_) (fun c90 => ?_)
      · have c90 : y88.toInt = 0 := by have h := z_eq c90; rw [show (0 : Int32).toInt = 0 from by decide +kernel] at h; exact h
        refine lv_bipush (v := 10) hx hb dX12_intOf_128 (by decide +kernel) ?_
        refine rp_56 C hP hS wm_242 dX12_intOf_130 (fun H locs hP hS => ?_)
        refine lv_iload_n hx hb dX12_intOf_133 rfl (lv_at hl 3 rfl) ?_
        refine lv_iconst (v := 1) hx hb dX12_intOf_134 (by decide +kernel) ?_
        refine lv_icmp_ne (tgt := 144) hx hb dX12_intOf_135 (by decide) (fun _ => ?_) (fun c91 => absurd c91 (by decide +kernel))
        refine lv_iload hx hb dX12_intOf_144 (lv_at hl 1 rfl) ?_
        exact r_reti C (10 : Int32) ⟨(v_intOf_5  ), (v_intOf_65 σ k0 r1 r82 x84 y86 y87 y88 hpre_0 hpre_1 hpre_2 hpre_3 hr1 c2 hr82y c83 ex84 tx84 c85 hi55_0 hi55_1 hi55_2 hi55y c89 c90)⟩ hP hS dX12_intOf_146
      · have c90 : ¬ y88.toInt = 0 := by have h := z_ne c90; rw [show (0 : Int32).toInt = 0 from by decide +kernel] at h; exact h
        refine lv_aload_n hx hb dX12_intOf_121 rfl (lv_at hl 5 rfl) ?_
        refine rg_56 (v := (σ.1 56)) C hP rfl wm_242 dX12_intOf_122 ?_
        refine lv_goto (tgt := 130) hx hb dX12_intOf_125 (by decide) ?_
        refine rp_56 C hP hS wm_242 dX12_intOf_130 (fun H locs hP hS => ?_)
        refine lv_iload_n hx hb dX12_intOf_133 rfl (lv_at hl 3 rfl) ?_
        refine lv_iconst (v := 1) hx hb dX12_intOf_134 (by decide +kernel) ?_
        refine lv_icmp_ne (tgt := 144) hx hb dX12_intOf_135 (by decide) (fun _ => ?_) (fun c92 => absurd c92 (by decide +kernel))
        refine lv_iload hx hb dX12_intOf_144 (lv_at hl 1 rfl) ?_
        exact r_reti C (σ.1 56) ⟨(v_intOf_7 σ hpre_2 hpre_3), (v_intOf_66 σ k0 r1 r82 x84 y86 y87 y88 hpre_0 hpre_1 hpre_2 hpre_3 hr1 c2 hr82y c83 ex84 tx84 c85 hi55_0 hi55_1 hi55_2 hi55y c89 c90)⟩ hP hS dX12_intOf_146
    · have c89 : y87.toInt < r1.toInt := by have h := z_nle c89; exact h
      refine lv_iload hx hb dX12_intOf_61 (lv_at hl 2 rfl) ?_
      refine lv_if_eq (tgt := 115) hx hb dX12_intOf_63 (by decide) (fun c93 => ?_) (fun c93 => ?_)
      · have c93 : y88.toInt = 0 := by have h := z_eq c93; rw [show (0 : Int32).toInt = 0 from by decide +kernel] at h; exact h
        refine lv_aload_n hx hb dX12_intOf_115 rfl (lv_at hl 5 rfl) ?_
        refine lv_iload hx hb dX12_intOf_116 (lv_at hl 2 rfl) ?_
        refine lv_if_eq (tgt := 128) hx hb dX12_intOf_118 (by decide) (fun c94 => ?_) (fun c94 => ?_)
        · have c94 : y88.toInt = 0 := by have h := z_eq c94; rw [show (0 : Int32).toInt = 0 from by decide +kernel] at h; exact h
          refine lv_bipush (v := 10) hx hb dX12_intOf_128 (by decide +kernel) ?_
          refine rp_56 C hP hS wm_242 dX12_intOf_130 (fun H locs hP hS => ?_)
          refine lv_iload_n hx hb dX12_intOf_133 rfl (lv_at hl 3 rfl) ?_
          refine lv_iconst (v := 1) hx hb dX12_intOf_134 (by decide +kernel) ?_
          refine lv_icmp_ne (tgt := 144) hx hb dX12_intOf_135 (by decide) (fun _ => ?_) (fun c95 => absurd c95 (by decide +kernel))
          refine lv_iload hx hb dX12_intOf_144 (lv_at hl 1 rfl) ?_
          exact r_reti C (10 : Int32) ⟨(v_intOf_5  ), (v_intOf_67 σ k0 r1 r82 x84 y86 y87 y88 hpre_0 hpre_1 hpre_2 hpre_3 hr1 c2 hr82y c83 ex84 tx84 c85 hi55_0 hi55_1 hi55_2 hi55y c89 c93 c94)⟩ hP hS dX12_intOf_146
        · have c94 : ¬ y88.toInt = 0 := by have h := z_ne c94; rw [show (0 : Int32).toInt = 0 from by decide +kernel] at h; exact h
          exact absurd (v_intOf_68 y88 hi55_2 c93 c94) id
      · have c93 : ¬ y88.toInt = 0 := by have h := z_ne c93; rw [show (0 : Int32).toInt = 0 from by decide +kernel] at h; exact h
        refine lv_aload_n hx hb dX12_intOf_66 rfl (lv_at hl 5 rfl) ?_
        refine lv_iload_n hx hb dX12_intOf_67 rfl (lv_at hl 6 rfl) ?_
        refine lv_iload hx hb dX12_intOf_68 (lv_at hl 0 rfl) ?_
        refine r_callVi (As := [.int k0, .int y87]) (rest := []) C hP hS hl.1 ⟨Nat.zero_le _, Nat.zero_le _⟩ (M_sign8 l D cy sz0 sa ad σ H.size k0 y87 (v_intOf_69 σ k0 r1 x84 y87 hpre_0 hpre_1 hr1 c2 ex84 tx84 c85 hi55_0 hi55_1 c89)) (n := 2) ⟨wm_231, wm_217, by decide +kernel⟩ ⟨wm_232, wm_233, wm_10⟩ rfl rfl (lv_room (Nat.le_of_ble_eq_true rfl)) ⟨Nat.le_of_ble_eq_true rfl, Nat.le_of_ble_eq_true rfl⟩ dX12_intOf_70 (fun r96 u H locs hr96 hP hS => ?_)
        obtain ⟨hr96, hr96y⟩ := hr96
        have hr96y : ∀ s9 : List Int, QTT ((σ.2.2.1 52) k0.toNatClampNeg) ((σ.2.2.1 53) k0.toNatClampNeg) s9 → 0 ≤ y87.toInt → y87.toInt < 17 → r96.toInt = s9.getD y87.toInt.toNat 0 := hr96y
        have hr96 : True := hr96
        refine lv_istore (lv' := [(7, .int r96), (6, .int y87), (5, .int y86), (4, .int y88), (3, .int 0), (2, .int r1), (0, .ref (ad 0)), (1, .int k0)]) hx hb dX12_intOf_73 hl (by decide) rfl (fun ls hl => ?_)
        refine lv_iload hx hb dX12_intOf_75 (lv_at hl 0 rfl) ?_
        refine lv_bipush (v := 48) hx hb dX12_intOf_77 (by decide +kernel) ?_
        refine lv_icmp_lt (tgt := 93) hx hb dX12_intOf_79 (by decide) (fun c97 => ?_) (fun c97 => ?_)
        · have c97 : r96.toInt < 48 := by have h := z_lt c97; rw [show (48 : Int32).toInt = 48 from by decide +kernel] at h; exact h
          refine lv_iconst (v := 0) hx hb dX12_intOf_93 (by decide +kernel) ?_
          refine lv_istore (lv' := [(4, .int 0), (7, .int r96), (6, .int y87), (5, .int y86), (3, .int 0), (2, .int r1), (0, .ref (ad 0)), (1, .int k0)]) hx hb dX12_intOf_94 hl (by decide) rfl (fun ls hl => ?_)
          refine lv_bipush (v := 10) hx hb dX12_intOf_96 (by decide +kernel) ?_
          refine lv_iload hx hb dX12_intOf_98 (lv_at hl 3 rfl) ?_
          refine lv_imul hx hb dX12_intOf_100 ?_
          refine lv_topi (fun x98 ex98 => ?_)
          refine lv_iload hx hb dX12_intOf_101 (lv_at hl 1 rfl) ?_
          refine lv_iadd hx hb dX12_intOf_103 ?_
          refine lv_topi (fun x99 ex99 => ?_)
          refine lv_bipush (v := 48) hx hb dX12_intOf_104 (by decide +kernel) ?_
          refine lv_isub hx hb dX12_intOf_106 ?_
          refine lv_topi (fun x100 ex100 => ?_)
          refine lv_istore (lv' := [(5, .int x100), (4, .int 0), (7, .int r96), (6, .int y87), (3, .int 0), (2, .int r1), (0, .ref (ad 0)), (1, .int k0)]) hx hb dX12_intOf_107 hl (by decide) rfl (fun ls hl => ?_)
          obtain ⟨x101, ex101⟩ : ∃ y : Int32, y = y87 + (1 : Int32) := ⟨_, rfl⟩
          have tx101 : x101.toInt = y87.toInt + 1 := (v_intOf_70 σ k0 r1 x84 y87 x101 hpre_0 hpre_1 hr1 c2 ex84 tx84 c85 hi55_0 hi55_1 c89 ex101)
          refine lv_iinc (v := x101) (lv' := [(6, .int x101), (5, .int x100), (4, .int 0), (7, .int r96), (3, .int 0), (2, .int r1), (0, .ref (ad 0)), (1, .int k0)]) hx hb dX12_intOf_109 hl (k := 3) rfl (by rw [ex101]; rfl) (by decide) rfl (fun ls hl => ?_)
          refine lv_goto (tgt := 55) hx hb dX12_intOf_112 (by decide) ?_
          exact ih55 x100 x101 (0 : Int32) _ _ _ (Nat.lt_of_lt_of_le (v_intOf_73 σ k0 r1 x84 y87 x101 hpre_0 hpre_1 hr1 c2 ex84 tx84 c85 hi55_0 hi55_1 c89 ex101 tx101) (Nat.le_of_lt_succ hn55)) ⟨(v_intOf_71 σ k0 r1 x84 y87 x101 hpre_0 hpre_1 hr1 c2 ex84 tx84 c85 hi55_0 hi55_1 c89 ex101 tx101), (v_intOf_72 σ k0 r1 r82 x84 y86 y87 y88 r96 x98 x99 x100 x101 hpre_0 hpre_1 hpre_2 hpre_3 hr1 c2 hr82y c83 ex84 tx84 c85 hi55_0 hi55_1 hi55_2 hi55y c89 c93 hr96y c97 ex98 ex99 ex100 ex101 tx101)⟩ hP hS (lv_sub hl [0, 1, 2, 4, 5, 6, 7] rfl)
        · have c97 : 48 ≤ r96.toInt := by have h := z_nlt c97; rw [show (48 : Int32).toInt = 48 from by decide +kernel] at h; exact h
          refine lv_iload hx hb dX12_intOf_82 (lv_at hl 0 rfl) ?_
          refine lv_bipush (v := 57) hx hb dX12_intOf_84 (by decide +kernel) ?_
          refine lv_icmp_gt (tgt := 93) hx hb dX12_intOf_86 (by decide) (fun c102 => ?_) (fun c102 => ?_)
          · have c102 : 57 < r96.toInt := by have h := z_lt c102; rw [show (57 : Int32).toInt = 57 from by decide +kernel] at h; exact h
            refine lv_iconst (v := 0) hx hb dX12_intOf_93 (by decide +kernel) ?_
            refine lv_istore (lv' := [(4, .int 0), (7, .int r96), (6, .int y87), (5, .int y86), (3, .int 0), (2, .int r1), (0, .ref (ad 0)), (1, .int k0)]) hx hb dX12_intOf_94 hl (by decide) rfl (fun ls hl => ?_)
            refine lv_bipush (v := 10) hx hb dX12_intOf_96 (by decide +kernel) ?_
            refine lv_iload hx hb dX12_intOf_98 (lv_at hl 3 rfl) ?_
            refine lv_imul hx hb dX12_intOf_100 ?_
            refine lv_topi (fun x103 ex103 => ?_)
            refine lv_iload hx hb dX12_intOf_101 (lv_at hl 1 rfl) ?_
            refine lv_iadd hx hb dX12_intOf_103 ?_
            refine lv_topi (fun x104 ex104 => ?_)
            refine lv_bipush (v := 48) hx hb dX12_intOf_104 (by decide +kernel) ?_
            refine lv_isub hx hb dX12_intOf_106 ?_
            refine lv_topi (fun x105 ex105 => ?_)
            refine lv_istore (lv' := [(5, .int x105), (4, .int 0), (7, .int r96), (6, .int y87), (3, .int 0), (2, .int r1), (0, .ref (ad 0)), (1, .int k0)]) hx hb dX12_intOf_107 hl (by decide) rfl (fun ls hl => ?_)
            obtain ⟨x106, ex106⟩ : ∃ y : Int32, y = y87 + (1 : Int32) := ⟨_, rfl⟩
            have tx106 : x106.toInt = y87.toInt + 1 := (v_intOf_74 σ k0 r1 x84 y87 x106 hpre_0 hpre_1 hr1 c2 ex84 tx84 c85 hi55_0 hi55_1 c89 ex106)
            refine lv_iinc (v := x106) (lv' := [(6, .int x106), (5, .int x105), (4, .int 0), (7, .int r96), (3, .int 0), (2, .int r1), (0, .ref (ad 0)), (1, .int k0)]) hx hb dX12_intOf_109 hl (k := 3) rfl (by rw [ex106]; rfl) (by decide) rfl (fun ls hl => ?_)
            refine lv_goto (tgt := 55) hx hb dX12_intOf_112 (by decide) ?_
            exact ih55 x105 x106 (0 : Int32) _ _ _ (Nat.lt_of_lt_of_le (v_intOf_77 σ k0 r1 x84 y87 x106 hpre_0 hpre_1 hr1 c2 ex84 tx84 c85 hi55_0 hi55_1 c89 ex106 tx106) (Nat.le_of_lt_succ hn55)) ⟨(v_intOf_75 σ k0 r1 x84 y87 x106 hpre_0 hpre_1 hr1 c2 ex84 tx84 c85 hi55_0 hi55_1 c89 ex106 tx106), (v_intOf_76 σ k0 r1 r82 x84 y86 y87 y88 r96 x103 x104 x105 x106 hpre_0 hpre_1 hpre_2 hpre_3 hr1 c2 hr82y c83 ex84 tx84 c85 hi55_0 hi55_1 hi55_2 hi55y c89 c93 hr96y c97 c102 ex103 ex104 ex105 ex106 tx106)⟩ hP hS (lv_sub hl [0, 1, 2, 4, 5, 6, 7] rfl)
          · have c102 : r96.toInt ≤ 57 := by have h := z_nlt c102; rw [show (57 : Int32).toInt = 57 from by decide +kernel] at h; exact h
            refine lv_iconst (v := 1) hx hb dX12_intOf_89 (by decide +kernel) ?_
            refine lv_goto (tgt := 94) hx hb dX12_intOf_90 (by decide) ?_
            refine lv_istore (lv' := [(4, .int 1), (7, .int r96), (6, .int y87), (5, .int y86), (3, .int 0), (2, .int r1), (0, .ref (ad 0)), (1, .int k0)]) hx hb dX12_intOf_94 hl (by decide) rfl (fun ls hl => ?_)
            refine lv_bipush (v := 10) hx hb dX12_intOf_96 (by decide +kernel) ?_
            refine lv_iload hx hb dX12_intOf_98 (lv_at hl 3 rfl) ?_
            refine lv_imul hx hb dX12_intOf_100 ?_
            refine lv_topi (fun x107 ex107 => ?_)
            refine lv_iload hx hb dX12_intOf_101 (lv_at hl 1 rfl) ?_
            refine lv_iadd hx hb dX12_intOf_103 ?_
            refine lv_topi (fun x108 ex108 => ?_)
            refine lv_bipush (v := 48) hx hb dX12_intOf_104 (by decide +kernel) ?_
            refine lv_isub hx hb dX12_intOf_106 ?_
            refine lv_topi (fun x109 ex109 => ?_)
            refine lv_istore (lv' := [(5, .int x109), (4, .int 1), (7, .int r96), (6, .int y87), (3, .int 0), (2, .int r1), (0, .ref (ad 0)), (1, .int k0)]) hx hb dX12_intOf_107 hl (by decide) rfl (fun ls hl => ?_)
            obtain ⟨x110, ex110⟩ : ∃ y : Int32, y = y87 + (1 : Int32) := ⟨_, rfl⟩
            have tx110 : x110.toInt = y87.toInt + 1 := (v_intOf_78 σ k0 r1 x84 y87 x110 hpre_0 hpre_1 hr1 c2 ex84 tx84 c85 hi55_0 hi55_1 c89 ex110)
            refine lv_iinc (v := x110) (lv' := [(6, .int x110), (5, .int x109), (4, .int 1), (7, .int r96), (3, .int 0), (2, .int r1), (0, .ref (ad 0)), (1, .int k0)]) hx hb dX12_intOf_109 hl (k := 3) rfl (by rw [ex110]; rfl) (by decide) rfl (fun ls hl => ?_)
            refine lv_goto (tgt := 55) hx hb dX12_intOf_112 (by decide) ?_
            exact ih55 x109 x110 (1 : Int32) _ _ _ (Nat.lt_of_lt_of_le (v_intOf_81 σ k0 r1 x84 y87 x110 hpre_0 hpre_1 hr1 c2 ex84 tx84 c85 hi55_0 hi55_1 c89 ex110 tx110) (Nat.le_of_lt_succ hn55)) ⟨(v_intOf_79 σ k0 r1 x84 y87 x110 hpre_0 hpre_1 hr1 c2 ex84 tx84 c85 hi55_0 hi55_1 c89 ex110 tx110), (v_intOf_80 σ k0 r1 r82 x84 y86 y87 y88 r96 x107 x108 x109 x110 hpre_0 hpre_1 hpre_2 hpre_3 hr1 c2 hr82y c83 ex84 tx84 c85 hi55_0 hi55_1 hi55_2 hi55y c89 c93 hr96y c97 c102 ex107 ex108 ex109 ex110 tx110)⟩ hP hS (lv_sub hl [0, 1, 2, 4, 5, 6, 7] rfl)
set_option maxHeartbeats 4000000 in
set_option maxRecDepth 100000 in
theorem L_intOf_55_5 {p : Program} {e : Env} {s : State} {m : MethodId} {below : List Frame} {meth : Method} {c : Code} (l : Launch) (D : va_G) (cy : Nat → ClassId) (sz0 : Nat) (sa : Nat → Nat) (ad : Nat → Nat) (sz : Nat) (σ : RS) (k0 : Int32) (r1 : Int32) (r82 : Int32) (x84 : Int32) (x111 : Int32) (C : RC p s m #[.ref (ad 0), .int k0] meth c cX12_intOf 8 (some .int) D cy sz0 sa ad (AR cy ad sz)) (hpre_0 : 0 ≤ k0.toInt) (hpre_1 : k0.toInt < 980) (hpre_2 : 0 ≤ (σ.1 56).toInt) (hpre_3 : (σ.1 56).toInt ≤ 11) (hr1 : r1 = LENF ((σ.2.2.1 52) k0.toNatClampNeg)) (c2 : 0 < r1.toInt) (hr82y : ∀ s9 : List Int, QTT ((σ.2.2.1 52) k0.toNatClampNeg) ((σ.2.2.1 53) k0.toNatClampNeg) s9 → 0 ≤ (0 : Int32).toInt → (0 : Int32).toInt < 17 → r82.toInt = s9.getD (0 : Int32).toInt.toNat 0) (c83 : ¬ r82.toInt = 45) (ex84 : x84 = r1 - (0 : Int32)) (tx84 : x84.toInt = r1.toInt - 0) (c85 : 1 ≤ x84.toInt) (ex111 : x111 = r1 - (0 : Int32)) (tx111 : x111.toInt = r1.toInt - 0) (c112 : 9 < x111.toInt) : ∀ (n : Nat) (y113 : Int32) (y114 : Int32) (y115 : Int32) (H : Heap) (locs : List Loc) (ls : Array Slot), (130 - y114.toInt).toNat < n → ((0 ≤ y114.toInt ∧ y114.toInt ≤ 130 ∧ (y115.toInt = 0 ∨ y115.toInt = 1)) ∧ (∀ s9 : List Int, QTT ((σ.2.2.1 52) k0.toNatClampNeg) ((σ.2.2.1 53) k0.toNatClampNeg) s9 → INL s9 (0 : Int32).toInt y113.toInt y114.toInt y115.toInt)) → RP D cy ad σ H → va_S (AR cy ad sz) s.heap H locs → lv_has ls 8 [(6, .int y114), (5, .int y113), (4, .int y115), (3, .int 0), (2, .int r1), (0, .ref (ad 0)), (1, .int k0)] → W p l e (headSpec (Cond.code yX12_intOf cX12_intOf 8 (some .int) :: GWm) ({ frames := 1, cells := 0, slots := 0, locals := 22 })).room s m #[.ref (ad 0), .int k0] below meth c H locs 0 0 (MQ below (va_Qi (fun (r : Int32) (u : Int32) => (0 ≤ u.toInt ∧ u.toInt ≤ 11) ∧ (∀ s9 : List Int, QTT ((σ.2.2.1 52) k0.toNatClampNeg) ((σ.2.2.1 53) k0.toNatClampNeg) s9 → QI (qToI s9) r.toInt u.toInt (σ.1 56).toInt)) (fun (u : Int32) (t : State) => RP D cy ad (rS σ 56 u) t.heap) (AR cy ad sz)) #[.ref (ad 0), .int k0] s 0 0 (AR cy ad sz)) (F0 m 55 ls []) := by
  have hx := C.1
  have hb := C.2.1
  have hown := C.2.2.2.2.1
  have hw := C.2.2.2.2.2.1
  intro n
  induction n with
  | zero => intro y113 y114 y115 H locs ls hn; exact absurd hn (Nat.not_lt_zero _)
  | succ n ih55 =>
    intro y113 y114 y115 H locs ls hn55 hi55 hP hS hl
    obtain ⟨hi55, hi55y⟩ := hi55
    obtain ⟨hi55_0, hi55_1, hi55_2⟩ := hi55
    refine lv_iload hx hb dX12_intOf_55 (lv_at hl 0 rfl) ?_
    refine lv_iload_n hx hb dX12_intOf_57 rfl (lv_at hl 4 rfl) ?_
    refine lv_icmp_ge (tgt := 115) hx hb dX12_intOf_58 (by decide) (fun c116 => ?_) (fun c116 => ?_)
    · have c116 : r1.toInt ≤ y114.toInt := by have h := z_le c116; exact h
      refine lv_aload_n hx hb dX12_intOf_115 rfl (lv_at hl 5 rfl) ?_
      refine lv_iload hx hb dX12_intOf_116 (lv_at hl 2 rfl) ?_
      refine lv_if_eq (tgt := 128) hx hb dX12_intOf_118 (by decide) (fun c117 => ?_) (fun c117 => ?_)
      · have c117 : y115.toInt = 0 := by have h := z_eq c117; rw [show (0 : Int32).toInt = 0 from by decide +kernel] at h; exact h
        refine lv_bipush (v := 10) hx hb dX12_intOf_128 (by decide +kernel) ?_
        refine rp_56 C hP hS wm_242 dX12_intOf_130 (fun H locs hP hS => ?_)
        refine lv_iload_n hx hb dX12_intOf_133 rfl (lv_at hl 3 rfl) ?_
        refine lv_iconst (v := 1) hx hb dX12_intOf_134 (by decide +kernel) ?_
        refine lv_icmp_ne (tgt := 144) hx hb dX12_intOf_135 (by decide) (fun _ => ?_) (fun c118 => absurd c118 (by decide +kernel))
        refine lv_iload hx hb dX12_intOf_144 (lv_at hl 1 rfl) ?_
        exact r_reti C (10 : Int32) ⟨(v_intOf_5  ), (v_intOf_84 σ k0 r1 r82 x84 x111 y113 y114 y115 hpre_0 hpre_1 hpre_2 hpre_3 hr1 c2 hr82y c83 ex84 tx84 c85 ex111 tx111 c112 hi55_0 hi55_1 hi55_2 hi55y c116 c117)⟩ hP hS dX12_intOf_146
      · have c117 : ¬ y115.toInt = 0 := by have h := z_ne c117; rw [show (0 : Int32).toInt = 0 from by decide +kernel] at h; exact h
        refine lv_aload_n hx hb dX12_intOf_121 rfl (lv_at hl 5 rfl) ?_
        refine rg_56 (v := (σ.1 56)) C hP rfl wm_242 dX12_intOf_122 ?_
        refine lv_goto (tgt := 130) hx hb dX12_intOf_125 (by decide) ?_
        refine rp_56 C hP hS wm_242 dX12_intOf_130 (fun H locs hP hS => ?_)
        refine lv_iload_n hx hb dX12_intOf_133 rfl (lv_at hl 3 rfl) ?_
        refine lv_iconst (v := 1) hx hb dX12_intOf_134 (by decide +kernel) ?_
        refine lv_icmp_ne (tgt := 144) hx hb dX12_intOf_135 (by decide) (fun _ => ?_) (fun c119 => absurd c119 (by decide +kernel))
        refine lv_iload hx hb dX12_intOf_144 (lv_at hl 1 rfl) ?_
        exact r_reti C (σ.1 56) ⟨(v_intOf_7 σ hpre_2 hpre_3), (v_intOf_85 σ k0 r1 r82 x84 x111 y113 y114 y115 hpre_0 hpre_1 hpre_2 hpre_3 hr1 c2 hr82y c83 ex84 tx84 c85 ex111 tx111 c112 hi55_0 hi55_1 hi55_2 hi55y c116 c117)⟩ hP hS dX12_intOf_146
    · have c116 : y114.toInt < r1.toInt := by have h := z_nle c116; exact h
      refine lv_iload hx hb dX12_intOf_61 (lv_at hl 2 rfl) ?_
      refine lv_if_eq (tgt := 115) hx hb dX12_intOf_63 (by decide) (fun c120 => ?_) (fun c120 => ?_)
      · have c120 : y115.toInt = 0 := by have h := z_eq c120; rw [show (0 : Int32).toInt = 0 from by decide +kernel] at h; exact h
        refine lv_aload_n hx hb dX12_intOf_115 rfl (lv_at hl 5 rfl) ?_
        refine lv_iload hx hb dX12_intOf_116 (lv_at hl 2 rfl) ?_
        refine lv_if_eq (tgt := 128) hx hb dX12_intOf_118 (by decide) (fun c121 => ?_) (fun c121 => ?_)
        · have c121 : y115.toInt = 0 := by have h := z_eq c121; rw [show (0 : Int32).toInt = 0 from by decide +kernel] at h; exact h
          refine lv_bipush (v := 10) hx hb dX12_intOf_128 (by decide +kernel) ?_
          refine rp_56 C hP hS wm_242 dX12_intOf_130 (fun H locs hP hS => ?_)
          refine lv_iload_n hx hb dX12_intOf_133 rfl (lv_at hl 3 rfl) ?_
          refine lv_iconst (v := 1) hx hb dX12_intOf_134 (by decide +kernel) ?_
          refine lv_icmp_ne (tgt := 144) hx hb dX12_intOf_135 (by decide) (fun _ => ?_) (fun c122 => absurd c122 (by decide +kernel))
          refine lv_iload hx hb dX12_intOf_144 (lv_at hl 1 rfl) ?_
          exact r_reti C (10 : Int32) ⟨(v_intOf_5  ), (v_intOf_86 σ k0 r1 r82 x84 x111 y113 y114 y115 hpre_0 hpre_1 hpre_2 hpre_3 hr1 c2 hr82y c83 ex84 tx84 c85 ex111 tx111 c112 hi55_0 hi55_1 hi55_2 hi55y c116 c120 c121)⟩ hP hS dX12_intOf_146
        · have c121 : ¬ y115.toInt = 0 := by have h := z_ne c121; rw [show (0 : Int32).toInt = 0 from by decide +kernel] at h; exact h
          exact absurd (v_intOf_87 y115 hi55_2 c120 c121) id
      · have c120 : ¬ y115.toInt = 0 := by have h := z_ne c120; rw [show (0 : Int32).toInt = 0 from by decide +kernel] at h; exact h
        refine lv_aload_n hx hb dX12_intOf_66 rfl (lv_at hl 5 rfl) ?_
        refine lv_iload_n hx hb dX12_intOf_67 rfl (lv_at hl 6 rfl) ?_
        refine lv_iload hx hb dX12_intOf_68 (lv_at hl 0 rfl) ?_
        refine r_callVi (As := [.int k0, .int y114]) (rest := []) C hP hS hl.1 ⟨Nat.zero_le _, Nat.zero_le _⟩ (M_sign8 l D cy sz0 sa ad σ H.size k0 y114 (v_intOf_88 σ k0 r1 x84 x111 y114 hpre_0 hpre_1 hr1 c2 ex84 tx84 c85 ex111 tx111 c112 hi55_0 hi55_1 c116)) (n := 2) ⟨wm_231, wm_217, by decide +kernel⟩ ⟨wm_232, wm_233, wm_10⟩ rfl rfl (lv_room (Nat.le_of_ble_eq_true rfl)) ⟨Nat.le_of_ble_eq_true rfl, Nat.le_of_ble_eq_true rfl⟩ dX12_intOf_70 (fun r123 u H locs hr123 hP hS => ?_)
        obtain ⟨hr123, hr123y⟩ := hr123
        have hr123y : ∀ s9 : List Int, QTT ((σ.2.2.1 52) k0.toNatClampNeg) ((σ.2.2.1 53) k0.toNatClampNeg) s9 → 0 ≤ y114.toInt → y114.toInt < 17 → r123.toInt = s9.getD y114.toInt.toNat 0 := hr123y
        have hr123 : True := hr123
        refine lv_istore (lv' := [(7, .int r123), (6, .int y114), (5, .int y113), (4, .int y115), (3, .int 0), (2, .int r1), (0, .ref (ad 0)), (1, .int k0)]) hx hb dX12_intOf_73 hl (by decide) rfl (fun ls hl => ?_)
        refine lv_iload hx hb dX12_intOf_75 (lv_at hl 0 rfl) ?_
        refine lv_bipush (v := 48) hx hb dX12_intOf_77 (by decide +kernel) ?_
        refine lv_icmp_lt (tgt := 93) hx hb dX12_intOf_79 (by decide) (fun c124 => ?_) (fun c124 => ?_)
        · have c124 : r123.toInt < 48 := by have h := z_lt c124; rw [show (48 : Int32).toInt = 48 from by decide +kernel] at h; exact h
          refine lv_iconst (v := 0) hx hb dX12_intOf_93 (by decide +kernel) ?_
          refine lv_istore (lv' := [(4, .int 0), (7, .int r123), (6, .int y114), (5, .int y113), (3, .int 0), (2, .int r1), (0, .ref (ad 0)), (1, .int k0)]) hx hb dX12_intOf_94 hl (by decide) rfl (fun ls hl => ?_)
          refine lv_bipush (v := 10) hx hb dX12_intOf_96 (by decide +kernel) ?_
          refine lv_iload hx hb dX12_intOf_98 (lv_at hl 3 rfl) ?_
          refine lv_imul hx hb dX12_intOf_100 ?_
          refine lv_topi (fun x125 ex125 => ?_)
          refine lv_iload hx hb dX12_intOf_101 (lv_at hl 1 rfl) ?_
          refine lv_iadd hx hb dX12_intOf_103 ?_
          refine lv_topi (fun x126 ex126 => ?_)
          refine lv_bipush (v := 48) hx hb dX12_intOf_104 (by decide +kernel) ?_
          refine lv_isub hx hb dX12_intOf_106 ?_
          refine lv_topi (fun x127 ex127 => ?_)
          refine lv_istore (lv' := [(5, .int x127), (4, .int 0), (7, .int r123), (6, .int y114), (3, .int 0), (2, .int r1), (0, .ref (ad 0)), (1, .int k0)]) hx hb dX12_intOf_107 hl (by decide) rfl (fun ls hl => ?_)
          obtain ⟨x128, ex128⟩ : ∃ y : Int32, y = y114 + (1 : Int32) := ⟨_, rfl⟩
          have tx128 : x128.toInt = y114.toInt + 1 := (v_intOf_89 σ k0 r1 x84 x111 y114 x128 hpre_0 hpre_1 hr1 c2 ex84 tx84 c85 ex111 tx111 c112 hi55_0 hi55_1 c116 ex128)
          refine lv_iinc (v := x128) (lv' := [(6, .int x128), (5, .int x127), (4, .int 0), (7, .int r123), (3, .int 0), (2, .int r1), (0, .ref (ad 0)), (1, .int k0)]) hx hb dX12_intOf_109 hl (k := 3) rfl (by rw [ex128]; rfl) (by decide) rfl (fun ls hl => ?_)
          refine lv_goto (tgt := 55) hx hb dX12_intOf_112 (by decide) ?_
          exact ih55 x127 x128 (0 : Int32) _ _ _ (Nat.lt_of_lt_of_le (v_intOf_92 σ k0 r1 x84 x111 y114 x128 hpre_0 hpre_1 hr1 c2 ex84 tx84 c85 ex111 tx111 c112 hi55_0 hi55_1 c116 ex128 tx128) (Nat.le_of_lt_succ hn55)) ⟨(v_intOf_90 σ k0 r1 x84 x111 y114 x128 hpre_0 hpre_1 hr1 c2 ex84 tx84 c85 ex111 tx111 c112 hi55_0 hi55_1 c116 ex128 tx128), (v_intOf_91 σ k0 r1 r82 x84 x111 y113 y114 y115 r123 x125 x126 x127 x128 hpre_0 hpre_1 hpre_2 hpre_3 hr1 c2 hr82y c83 ex84 tx84 c85 ex111 tx111 c112 hi55_0 hi55_1 hi55_2 hi55y c116 c120 hr123y c124 ex125 ex126 ex127 ex128 tx128)⟩ hP hS (lv_sub hl [0, 1, 2, 4, 5, 6, 7] rfl)
        · have c124 : 48 ≤ r123.toInt := by have h := z_nlt c124; rw [show (48 : Int32).toInt = 48 from by decide +kernel] at h; exact h
          refine lv_iload hx hb dX12_intOf_82 (lv_at hl 0 rfl) ?_
          refine lv_bipush (v := 57) hx hb dX12_intOf_84 (by decide +kernel) ?_
          refine lv_icmp_gt (tgt := 93) hx hb dX12_intOf_86 (by decide) (fun c129 => ?_) (fun c129 => ?_)
          · have c129 : 57 < r123.toInt := by have h := z_lt c129; rw [show (57 : Int32).toInt = 57 from by decide +kernel] at h; exact h
            refine lv_iconst (v := 0) hx hb dX12_intOf_93 (by decide +kernel) ?_
            refine lv_istore (lv' := [(4, .int 0), (7, .int r123), (6, .int y114), (5, .int y113), (3, .int 0), (2, .int r1), (0, .ref (ad 0)), (1, .int k0)]) hx hb dX12_intOf_94 hl (by decide) rfl (fun ls hl => ?_)
            refine lv_bipush (v := 10) hx hb dX12_intOf_96 (by decide +kernel) ?_
            refine lv_iload hx hb dX12_intOf_98 (lv_at hl 3 rfl) ?_
            refine lv_imul hx hb dX12_intOf_100 ?_
            refine lv_topi (fun x130 ex130 => ?_)
            refine lv_iload hx hb dX12_intOf_101 (lv_at hl 1 rfl) ?_
            refine lv_iadd hx hb dX12_intOf_103 ?_
            refine lv_topi (fun x131 ex131 => ?_)
            refine lv_bipush (v := 48) hx hb dX12_intOf_104 (by decide +kernel) ?_
            refine lv_isub hx hb dX12_intOf_106 ?_
            refine lv_topi (fun x132 ex132 => ?_)
            refine lv_istore (lv' := [(5, .int x132), (4, .int 0), (7, .int r123), (6, .int y114), (3, .int 0), (2, .int r1), (0, .ref (ad 0)), (1, .int k0)]) hx hb dX12_intOf_107 hl (by decide) rfl (fun ls hl => ?_)
            obtain ⟨x133, ex133⟩ : ∃ y : Int32, y = y114 + (1 : Int32) := ⟨_, rfl⟩
            have tx133 : x133.toInt = y114.toInt + 1 := (v_intOf_93 σ k0 r1 x84 x111 y114 x133 hpre_0 hpre_1 hr1 c2 ex84 tx84 c85 ex111 tx111 c112 hi55_0 hi55_1 c116 ex133)
            refine lv_iinc (v := x133) (lv' := [(6, .int x133), (5, .int x132), (4, .int 0), (7, .int r123), (3, .int 0), (2, .int r1), (0, .ref (ad 0)), (1, .int k0)]) hx hb dX12_intOf_109 hl (k := 3) rfl (by rw [ex133]; rfl) (by decide) rfl (fun ls hl => ?_)
            refine lv_goto (tgt := 55) hx hb dX12_intOf_112 (by decide) ?_
            exact ih55 x132 x133 (0 : Int32) _ _ _ (Nat.lt_of_lt_of_le (v_intOf_96 σ k0 r1 x84 x111 y114 x133 hpre_0 hpre_1 hr1 c2 ex84 tx84 c85 ex111 tx111 c112 hi55_0 hi55_1 c116 ex133 tx133) (Nat.le_of_lt_succ hn55)) ⟨(v_intOf_94 σ k0 r1 x84 x111 y114 x133 hpre_0 hpre_1 hr1 c2 ex84 tx84 c85 ex111 tx111 c112 hi55_0 hi55_1 c116 ex133 tx133), (v_intOf_95 σ k0 r1 r82 x84 x111 y113 y114 y115 r123 x130 x131 x132 x133 hpre_0 hpre_1 hpre_2 hpre_3 hr1 c2 hr82y c83 ex84 tx84 c85 ex111 tx111 c112 hi55_0 hi55_1 hi55_2 hi55y c116 c120 hr123y c124 c129 ex130 ex131 ex132 ex133 tx133)⟩ hP hS (lv_sub hl [0, 1, 2, 4, 5, 6, 7] rfl)
          · have c129 : r123.toInt ≤ 57 := by have h := z_nlt c129; rw [show (57 : Int32).toInt = 57 from by decide +kernel] at h; exact h
            refine lv_iconst (v := 1) hx hb dX12_intOf_89 (by decide +kernel) ?_
            refine lv_goto (tgt := 94) hx hb dX12_intOf_90 (by decide) ?_
            refine lv_istore (lv' := [(4, .int 1), (7, .int r123), (6, .int y114), (5, .int y113), (3, .int 0), (2, .int r1), (0, .ref (ad 0)), (1, .int k0)]) hx hb dX12_intOf_94 hl (by decide) rfl (fun ls hl => ?_)
            refine lv_bipush (v := 10) hx hb dX12_intOf_96 (by decide +kernel) ?_
            refine lv_iload hx hb dX12_intOf_98 (lv_at hl 3 rfl) ?_
            refine lv_imul hx hb dX12_intOf_100 ?_
            refine lv_topi (fun x134 ex134 => ?_)
            refine lv_iload hx hb dX12_intOf_101 (lv_at hl 1 rfl) ?_
            refine lv_iadd hx hb dX12_intOf_103 ?_
            refine lv_topi (fun x135 ex135 => ?_)
            refine lv_bipush (v := 48) hx hb dX12_intOf_104 (by decide +kernel) ?_
            refine lv_isub hx hb dX12_intOf_106 ?_
            refine lv_topi (fun x136 ex136 => ?_)
            refine lv_istore (lv' := [(5, .int x136), (4, .int 1), (7, .int r123), (6, .int y114), (3, .int 0), (2, .int r1), (0, .ref (ad 0)), (1, .int k0)]) hx hb dX12_intOf_107 hl (by decide) rfl (fun ls hl => ?_)
            obtain ⟨x137, ex137⟩ : ∃ y : Int32, y = y114 + (1 : Int32) := ⟨_, rfl⟩
            have tx137 : x137.toInt = y114.toInt + 1 := (v_intOf_97 σ k0 r1 x84 x111 y114 x137 hpre_0 hpre_1 hr1 c2 ex84 tx84 c85 ex111 tx111 c112 hi55_0 hi55_1 c116 ex137)
            refine lv_iinc (v := x137) (lv' := [(6, .int x137), (5, .int x136), (4, .int 1), (7, .int r123), (3, .int 0), (2, .int r1), (0, .ref (ad 0)), (1, .int k0)]) hx hb dX12_intOf_109 hl (k := 3) rfl (by rw [ex137]; rfl) (by decide) rfl (fun ls hl => ?_)
            refine lv_goto (tgt := 55) hx hb dX12_intOf_112 (by decide) ?_
            exact ih55 x136 x137 (1 : Int32) _ _ _ (Nat.lt_of_lt_of_le (v_intOf_100 σ k0 r1 x84 x111 y114 x137 hpre_0 hpre_1 hr1 c2 ex84 tx84 c85 ex111 tx111 c112 hi55_0 hi55_1 c116 ex137 tx137) (Nat.le_of_lt_succ hn55)) ⟨(v_intOf_98 σ k0 r1 x84 x111 y114 x137 hpre_0 hpre_1 hr1 c2 ex84 tx84 c85 ex111 tx111 c112 hi55_0 hi55_1 c116 ex137 tx137), (v_intOf_99 σ k0 r1 r82 x84 x111 y113 y114 y115 r123 x134 x135 x136 x137 hpre_0 hpre_1 hpre_2 hpre_3 hr1 c2 hr82y c83 ex84 tx84 c85 ex111 tx111 c112 hi55_0 hi55_1 hi55_2 hi55y c116 c120 hr123y c124 c129 ex134 ex135 ex136 ex137 tx137)⟩ hP hS (lv_sub hl [0, 1, 2, 4, 5, 6, 7] rfl)
set_option maxHeartbeats 4000000 in
set_option maxRecDepth 100000 in
theorem L_intOf_55_6 {p : Program} {e : Env} {s : State} {m : MethodId} {below : List Frame} {meth : Method} {c : Code} (l : Launch) (D : va_G) (cy : Nat → ClassId) (sz0 : Nat) (sa : Nat → Nat) (ad : Nat → Nat) (sz : Nat) (σ : RS) (k0 : Int32) (r1 : Int32) (r82 : Int32) (x84 : Int32) (x111 : Int32) (C : RC p s m #[.ref (ad 0), .int k0] meth c cX12_intOf 8 (some .int) D cy sz0 sa ad (AR cy ad sz)) (hpre_0 : 0 ≤ k0.toInt) (hpre_1 : k0.toInt < 980) (hpre_2 : 0 ≤ (σ.1 56).toInt) (hpre_3 : (σ.1 56).toInt ≤ 11) (hr1 : r1 = LENF ((σ.2.2.1 52) k0.toNatClampNeg)) (c2 : 0 < r1.toInt) (hr82y : ∀ s9 : List Int, QTT ((σ.2.2.1 52) k0.toNatClampNeg) ((σ.2.2.1 53) k0.toNatClampNeg) s9 → 0 ≤ (0 : Int32).toInt → (0 : Int32).toInt < 17 → r82.toInt = s9.getD (0 : Int32).toInt.toNat 0) (c83 : ¬ r82.toInt = 45) (ex84 : x84 = r1 - (0 : Int32)) (tx84 : x84.toInt = r1.toInt - 0) (c85 : 1 ≤ x84.toInt) (ex111 : x111 = r1 - (0 : Int32)) (tx111 : x111.toInt = r1.toInt - 0) (c112 : x111.toInt ≤ 9) : ∀ (n : Nat) (y138 : Int32) (y139 : Int32) (y140 : Int32) (H : Heap) (locs : List Loc) (ls : Array Slot), (130 - y139.toInt).toNat < n → ((0 ≤ y139.toInt ∧ y139.toInt ≤ 130 ∧ (y140.toInt = 0 ∨ y140.toInt = 1)) ∧ (∀ s9 : List Int, QTT ((σ.2.2.1 52) k0.toNatClampNeg) ((σ.2.2.1 53) k0.toNatClampNeg) s9 → INL s9 (0 : Int32).toInt y138.toInt y139.toInt y140.toInt)) → RP D cy ad σ H → va_S (AR cy ad sz) s.heap H locs → lv_has ls 8 [(6, .int y139), (5, .int y138), (4, .int y140), (3, .int 0), (2, .int r1), (0, .ref (ad 0)), (1, .int k0)] → W p l e (headSpec (Cond.code yX12_intOf cX12_intOf 8 (some .int) :: GWm) ({ frames := 1, cells := 0, slots := 0, locals := 22 })).room s m #[.ref (ad 0), .int k0] below meth c H locs 0 0 (MQ below (va_Qi (fun (r : Int32) (u : Int32) => (0 ≤ u.toInt ∧ u.toInt ≤ 11) ∧ (∀ s9 : List Int, QTT ((σ.2.2.1 52) k0.toNatClampNeg) ((σ.2.2.1 53) k0.toNatClampNeg) s9 → QI (qToI s9) r.toInt u.toInt (σ.1 56).toInt)) (fun (u : Int32) (t : State) => RP D cy ad (rS σ 56 u) t.heap) (AR cy ad sz)) #[.ref (ad 0), .int k0] s 0 0 (AR cy ad sz)) (F0 m 55 ls []) := by
  have hx := C.1
  have hb := C.2.1
  have hown := C.2.2.2.2.1
  have hw := C.2.2.2.2.2.1
  intro n
  induction n with
  | zero => intro y138 y139 y140 H locs ls hn; exact absurd hn (Nat.not_lt_zero _)
  | succ n ih55 =>
    intro y138 y139 y140 H locs ls hn55 hi55 hP hS hl
    obtain ⟨hi55, hi55y⟩ := hi55
    obtain ⟨hi55_0, hi55_1, hi55_2⟩ := hi55
    refine lv_iload hx hb dX12_intOf_55 (lv_at hl 0 rfl) ?_
    refine lv_iload_n hx hb dX12_intOf_57 rfl (lv_at hl 4 rfl) ?_
    refine lv_icmp_ge (tgt := 115) hx hb dX12_intOf_58 (by decide) (fun c141 => ?_) (fun c141 => ?_)
    · have c141 : r1.toInt ≤ y139.toInt := by have h := z_le c141; exact h
      refine lv_aload_n hx hb dX12_intOf_115 rfl (lv_at hl 5 rfl) ?_
      refine lv_iload hx hb dX12_intOf_116 (lv_at hl 2 rfl) ?_
      refine lv_if_eq (tgt := 128) hx hb dX12_intOf_118 (by decide) (fun c142 => ?_) (fun c142 => ?_)
      · have c142 : y140.toInt = 0 := by have h := z_eq c142; rw [show (0 : Int32).toInt = 0 from by decide +kernel] at h; exact h
        refine lv_bipush (v := 10) hx hb dX12_intOf_128 (by decide +kernel) ?_
        refine rp_56 C hP hS wm_242 dX12_intOf_130 (fun H locs hP hS => ?_)
        refine lv_iload_n hx hb dX12_intOf_133 rfl (lv_at hl 3 rfl) ?_
        refine lv_iconst (v := 1) hx hb dX12_intOf_134 (by decide +kernel) ?_
        refine lv_icmp_ne (tgt := 144) hx hb dX12_intOf_135 (by decide) (fun _ => ?_) (fun c143 => absurd c143 (by decide +kernel))
        refine lv_iload hx hb dX12_intOf_144 (lv_at hl 1 rfl) ?_
        exact r_reti C (10 : Int32) ⟨(v_intOf_5  ), (v_intOf_102 σ k0 r1 r82 x84 x111 y138 y139 y140 hpre_0 hpre_1 hpre_2 hpre_3 hr1 c2 hr82y c83 ex84 tx84 c85 ex111 tx111 c112 hi55_0 hi55_1 hi55_2 hi55y c141 c142)⟩ hP hS dX12_intOf_146
      · have c142 : ¬ y140.toInt = 0 := by have h := z_ne c142; rw [show (0 : Int32).toInt = 0 from by decide +kernel] at h; exact h
        refine lv_aload_n hx hb dX12_intOf_121 rfl (lv_at hl 5 rfl) ?_
        refine rg_56 (v := (σ.1 56)) C hP rfl wm_242 dX12_intOf_122 ?_
        refine lv_goto (tgt := 130) hx hb dX12_intOf_125 (by decide) ?_
        refine rp_56 C hP hS wm_242 dX12_intOf_130 (fun H locs hP hS => ?_)
        refine lv_iload_n hx hb dX12_intOf_133 rfl (lv_at hl 3 rfl) ?_
        refine lv_iconst (v := 1) hx hb dX12_intOf_134 (by decide +kernel) ?_
        refine lv_icmp_ne (tgt := 144) hx hb dX12_intOf_135 (by decide) (fun _ => ?_) (fun c144 => absurd c144 (by decide +kernel))
        refine lv_iload hx hb dX12_intOf_144 (lv_at hl 1 rfl) ?_
        exact r_reti C (σ.1 56) ⟨(v_intOf_7 σ hpre_2 hpre_3), (v_intOf_103 σ k0 r1 r82 x84 x111 y138 y139 y140 hpre_0 hpre_1 hpre_2 hpre_3 hr1 c2 hr82y c83 ex84 tx84 c85 ex111 tx111 c112 hi55_0 hi55_1 hi55_2 hi55y c141 c142)⟩ hP hS dX12_intOf_146
    · have c141 : y139.toInt < r1.toInt := by have h := z_nle c141; exact h
      refine lv_iload hx hb dX12_intOf_61 (lv_at hl 2 rfl) ?_
      refine lv_if_eq (tgt := 115) hx hb dX12_intOf_63 (by decide) (fun c145 => ?_) (fun c145 => ?_)
      · have c145 : y140.toInt = 0 := by have h := z_eq c145; rw [show (0 : Int32).toInt = 0 from by decide +kernel] at h; exact h
        refine lv_aload_n hx hb dX12_intOf_115 rfl (lv_at hl 5 rfl) ?_
        refine lv_iload hx hb dX12_intOf_116 (lv_at hl 2 rfl) ?_
        refine lv_if_eq (tgt := 128) hx hb dX12_intOf_118 (by decide) (fun c146 => ?_) (fun c146 => ?_)
        · have c146 : y140.toInt = 0 := by have h := z_eq c146; rw [show (0 : Int32).toInt = 0 from by decide +kernel] at h; exact h
          refine lv_bipush (v := 10) hx hb dX12_intOf_128 (by decide +kernel) ?_
          refine rp_56 C hP hS wm_242 dX12_intOf_130 (fun H locs hP hS => ?_)
          refine lv_iload_n hx hb dX12_intOf_133 rfl (lv_at hl 3 rfl) ?_
          refine lv_iconst (v := 1) hx hb dX12_intOf_134 (by decide +kernel) ?_
          refine lv_icmp_ne (tgt := 144) hx hb dX12_intOf_135 (by decide) (fun _ => ?_) (fun c147 => absurd c147 (by decide +kernel))
          refine lv_iload hx hb dX12_intOf_144 (lv_at hl 1 rfl) ?_
          exact r_reti C (10 : Int32) ⟨(v_intOf_5  ), (v_intOf_104 σ k0 r1 r82 x84 x111 y138 y139 y140 hpre_0 hpre_1 hpre_2 hpre_3 hr1 c2 hr82y c83 ex84 tx84 c85 ex111 tx111 c112 hi55_0 hi55_1 hi55_2 hi55y c141 c145 c146)⟩ hP hS dX12_intOf_146
        · have c146 : ¬ y140.toInt = 0 := by have h := z_ne c146; rw [show (0 : Int32).toInt = 0 from by decide +kernel] at h; exact h
          exact absurd (v_intOf_105 y140 hi55_2 c145 c146) id
      · have c145 : ¬ y140.toInt = 0 := by have h := z_ne c145; rw [show (0 : Int32).toInt = 0 from by decide +kernel] at h; exact h
        refine lv_aload_n hx hb dX12_intOf_66 rfl (lv_at hl 5 rfl) ?_
        refine lv_iload_n hx hb dX12_intOf_67 rfl (lv_at hl 6 rfl) ?_
        refine lv_iload hx hb dX12_intOf_68 (lv_at hl 0 rfl) ?_
        refine r_callVi (As := [.int k0, .int y139]) (rest := []) C hP hS hl.1 ⟨Nat.zero_le _, Nat.zero_le _⟩ (M_sign8 l D cy sz0 sa ad σ H.size k0 y139 (v_intOf_106 σ k0 r1 x84 x111 y139 hpre_0 hpre_1 hr1 c2 ex84 tx84 c85 ex111 tx111 c112 hi55_0 hi55_1 c141)) (n := 2) ⟨wm_231, wm_217, by decide +kernel⟩ ⟨wm_232, wm_233, wm_10⟩ rfl rfl (lv_room (Nat.le_of_ble_eq_true rfl)) ⟨Nat.le_of_ble_eq_true rfl, Nat.le_of_ble_eq_true rfl⟩ dX12_intOf_70 (fun r148 u H locs hr148 hP hS => ?_)
        obtain ⟨hr148, hr148y⟩ := hr148
        have hr148y : ∀ s9 : List Int, QTT ((σ.2.2.1 52) k0.toNatClampNeg) ((σ.2.2.1 53) k0.toNatClampNeg) s9 → 0 ≤ y139.toInt → y139.toInt < 17 → r148.toInt = s9.getD y139.toInt.toNat 0 := hr148y
        have hr148 : True := hr148
        refine lv_istore (lv' := [(7, .int r148), (6, .int y139), (5, .int y138), (4, .int y140), (3, .int 0), (2, .int r1), (0, .ref (ad 0)), (1, .int k0)]) hx hb dX12_intOf_73 hl (by decide) rfl (fun ls hl => ?_)
        refine lv_iload hx hb dX12_intOf_75 (lv_at hl 0 rfl) ?_
        refine lv_bipush (v := 48) hx hb dX12_intOf_77 (by decide +kernel) ?_
        refine lv_icmp_lt (tgt := 93) hx hb dX12_intOf_79 (by decide) (fun c149 => ?_) (fun c149 => ?_)
        · have c149 : r148.toInt < 48 := by have h := z_lt c149; rw [show (48 : Int32).toInt = 48 from by decide +kernel] at h; exact h
          refine lv_iconst (v := 0) hx hb dX12_intOf_93 (by decide +kernel) ?_
          refine lv_istore (lv' := [(4, .int 0), (7, .int r148), (6, .int y139), (5, .int y138), (3, .int 0), (2, .int r1), (0, .ref (ad 0)), (1, .int k0)]) hx hb dX12_intOf_94 hl (by decide) rfl (fun ls hl => ?_)
          refine lv_bipush (v := 10) hx hb dX12_intOf_96 (by decide +kernel) ?_
          refine lv_iload hx hb dX12_intOf_98 (lv_at hl 3 rfl) ?_
          refine lv_imul hx hb dX12_intOf_100 ?_
          refine lv_topi (fun x150 ex150 => ?_)
          refine lv_iload hx hb dX12_intOf_101 (lv_at hl 1 rfl) ?_
          refine lv_iadd hx hb dX12_intOf_103 ?_
          refine lv_topi (fun x151 ex151 => ?_)
          refine lv_bipush (v := 48) hx hb dX12_intOf_104 (by decide +kernel) ?_
          refine lv_isub hx hb dX12_intOf_106 ?_
          refine lv_topi (fun x152 ex152 => ?_)
          refine lv_istore (lv' := [(5, .int x152), (4, .int 0), (7, .int r148), (6, .int y139), (3, .int 0), (2, .int r1), (0, .ref (ad 0)), (1, .int k0)]) hx hb dX12_intOf_107 hl (by decide) rfl (fun ls hl => ?_)
          obtain ⟨x153, ex153⟩ : ∃ y : Int32, y = y139 + (1 : Int32) := ⟨_, rfl⟩
          have tx153 : x153.toInt = y139.toInt + 1 := (v_intOf_107 σ k0 r1 x84 x111 y139 x153 hpre_0 hpre_1 hr1 c2 ex84 tx84 c85 ex111 tx111 c112 hi55_0 hi55_1 c141 ex153)
          refine lv_iinc (v := x153) (lv' := [(6, .int x153), (5, .int x152), (4, .int 0), (7, .int r148), (3, .int 0), (2, .int r1), (0, .ref (ad 0)), (1, .int k0)]) hx hb dX12_intOf_109 hl (k := 3) rfl (by rw [ex153]; rfl) (by decide) rfl (fun ls hl => ?_)
          refine lv_goto (tgt := 55) hx hb dX12_intOf_112 (by decide) ?_
          exact ih55 x152 x153 (0 : Int32) _ _ _ (Nat.lt_of_lt_of_le (v_intOf_110 σ k0 r1 x84 x111 y139 x153 hpre_0 hpre_1 hr1 c2 ex84 tx84 c85 ex111 tx111 c112 hi55_0 hi55_1 c141 ex153 tx153) (Nat.le_of_lt_succ hn55)) ⟨(v_intOf_108 σ k0 r1 x84 x111 y139 x153 hpre_0 hpre_1 hr1 c2 ex84 tx84 c85 ex111 tx111 c112 hi55_0 hi55_1 c141 ex153 tx153), (v_intOf_109 σ k0 r1 r82 x84 x111 y138 y139 y140 r148 x150 x151 x152 x153 hpre_0 hpre_1 hpre_2 hpre_3 hr1 c2 hr82y c83 ex84 tx84 c85 ex111 tx111 c112 hi55_0 hi55_1 hi55_2 hi55y c141 c145 hr148y c149 ex150 ex151 ex152 ex153 tx153)⟩ hP hS (lv_sub hl [0, 1, 2, 4, 5, 6, 7] rfl)
        · have c149 : 48 ≤ r148.toInt := by have h := z_nlt c149; rw [show (48 : Int32).toInt = 48 from by decide +kernel] at h; exact h
          refine lv_iload hx hb dX12_intOf_82 (lv_at hl 0 rfl) ?_
          refine lv_bipush (v := 57) hx hb dX12_intOf_84 (by decide +kernel) ?_
          refine lv_icmp_gt (tgt := 93) hx hb dX12_intOf_86 (by decide) (fun c154 => ?_) (fun c154 => ?_)
          · have c154 : 57 < r148.toInt := by have h := z_lt c154; rw [show (57 : Int32).toInt = 57 from by decide +kernel] at h; exact h
            refine lv_iconst (v := 0) hx hb dX12_intOf_93 (by decide +kernel) ?_
            refine lv_istore (lv' := [(4, .int 0), (7, .int r148), (6, .int y139), (5, .int y138), (3, .int 0), (2, .int r1), (0, .ref (ad 0)), (1, .int k0)]) hx hb dX12_intOf_94 hl (by decide) rfl (fun ls hl => ?_)
            refine lv_bipush (v := 10) hx hb dX12_intOf_96 (by decide +kernel) ?_
            refine lv_iload hx hb dX12_intOf_98 (lv_at hl 3 rfl) ?_
            refine lv_imul hx hb dX12_intOf_100 ?_
            refine lv_topi (fun x155 ex155 => ?_)
            refine lv_iload hx hb dX12_intOf_101 (lv_at hl 1 rfl) ?_
            refine lv_iadd hx hb dX12_intOf_103 ?_
            refine lv_topi (fun x156 ex156 => ?_)
            refine lv_bipush (v := 48) hx hb dX12_intOf_104 (by decide +kernel) ?_
            refine lv_isub hx hb dX12_intOf_106 ?_
            refine lv_topi (fun x157 ex157 => ?_)
            refine lv_istore (lv' := [(5, .int x157), (4, .int 0), (7, .int r148), (6, .int y139), (3, .int 0), (2, .int r1), (0, .ref (ad 0)), (1, .int k0)]) hx hb dX12_intOf_107 hl (by decide) rfl (fun ls hl => ?_)
            obtain ⟨x158, ex158⟩ : ∃ y : Int32, y = y139 + (1 : Int32) := ⟨_, rfl⟩
            have tx158 : x158.toInt = y139.toInt + 1 := (v_intOf_111 σ k0 r1 x84 x111 y139 x158 hpre_0 hpre_1 hr1 c2 ex84 tx84 c85 ex111 tx111 c112 hi55_0 hi55_1 c141 ex158)
            refine lv_iinc (v := x158) (lv' := [(6, .int x158), (5, .int x157), (4, .int 0), (7, .int r148), (3, .int 0), (2, .int r1), (0, .ref (ad 0)), (1, .int k0)]) hx hb dX12_intOf_109 hl (k := 3) rfl (by rw [ex158]; rfl) (by decide) rfl (fun ls hl => ?_)
            refine lv_goto (tgt := 55) hx hb dX12_intOf_112 (by decide) ?_
            exact ih55 x157 x158 (0 : Int32) _ _ _ (Nat.lt_of_lt_of_le (v_intOf_114 σ k0 r1 x84 x111 y139 x158 hpre_0 hpre_1 hr1 c2 ex84 tx84 c85 ex111 tx111 c112 hi55_0 hi55_1 c141 ex158 tx158) (Nat.le_of_lt_succ hn55)) ⟨(v_intOf_112 σ k0 r1 x84 x111 y139 x158 hpre_0 hpre_1 hr1 c2 ex84 tx84 c85 ex111 tx111 c112 hi55_0 hi55_1 c141 ex158 tx158), (v_intOf_113 σ k0 r1 r82 x84 x111 y138 y139 y140 r148 x155 x156 x157 x158 hpre_0 hpre_1 hpre_2 hpre_3 hr1 c2 hr82y c83 ex84 tx84 c85 ex111 tx111 c112 hi55_0 hi55_1 hi55_2 hi55y c141 c145 hr148y c149 c154 ex155 ex156 ex157 ex158 tx158)⟩ hP hS (lv_sub hl [0, 1, 2, 4, 5, 6, 7] rfl)
          · have c154 : r148.toInt ≤ 57 := by have h := z_nlt c154; rw [show (57 : Int32).toInt = 57 from by decide +kernel] at h; exact h
            refine lv_iconst (v := 1) hx hb dX12_intOf_89 (by decide +kernel) ?_
            refine lv_goto (tgt := 94) hx hb dX12_intOf_90 (by decide) ?_
            refine lv_istore (lv' := [(4, .int 1), (7, .int r148), (6, .int y139), (5, .int y138), (3, .int 0), (2, .int r1), (0, .ref (ad 0)), (1, .int k0)]) hx hb dX12_intOf_94 hl (by decide) rfl (fun ls hl => ?_)
            refine lv_bipush (v := 10) hx hb dX12_intOf_96 (by decide +kernel) ?_
            refine lv_iload hx hb dX12_intOf_98 (lv_at hl 3 rfl) ?_
            refine lv_imul hx hb dX12_intOf_100 ?_
            refine lv_topi (fun x159 ex159 => ?_)
            refine lv_iload hx hb dX12_intOf_101 (lv_at hl 1 rfl) ?_
            refine lv_iadd hx hb dX12_intOf_103 ?_
            refine lv_topi (fun x160 ex160 => ?_)
            refine lv_bipush (v := 48) hx hb dX12_intOf_104 (by decide +kernel) ?_
            refine lv_isub hx hb dX12_intOf_106 ?_
            refine lv_topi (fun x161 ex161 => ?_)
            refine lv_istore (lv' := [(5, .int x161), (4, .int 1), (7, .int r148), (6, .int y139), (3, .int 0), (2, .int r1), (0, .ref (ad 0)), (1, .int k0)]) hx hb dX12_intOf_107 hl (by decide) rfl (fun ls hl => ?_)
            obtain ⟨x162, ex162⟩ : ∃ y : Int32, y = y139 + (1 : Int32) := ⟨_, rfl⟩
            have tx162 : x162.toInt = y139.toInt + 1 := (v_intOf_115 σ k0 r1 x84 x111 y139 x162 hpre_0 hpre_1 hr1 c2 ex84 tx84 c85 ex111 tx111 c112 hi55_0 hi55_1 c141 ex162)
            refine lv_iinc (v := x162) (lv' := [(6, .int x162), (5, .int x161), (4, .int 1), (7, .int r148), (3, .int 0), (2, .int r1), (0, .ref (ad 0)), (1, .int k0)]) hx hb dX12_intOf_109 hl (k := 3) rfl (by rw [ex162]; rfl) (by decide) rfl (fun ls hl => ?_)
            refine lv_goto (tgt := 55) hx hb dX12_intOf_112 (by decide) ?_
            exact ih55 x161 x162 (1 : Int32) _ _ _ (Nat.lt_of_lt_of_le (v_intOf_118 σ k0 r1 x84 x111 y139 x162 hpre_0 hpre_1 hr1 c2 ex84 tx84 c85 ex111 tx111 c112 hi55_0 hi55_1 c141 ex162 tx162) (Nat.le_of_lt_succ hn55)) ⟨(v_intOf_116 σ k0 r1 x84 x111 y139 x162 hpre_0 hpre_1 hr1 c2 ex84 tx84 c85 ex111 tx111 c112 hi55_0 hi55_1 c141 ex162 tx162), (v_intOf_117 σ k0 r1 r82 x84 x111 y138 y139 y140 r148 x159 x160 x161 x162 hpre_0 hpre_1 hpre_2 hpre_3 hr1 c2 hr82y c83 ex84 tx84 c85 ex111 tx111 c112 hi55_0 hi55_1 hi55_2 hi55y c141 c145 hr148y c149 c154 ex159 ex160 ex161 ex162 tx162)⟩ hP hS (lv_sub hl [0, 1, 2, 4, 5, 6, 7] rfl)
set_option maxHeartbeats 4000000 in
set_option maxRecDepth 100000 in
theorem L_intOf_55_7 {p : Program} {e : Env} {s : State} {m : MethodId} {below : List Frame} {meth : Method} {c : Code} (l : Launch) (D : va_G) (cy : Nat → ClassId) (sz0 : Nat) (sa : Nat → Nat) (ad : Nat → Nat) (sz : Nat) (σ : RS) (k0 : Int32) (r1 : Int32) (r82 : Int32) (x163 : Int32) (C : RC p s m #[.ref (ad 0), .int k0] meth c cX12_intOf 8 (some .int) D cy sz0 sa ad (AR cy ad sz)) (hpre_0 : 0 ≤ k0.toInt) (hpre_1 : k0.toInt < 980) (hpre_2 : 0 ≤ (σ.1 56).toInt) (hpre_3 : (σ.1 56).toInt ≤ 11) (hr1 : r1 = LENF ((σ.2.2.1 52) k0.toNatClampNeg)) (c2 : 0 < r1.toInt) (hr82y : ∀ s9 : List Int, QTT ((σ.2.2.1 52) k0.toNatClampNeg) ((σ.2.2.1 53) k0.toNatClampNeg) s9 → 0 ≤ (0 : Int32).toInt → (0 : Int32).toInt < 17 → r82.toInt = s9.getD (0 : Int32).toInt.toNat 0) (c83 : r82.toInt = 45) (ex163 : x163 = r1 - (1 : Int32)) (tx163 : x163.toInt = r1.toInt - 1) (c164 : x163.toInt < 1) : ∀ (n : Nat) (y165 : Int32) (y166 : Int32) (y167 : Int32) (H : Heap) (locs : List Loc) (ls : Array Slot), (130 - y166.toInt).toNat < n → ((0 ≤ y166.toInt ∧ y166.toInt ≤ 130 ∧ (y167.toInt = 0 ∨ y167.toInt = 1)) ∧ (∀ s9 : List Int, QTT ((σ.2.2.1 52) k0.toNatClampNeg) ((σ.2.2.1 53) k0.toNatClampNeg) s9 → INL s9 (1 : Int32).toInt y165.toInt y166.toInt y167.toInt)) → RP D cy ad σ H → va_S (AR cy ad sz) s.heap H locs → lv_has ls 8 [(6, .int y166), (5, .int y165), (4, .int y167), (3, .int 1), (2, .int r1), (0, .ref (ad 0)), (1, .int k0)] → W p l e (headSpec (Cond.code yX12_intOf cX12_intOf 8 (some .int) :: GWm) ({ frames := 1, cells := 0, slots := 0, locals := 22 })).room s m #[.ref (ad 0), .int k0] below meth c H locs 0 0 (MQ below (va_Qi (fun (r : Int32) (u : Int32) => (0 ≤ u.toInt ∧ u.toInt ≤ 11) ∧ (∀ s9 : List Int, QTT ((σ.2.2.1 52) k0.toNatClampNeg) ((σ.2.2.1 53) k0.toNatClampNeg) s9 → QI (qToI s9) r.toInt u.toInt (σ.1 56).toInt)) (fun (u : Int32) (t : State) => RP D cy ad (rS σ 56 u) t.heap) (AR cy ad sz)) #[.ref (ad 0), .int k0] s 0 0 (AR cy ad sz)) (F0 m 55 ls []) := by
  have hx := C.1
  have hb := C.2.1
  have hown := C.2.2.2.2.1
  have hw := C.2.2.2.2.2.1
  intro n
  induction n with
  | zero => intro y165 y166 y167 H locs ls hn; exact absurd hn (Nat.not_lt_zero _)
  | succ n ih55 =>
    intro y165 y166 y167 H locs ls hn55 hi55 hP hS hl
    obtain ⟨hi55, hi55y⟩ := hi55
    obtain ⟨hi55_0, hi55_1, hi55_2⟩ := hi55
    refine lv_iload hx hb dX12_intOf_55 (lv_at hl 0 rfl) ?_
    refine lv_iload_n hx hb dX12_intOf_57 rfl (lv_at hl 4 rfl) ?_
    refine lv_icmp_ge (tgt := 115) hx hb dX12_intOf_58 (by decide) (fun c168 => ?_) (fun c168 => ?_)
    · have c168 : r1.toInt ≤ y166.toInt := by have h := z_le c168; exact h
      refine lv_aload_n hx hb dX12_intOf_115 rfl (lv_at hl 5 rfl) ?_
      refine lv_iload hx hb dX12_intOf_116 (lv_at hl 2 rfl) ?_
      refine lv_if_eq (tgt := 128) hx hb dX12_intOf_118 (by decide) (fun c169 => ?_) (fun c169 => ?_)
      · have c169 : y167.toInt = 0 := by have h := z_eq c169; rw [show (0 : Int32).toInt = 0 from by decide +kernel] at h; exact h
        refine lv_bipush (v := 10) hx hb dX12_intOf_128 (by decide +kernel) ?_
        refine rp_56 C hP hS wm_242 dX12_intOf_130 (fun H locs hP hS => ?_)
        refine lv_iload_n hx hb dX12_intOf_133 rfl (lv_at hl 3 rfl) ?_
        refine lv_iconst (v := 1) hx hb dX12_intOf_134 (by decide +kernel) ?_
        refine lv_icmp_ne (tgt := 144) hx hb dX12_intOf_135 (by decide) (fun c170 => absurd (by decide +kernel) c170) (fun _ => ?_)
        refine lv_iload hx hb dX12_intOf_138 (lv_at hl 1 rfl) ?_
        refine lv_ineg hx hb dX12_intOf_140 ?_
        refine lv_topi (fun x171 ex171 => ?_)
        refine lv_goto (tgt := 146) hx hb dX12_intOf_141 (by decide) ?_
        exact r_reti C (10 : Int32) ⟨(v_intOf_5  ), (v_intOf_122 σ k0 r1 r82 x163 y165 y166 y167 x171 hpre_0 hpre_1 hpre_2 hpre_3 hr1 c2 hr82y c83 ex163 tx163 c164 hi55_0 hi55_1 hi55_2 hi55y c168 c169 ex171)⟩ hP hS dX12_intOf_146
      · have c169 : ¬ y167.toInt = 0 := by have h := z_ne c169; rw [show (0 : Int32).toInt = 0 from by decide +kernel] at h; exact h
        refine lv_aload_n hx hb dX12_intOf_121 rfl (lv_at hl 5 rfl) ?_
        refine rg_56 (v := (σ.1 56)) C hP rfl wm_242 dX12_intOf_122 ?_
        refine lv_goto (tgt := 130) hx hb dX12_intOf_125 (by decide) ?_
        refine rp_56 C hP hS wm_242 dX12_intOf_130 (fun H locs hP hS => ?_)
        refine lv_iload_n hx hb dX12_intOf_133 rfl (lv_at hl 3 rfl) ?_
        refine lv_iconst (v := 1) hx hb dX12_intOf_134 (by decide +kernel) ?_
        refine lv_icmp_ne (tgt := 144) hx hb dX12_intOf_135 (by decide) (fun c172 => absurd (by decide +kernel) c172) (fun _ => ?_)
        refine lv_iload hx hb dX12_intOf_138 (lv_at hl 1 rfl) ?_
        refine lv_ineg hx hb dX12_intOf_140 ?_
        refine lv_topi (fun x173 ex173 => ?_)
        refine lv_goto (tgt := 146) hx hb dX12_intOf_141 (by decide) ?_
        exact r_reti C (σ.1 56) ⟨(v_intOf_7 σ hpre_2 hpre_3), (v_intOf_123 σ k0 r1 r82 x163 y165 y166 y167 x173 hpre_0 hpre_1 hpre_2 hpre_3 hr1 c2 hr82y c83 ex163 tx163 c164 hi55_0 hi55_1 hi55_2 hi55y c168 c169 ex173)⟩ hP hS dX12_intOf_146
    · have c168 : y166.toInt < r1.toInt := by have h := z_nle c168; exact h
      refine lv_iload hx hb dX12_intOf_61 (lv_at hl 2 rfl) ?_
      refine lv_if_eq (tgt := 115) hx hb dX12_intOf_63 (by decide) (fun c174 => ?_) (fun c174 => ?_)
      · have c174 : y167.toInt = 0 := by have h := z_eq c174; rw [show (0 : Int32).toInt = 0 from by decide +kernel] at h; exact h
        refine lv_aload_n hx hb dX12_intOf_115 rfl (lv_at hl 5 rfl) ?_
        refine lv_iload hx hb dX12_intOf_116 (lv_at hl 2 rfl) ?_
        refine lv_if_eq (tgt := 128) hx hb dX12_intOf_118 (by decide) (fun c175 => ?_) (fun c175 => ?_)
        · have c175 : y167.toInt = 0 := by have h := z_eq c175; rw [show (0 : Int32).toInt = 0 from by decide +kernel] at h; exact h
          refine lv_bipush (v := 10) hx hb dX12_intOf_128 (by decide +kernel) ?_
          refine rp_56 C hP hS wm_242 dX12_intOf_130 (fun H locs hP hS => ?_)
          refine lv_iload_n hx hb dX12_intOf_133 rfl (lv_at hl 3 rfl) ?_
          refine lv_iconst (v := 1) hx hb dX12_intOf_134 (by decide +kernel) ?_
          refine lv_icmp_ne (tgt := 144) hx hb dX12_intOf_135 (by decide) (fun c176 => absurd (by decide +kernel) c176) (fun _ => ?_)
          refine lv_iload hx hb dX12_intOf_138 (lv_at hl 1 rfl) ?_
          refine lv_ineg hx hb dX12_intOf_140 ?_
          refine lv_topi (fun x177 ex177 => ?_)
          refine lv_goto (tgt := 146) hx hb dX12_intOf_141 (by decide) ?_
          exact r_reti C (10 : Int32) ⟨(v_intOf_5  ), (v_intOf_124 σ k0 r1 r82 x163 y165 y166 y167 x177 hpre_0 hpre_1 hpre_2 hpre_3 hr1 c2 hr82y c83 ex163 tx163 c164 hi55_0 hi55_1 hi55_2 hi55y c168 c174 c175 ex177)⟩ hP hS dX12_intOf_146
        · have c175 : ¬ y167.toInt = 0 := by have h := z_ne c175; rw [show (0 : Int32).toInt = 0 from by decide +kernel] at h; exact h
          exact absurd (v_intOf_125 y167 hi55_2 c174 c175) id
      · have c174 : ¬ y167.toInt = 0 := by have h := z_ne c174; rw [show (0 : Int32).toInt = 0 from by decide +kernel] at h; exact h
        refine lv_aload_n hx hb dX12_intOf_66 rfl (lv_at hl 5 rfl) ?_
        refine lv_iload_n hx hb dX12_intOf_67 rfl (lv_at hl 6 rfl) ?_
        refine lv_iload hx hb dX12_intOf_68 (lv_at hl 0 rfl) ?_
        refine r_callVi (As := [.int k0, .int y166]) (rest := []) C hP hS hl.1 ⟨Nat.zero_le _, Nat.zero_le _⟩ (M_sign8 l D cy sz0 sa ad σ H.size k0 y166 (v_intOf_126 σ k0 r1 x163 y166 hpre_0 hpre_1 hr1 c2 ex163 tx163 c164 hi55_0 hi55_1 c168)) (n := 2) ⟨wm_231, wm_217, by decide +kernel⟩ ⟨wm_232, wm_233, wm_10⟩ rfl rfl (lv_room (Nat.le_of_ble_eq_true rfl)) ⟨Nat.le_of_ble_eq_true rfl, Nat.le_of_ble_eq_true rfl⟩ dX12_intOf_70 (fun r178 u H locs hr178 hP hS => ?_)
        obtain ⟨hr178, hr178y⟩ := hr178
        have hr178y : ∀ s9 : List Int, QTT ((σ.2.2.1 52) k0.toNatClampNeg) ((σ.2.2.1 53) k0.toNatClampNeg) s9 → 0 ≤ y166.toInt → y166.toInt < 17 → r178.toInt = s9.getD y166.toInt.toNat 0 := hr178y
        have hr178 : True := hr178
        refine lv_istore (lv' := [(7, .int r178), (6, .int y166), (5, .int y165), (4, .int y167), (3, .int 1), (2, .int r1), (0, .ref (ad 0)), (1, .int k0)]) hx hb dX12_intOf_73 hl (by decide) rfl (fun ls hl => ?_)
        refine lv_iload hx hb dX12_intOf_75 (lv_at hl 0 rfl) ?_
        refine lv_bipush (v := 48) hx hb dX12_intOf_77 (by decide +kernel) ?_
        refine lv_icmp_lt (tgt := 93) hx hb dX12_intOf_79 (by decide) (fun c179 => ?_) (fun c179 => ?_)
        · have c179 : r178.toInt < 48 := by have h := z_lt c179; rw [show (48 : Int32).toInt = 48 from by decide +kernel] at h; exact h
          refine lv_iconst (v := 0) hx hb dX12_intOf_93 (by decide +kernel) ?_
          refine lv_istore (lv' := [(4, .int 0), (7, .int r178), (6, .int y166), (5, .int y165), (3, .int 1), (2, .int r1), (0, .ref (ad 0)), (1, .int k0)]) hx hb dX12_intOf_94 hl (by decide) rfl (fun ls hl => ?_)
          refine lv_bipush (v := 10) hx hb dX12_intOf_96 (by decide +kernel) ?_
          refine lv_iload hx hb dX12_intOf_98 (lv_at hl 3 rfl) ?_
          refine lv_imul hx hb dX12_intOf_100 ?_
          refine lv_topi (fun x180 ex180 => ?_)
          refine lv_iload hx hb dX12_intOf_101 (lv_at hl 1 rfl) ?_
          refine lv_iadd hx hb dX12_intOf_103 ?_
          refine lv_topi (fun x181 ex181 => ?_)
          refine lv_bipush (v := 48) hx hb dX12_intOf_104 (by decide +kernel) ?_
          refine lv_isub hx hb dX12_intOf_106 ?_
          refine lv_topi (fun x182 ex182 => ?_)
          refine lv_istore (lv' := [(5, .int x182), (4, .int 0), (7, .int r178), (6, .int y166), (3, .int 1), (2, .int r1), (0, .ref (ad 0)), (1, .int k0)]) hx hb dX12_intOf_107 hl (by decide) rfl (fun ls hl => ?_)
          obtain ⟨x183, ex183⟩ : ∃ y : Int32, y = y166 + (1 : Int32) := ⟨_, rfl⟩
          have tx183 : x183.toInt = y166.toInt + 1 := (v_intOf_127 σ k0 r1 x163 y166 x183 hpre_0 hpre_1 hr1 c2 ex163 tx163 c164 hi55_0 hi55_1 c168 ex183)
          refine lv_iinc (v := x183) (lv' := [(6, .int x183), (5, .int x182), (4, .int 0), (7, .int r178), (3, .int 1), (2, .int r1), (0, .ref (ad 0)), (1, .int k0)]) hx hb dX12_intOf_109 hl (k := 3) rfl (by rw [ex183]; rfl) (by decide) rfl (fun ls hl => ?_)
          refine lv_goto (tgt := 55) hx hb dX12_intOf_112 (by decide) ?_
          exact ih55 x182 x183 (0 : Int32) _ _ _ (Nat.lt_of_lt_of_le (v_intOf_130 σ k0 r1 x163 y166 x183 hpre_0 hpre_1 hr1 c2 ex163 tx163 c164 hi55_0 hi55_1 c168 ex183 tx183) (Nat.le_of_lt_succ hn55)) ⟨(v_intOf_128 σ k0 r1 x163 y166 x183 hpre_0 hpre_1 hr1 c2 ex163 tx163 c164 hi55_0 hi55_1 c168 ex183 tx183), (v_intOf_129 σ k0 r1 r82 x163 y165 y166 y167 r178 x180 x181 x182 x183 hpre_0 hpre_1 hpre_2 hpre_3 hr1 c2 hr82y c83 ex163 tx163 c164 hi55_0 hi55_1 hi55_2 hi55y c168 c174 hr178y c179 ex180 ex181 ex182 ex183 tx183)⟩ hP hS (lv_sub hl [0, 1, 2, 4, 5, 6, 7] rfl)
        · have c179 : 48 ≤ r178.toInt := by have h := z_nlt c179; rw [show (48 : Int32).toInt = 48 from by decide +kernel] at h; exact h
          refine lv_iload hx hb dX12_intOf_82 (lv_at hl 0 rfl) ?_
          refine lv_bipush (v := 57) hx hb dX12_intOf_84 (by decide +kernel) ?_
          refine lv_icmp_gt (tgt := 93) hx hb dX12_intOf_86 (by decide) (fun c184 => ?_) (fun c184 => ?_)
          · have c184 : 57 < r178.toInt := by have h := z_lt c184; rw [show (57 : Int32).toInt = 57 from by decide +kernel] at h; exact h
            refine lv_iconst (v := 0) hx hb dX12_intOf_93 (by decide +kernel) ?_
            refine lv_istore (lv' := [(4, .int 0), (7, .int r178), (6, .int y166), (5, .int y165), (3, .int 1), (2, .int r1), (0, .ref (ad 0)), (1, .int k0)]) hx hb dX12_intOf_94 hl (by decide) rfl (fun ls hl => ?_)
            refine lv_bipush (v := 10) hx hb dX12_intOf_96 (by decide +kernel) ?_
            refine lv_iload hx hb dX12_intOf_98 (lv_at hl 3 rfl) ?_
            refine lv_imul hx hb dX12_intOf_100 ?_
            refine lv_topi (fun x185 ex185 => ?_)
            refine lv_iload hx hb dX12_intOf_101 (lv_at hl 1 rfl) ?_
            refine lv_iadd hx hb dX12_intOf_103 ?_
            refine lv_topi (fun x186 ex186 => ?_)
            refine lv_bipush (v := 48) hx hb dX12_intOf_104 (by decide +kernel) ?_
            refine lv_isub hx hb dX12_intOf_106 ?_
            refine lv_topi (fun x187 ex187 => ?_)
            refine lv_istore (lv' := [(5, .int x187), (4, .int 0), (7, .int r178), (6, .int y166), (3, .int 1), (2, .int r1), (0, .ref (ad 0)), (1, .int k0)]) hx hb dX12_intOf_107 hl (by decide) rfl (fun ls hl => ?_)
            obtain ⟨x188, ex188⟩ : ∃ y : Int32, y = y166 + (1 : Int32) := ⟨_, rfl⟩
            have tx188 : x188.toInt = y166.toInt + 1 := (v_intOf_131 σ k0 r1 x163 y166 x188 hpre_0 hpre_1 hr1 c2 ex163 tx163 c164 hi55_0 hi55_1 c168 ex188)
            refine lv_iinc (v := x188) (lv' := [(6, .int x188), (5, .int x187), (4, .int 0), (7, .int r178), (3, .int 1), (2, .int r1), (0, .ref (ad 0)), (1, .int k0)]) hx hb dX12_intOf_109 hl (k := 3) rfl (by rw [ex188]; rfl) (by decide) rfl (fun ls hl => ?_)
            refine lv_goto (tgt := 55) hx hb dX12_intOf_112 (by decide) ?_
            exact ih55 x187 x188 (0 : Int32) _ _ _ (Nat.lt_of_lt_of_le (v_intOf_134 σ k0 r1 x163 y166 x188 hpre_0 hpre_1 hr1 c2 ex163 tx163 c164 hi55_0 hi55_1 c168 ex188 tx188) (Nat.le_of_lt_succ hn55)) ⟨(v_intOf_132 σ k0 r1 x163 y166 x188 hpre_0 hpre_1 hr1 c2 ex163 tx163 c164 hi55_0 hi55_1 c168 ex188 tx188), (v_intOf_133 σ k0 r1 r82 x163 y165 y166 y167 r178 x185 x186 x187 x188 hpre_0 hpre_1 hpre_2 hpre_3 hr1 c2 hr82y c83 ex163 tx163 c164 hi55_0 hi55_1 hi55_2 hi55y c168 c174 hr178y c179 c184 ex185 ex186 ex187 ex188 tx188)⟩ hP hS (lv_sub hl [0, 1, 2, 4, 5, 6, 7] rfl)
          · have c184 : r178.toInt ≤ 57 := by have h := z_nlt c184; rw [show (57 : Int32).toInt = 57 from by decide +kernel] at h; exact h
            refine lv_iconst (v := 1) hx hb dX12_intOf_89 (by decide +kernel) ?_
            refine lv_goto (tgt := 94) hx hb dX12_intOf_90 (by decide) ?_
            refine lv_istore (lv' := [(4, .int 1), (7, .int r178), (6, .int y166), (5, .int y165), (3, .int 1), (2, .int r1), (0, .ref (ad 0)), (1, .int k0)]) hx hb dX12_intOf_94 hl (by decide) rfl (fun ls hl => ?_)
            refine lv_bipush (v := 10) hx hb dX12_intOf_96 (by decide +kernel) ?_
            refine lv_iload hx hb dX12_intOf_98 (lv_at hl 3 rfl) ?_
            refine lv_imul hx hb dX12_intOf_100 ?_
            refine lv_topi (fun x189 ex189 => ?_)
            refine lv_iload hx hb dX12_intOf_101 (lv_at hl 1 rfl) ?_
            refine lv_iadd hx hb dX12_intOf_103 ?_
            refine lv_topi (fun x190 ex190 => ?_)
            refine lv_bipush (v := 48) hx hb dX12_intOf_104 (by decide +kernel) ?_
            refine lv_isub hx hb dX12_intOf_106 ?_
            refine lv_topi (fun x191 ex191 => ?_)
            refine lv_istore (lv' := [(5, .int x191), (4, .int 1), (7, .int r178), (6, .int y166), (3, .int 1), (2, .int r1), (0, .ref (ad 0)), (1, .int k0)]) hx hb dX12_intOf_107 hl (by decide) rfl (fun ls hl => ?_)
            obtain ⟨x192, ex192⟩ : ∃ y : Int32, y = y166 + (1 : Int32) := ⟨_, rfl⟩
            have tx192 : x192.toInt = y166.toInt + 1 := (v_intOf_135 σ k0 r1 x163 y166 x192 hpre_0 hpre_1 hr1 c2 ex163 tx163 c164 hi55_0 hi55_1 c168 ex192)
            refine lv_iinc (v := x192) (lv' := [(6, .int x192), (5, .int x191), (4, .int 1), (7, .int r178), (3, .int 1), (2, .int r1), (0, .ref (ad 0)), (1, .int k0)]) hx hb dX12_intOf_109 hl (k := 3) rfl (by rw [ex192]; rfl) (by decide) rfl (fun ls hl => ?_)
            refine lv_goto (tgt := 55) hx hb dX12_intOf_112 (by decide) ?_
            exact ih55 x191 x192 (1 : Int32) _ _ _ (Nat.lt_of_lt_of_le (v_intOf_138 σ k0 r1 x163 y166 x192 hpre_0 hpre_1 hr1 c2 ex163 tx163 c164 hi55_0 hi55_1 c168 ex192 tx192) (Nat.le_of_lt_succ hn55)) ⟨(v_intOf_136 σ k0 r1 x163 y166 x192 hpre_0 hpre_1 hr1 c2 ex163 tx163 c164 hi55_0 hi55_1 c168 ex192 tx192), (v_intOf_137 σ k0 r1 r82 x163 y165 y166 y167 r178 x189 x190 x191 x192 hpre_0 hpre_1 hpre_2 hpre_3 hr1 c2 hr82y c83 ex163 tx163 c164 hi55_0 hi55_1 hi55_2 hi55y c168 c174 hr178y c179 c184 ex189 ex190 ex191 ex192 tx192)⟩ hP hS (lv_sub hl [0, 1, 2, 4, 5, 6, 7] rfl)
set_option maxHeartbeats 4000000 in
set_option maxRecDepth 100000 in
theorem L_intOf_55_8 {p : Program} {e : Env} {s : State} {m : MethodId} {below : List Frame} {meth : Method} {c : Code} (l : Launch) (D : va_G) (cy : Nat → ClassId) (sz0 : Nat) (sa : Nat → Nat) (ad : Nat → Nat) (sz : Nat) (σ : RS) (k0 : Int32) (r1 : Int32) (r82 : Int32) (x163 : Int32) (x193 : Int32) (C : RC p s m #[.ref (ad 0), .int k0] meth c cX12_intOf 8 (some .int) D cy sz0 sa ad (AR cy ad sz)) (hpre_0 : 0 ≤ k0.toInt) (hpre_1 : k0.toInt < 980) (hpre_2 : 0 ≤ (σ.1 56).toInt) (hpre_3 : (σ.1 56).toInt ≤ 11) (hr1 : r1 = LENF ((σ.2.2.1 52) k0.toNatClampNeg)) (c2 : 0 < r1.toInt) (hr82y : ∀ s9 : List Int, QTT ((σ.2.2.1 52) k0.toNatClampNeg) ((σ.2.2.1 53) k0.toNatClampNeg) s9 → 0 ≤ (0 : Int32).toInt → (0 : Int32).toInt < 17 → r82.toInt = s9.getD (0 : Int32).toInt.toNat 0) (c83 : r82.toInt = 45) (ex163 : x163 = r1 - (1 : Int32)) (tx163 : x163.toInt = r1.toInt - 1) (c164 : 1 ≤ x163.toInt) (ex193 : x193 = r1 - (1 : Int32)) (tx193 : x193.toInt = r1.toInt - 1) (c194 : 9 < x193.toInt) : ∀ (n : Nat) (y195 : Int32) (y196 : Int32) (y197 : Int32) (H : Heap) (locs : List Loc) (ls : Array Slot), (130 - y196.toInt).toNat < n → ((0 ≤ y196.toInt ∧ y196.toInt ≤ 130 ∧ (y197.toInt = 0 ∨ y197.toInt = 1)) ∧ (∀ s9 : List Int, QTT ((σ.2.2.1 52) k0.toNatClampNeg) ((σ.2.2.1 53) k0.toNatClampNeg) s9 → INL s9 (1 : Int32).toInt y195.toInt y196.toInt y197.toInt)) → RP D cy ad σ H → va_S (AR cy ad sz) s.heap H locs → lv_has ls 8 [(6, .int y196), (5, .int y195), (4, .int y197), (3, .int 1), (2, .int r1), (0, .ref (ad 0)), (1, .int k0)] → W p l e (headSpec (Cond.code yX12_intOf cX12_intOf 8 (some .int) :: GWm) ({ frames := 1, cells := 0, slots := 0, locals := 22 })).room s m #[.ref (ad 0), .int k0] below meth c H locs 0 0 (MQ below (va_Qi (fun (r : Int32) (u : Int32) => (0 ≤ u.toInt ∧ u.toInt ≤ 11) ∧ (∀ s9 : List Int, QTT ((σ.2.2.1 52) k0.toNatClampNeg) ((σ.2.2.1 53) k0.toNatClampNeg) s9 → QI (qToI s9) r.toInt u.toInt (σ.1 56).toInt)) (fun (u : Int32) (t : State) => RP D cy ad (rS σ 56 u) t.heap) (AR cy ad sz)) #[.ref (ad 0), .int k0] s 0 0 (AR cy ad sz)) (F0 m 55 ls []) := by
  have hx := C.1
  have hb := C.2.1
  have hown := C.2.2.2.2.1
  have hw := C.2.2.2.2.2.1
  intro n
  induction n with
  | zero => intro y195 y196 y197 H locs ls hn; exact absurd hn (Nat.not_lt_zero _)
  | succ n ih55 =>
    intro y195 y196 y197 H locs ls hn55 hi55 hP hS hl
    obtain ⟨hi55, hi55y⟩ := hi55
    obtain ⟨hi55_0, hi55_1, hi55_2⟩ := hi55
    refine lv_iload hx hb dX12_intOf_55 (lv_at hl 0 rfl) ?_
    refine lv_iload_n hx hb dX12_intOf_57 rfl (lv_at hl 4 rfl) ?_
    refine lv_icmp_ge (tgt := 115) hx hb dX12_intOf_58 (by decide) (fun c198 => ?_) (fun c198 => ?_)
    · have c198 : r1.toInt ≤ y196.toInt := by have h := z_le c198; exact h
      refine lv_aload_n hx hb dX12_intOf_115 rfl (lv_at hl 5 rfl) ?_
      refine lv_iload hx hb dX12_intOf_116 (lv_at hl 2 rfl) ?_
      refine lv_if_eq (tgt := 128) hx hb dX12_intOf_118 (by decide) (fun c199 => ?_) (fun c199 => ?_)
      · have c199 : y197.toInt = 0 := by have h := z_eq c199; rw [show (0 : Int32).toInt = 0 from by decide +kernel] at h; exact h
        refine lv_bipush (v := 10) hx hb dX12_intOf_128 (by decide +kernel) ?_
        refine rp_56 C hP hS wm_242 dX12_intOf_130 (fun H locs hP hS => ?_)
        refine lv_iload_n hx hb dX12_intOf_133 rfl (lv_at hl 3 rfl) ?_
        refine lv_iconst (v := 1) hx hb dX12_intOf_134 (by decide +kernel) ?_
        refine lv_icmp_ne (tgt := 144) hx hb dX12_intOf_135 (by decide) (fun c200 => absurd (by decide +kernel) c200) (fun _ => ?_)
        refine lv_iload hx hb dX12_intOf_138 (lv_at hl 1 rfl) ?_
        refine lv_ineg hx hb dX12_intOf_140 ?_
        refine lv_topi (fun x201 ex201 => ?_)
        refine lv_goto (tgt := 146) hx hb dX12_intOf_141 (by decide) ?_
        exact r_reti C (10 : Int32) ⟨(v_intOf_5  ), (v_intOf_141 σ k0 r1 r82 x163 x193 y195 y196 y197 x201 hpre_0 hpre_1 hpre_2 hpre_3 hr1 c2 hr82y c83 ex163 tx163 c164 ex193 tx193 c194 hi55_0 hi55_1 hi55_2 hi55y c198 c199 ex201)⟩ hP hS dX12_intOf_146
      · have c199 : ¬ y197.toInt = 0 := by have h := z_ne c199; rw [show (0 : Int32).toInt = 0 from by decide +kernel] at h; exact h
        refine lv_aload_n hx hb dX12_intOf_121 rfl (lv_at hl 5 rfl) ?_
        refine rg_56 (v := (σ.1 56)) C hP rfl wm_242 dX12_intOf_122 ?_
        refine lv_goto (tgt := 130) hx hb dX12_intOf_125 (by decide) ?_
        refine rp_56 C hP hS wm_242 dX12_intOf_130 (fun H locs hP hS => ?_)
        refine lv_iload_n hx hb dX12_intOf_133 rfl (lv_at hl 3 rfl) ?_
        refine lv_iconst (v := 1) hx hb dX12_intOf_134 (by decide +kernel) ?_
        refine lv_icmp_ne (tgt := 144) hx hb dX12_intOf_135 (by decide) (fun c202 => absurd (by decide +kernel) c202) (fun _ => ?_)
        refine lv_iload hx hb dX12_intOf_138 (lv_at hl 1 rfl) ?_
        refine lv_ineg hx hb dX12_intOf_140 ?_
        refine lv_topi (fun x203 ex203 => ?_)
        refine lv_goto (tgt := 146) hx hb dX12_intOf_141 (by decide) ?_
        exact r_reti C (σ.1 56) ⟨(v_intOf_7 σ hpre_2 hpre_3), (v_intOf_142 σ k0 r1 r82 x163 x193 y195 y196 y197 x203 hpre_0 hpre_1 hpre_2 hpre_3 hr1 c2 hr82y c83 ex163 tx163 c164 ex193 tx193 c194 hi55_0 hi55_1 hi55_2 hi55y c198 c199 ex203)⟩ hP hS dX12_intOf_146
    · have c198 : y196.toInt < r1.toInt := by have h := z_nle c198; exact h
      refine lv_iload hx hb dX12_intOf_61 (lv_at hl 2 rfl) ?_
      refine lv_if_eq (tgt := 115) hx hb dX12_intOf_63 (by decide) (fun c204 => ?_) (fun c204 => ?_)
      · have c204 : y197.toInt = 0 := by have h := z_eq c204; rw [show (0 : Int32).toInt = 0 from by decide +kernel] at h; exact h
        refine lv_aload_n hx hb dX12_intOf_115 rfl (lv_at hl 5 rfl) ?_
        refine lv_iload hx hb dX12_intOf_116 (lv_at hl 2 rfl) ?_
        refine lv_if_eq (tgt := 128) hx hb dX12_intOf_118 (by decide) (fun c205 => ?_) (fun c205 => ?_)
        · have c205 : y197.toInt = 0 := by have h := z_eq c205; rw [show (0 : Int32).toInt = 0 from by decide +kernel] at h; exact h
          refine lv_bipush (v := 10) hx hb dX12_intOf_128 (by decide +kernel) ?_
          refine rp_56 C hP hS wm_242 dX12_intOf_130 (fun H locs hP hS => ?_)
          refine lv_iload_n hx hb dX12_intOf_133 rfl (lv_at hl 3 rfl) ?_
          refine lv_iconst (v := 1) hx hb dX12_intOf_134 (by decide +kernel) ?_
          refine lv_icmp_ne (tgt := 144) hx hb dX12_intOf_135 (by decide) (fun c206 => absurd (by decide +kernel) c206) (fun _ => ?_)
          refine lv_iload hx hb dX12_intOf_138 (lv_at hl 1 rfl) ?_
          refine lv_ineg hx hb dX12_intOf_140 ?_
          refine lv_topi (fun x207 ex207 => ?_)
          refine lv_goto (tgt := 146) hx hb dX12_intOf_141 (by decide) ?_
          exact r_reti C (10 : Int32) ⟨(v_intOf_5  ), (v_intOf_143 σ k0 r1 r82 x163 x193 y195 y196 y197 x207 hpre_0 hpre_1 hpre_2 hpre_3 hr1 c2 hr82y c83 ex163 tx163 c164 ex193 tx193 c194 hi55_0 hi55_1 hi55_2 hi55y c198 c204 c205 ex207)⟩ hP hS dX12_intOf_146
        · have c205 : ¬ y197.toInt = 0 := by have h := z_ne c205; rw [show (0 : Int32).toInt = 0 from by decide +kernel] at h; exact h
          exact absurd (v_intOf_144 y197 hi55_2 c204 c205) id
      · have c204 : ¬ y197.toInt = 0 := by have h := z_ne c204; rw [show (0 : Int32).toInt = 0 from by decide +kernel] at h; exact h
        refine lv_aload_n hx hb dX12_intOf_66 rfl (lv_at hl 5 rfl) ?_
        refine lv_iload_n hx hb dX12_intOf_67 rfl (lv_at hl 6 rfl) ?_
        refine lv_iload hx hb dX12_intOf_68 (lv_at hl 0 rfl) ?_
        refine r_callVi (As := [.int k0, .int y196]) (rest := []) C hP hS hl.1 ⟨Nat.zero_le _, Nat.zero_le _⟩ (M_sign8 l D cy sz0 sa ad σ H.size k0 y196 (v_intOf_145 σ k0 r1 x163 x193 y196 hpre_0 hpre_1 hr1 c2 ex163 tx163 c164 ex193 tx193 c194 hi55_0 hi55_1 c198)) (n := 2) ⟨wm_231, wm_217, by decide +kernel⟩ ⟨wm_232, wm_233, wm_10⟩ rfl rfl (lv_room (Nat.le_of_ble_eq_true rfl)) ⟨Nat.le_of_ble_eq_true rfl, Nat.le_of_ble_eq_true rfl⟩ dX12_intOf_70 (fun r208 u H locs hr208 hP hS => ?_)
        obtain ⟨hr208, hr208y⟩ := hr208
        have hr208y : ∀ s9 : List Int, QTT ((σ.2.2.1 52) k0.toNatClampNeg) ((σ.2.2.1 53) k0.toNatClampNeg) s9 → 0 ≤ y196.toInt → y196.toInt < 17 → r208.toInt = s9.getD y196.toInt.toNat 0 := hr208y
        have hr208 : True := hr208
        refine lv_istore (lv' := [(7, .int r208), (6, .int y196), (5, .int y195), (4, .int y197), (3, .int 1), (2, .int r1), (0, .ref (ad 0)), (1, .int k0)]) hx hb dX12_intOf_73 hl (by decide) rfl (fun ls hl => ?_)
        refine lv_iload hx hb dX12_intOf_75 (lv_at hl 0 rfl) ?_
        refine lv_bipush (v := 48) hx hb dX12_intOf_77 (by decide +kernel) ?_
        refine lv_icmp_lt (tgt := 93) hx hb dX12_intOf_79 (by decide) (fun c209 => ?_) (fun c209 => ?_)
        · have c209 : r208.toInt < 48 := by have h := z_lt c209; rw [show (48 : Int32).toInt = 48 from by decide +kernel] at h; exact h
          refine lv_iconst (v := 0) hx hb dX12_intOf_93 (by decide +kernel) ?_
          refine lv_istore (lv' := [(4, .int 0), (7, .int r208), (6, .int y196), (5, .int y195), (3, .int 1), (2, .int r1), (0, .ref (ad 0)), (1, .int k0)]) hx hb dX12_intOf_94 hl (by decide) rfl (fun ls hl => ?_)
          refine lv_bipush (v := 10) hx hb dX12_intOf_96 (by decide +kernel) ?_
          refine lv_iload hx hb dX12_intOf_98 (lv_at hl 3 rfl) ?_
          refine lv_imul hx hb dX12_intOf_100 ?_
          refine lv_topi (fun x210 ex210 => ?_)
          refine lv_iload hx hb dX12_intOf_101 (lv_at hl 1 rfl) ?_
          refine lv_iadd hx hb dX12_intOf_103 ?_
          refine lv_topi (fun x211 ex211 => ?_)
          refine lv_bipush (v := 48) hx hb dX12_intOf_104 (by decide +kernel) ?_
          refine lv_isub hx hb dX12_intOf_106 ?_
          refine lv_topi (fun x212 ex212 => ?_)
          refine lv_istore (lv' := [(5, .int x212), (4, .int 0), (7, .int r208), (6, .int y196), (3, .int 1), (2, .int r1), (0, .ref (ad 0)), (1, .int k0)]) hx hb dX12_intOf_107 hl (by decide) rfl (fun ls hl => ?_)
          obtain ⟨x213, ex213⟩ : ∃ y : Int32, y = y196 + (1 : Int32) := ⟨_, rfl⟩
          have tx213 : x213.toInt = y196.toInt + 1 := (v_intOf_146 σ k0 r1 x163 x193 y196 x213 hpre_0 hpre_1 hr1 c2 ex163 tx163 c164 ex193 tx193 c194 hi55_0 hi55_1 c198 ex213)
          refine lv_iinc (v := x213) (lv' := [(6, .int x213), (5, .int x212), (4, .int 0), (7, .int r208), (3, .int 1), (2, .int r1), (0, .ref (ad 0)), (1, .int k0)]) hx hb dX12_intOf_109 hl (k := 3) rfl (by rw [ex213]; rfl) (by decide) rfl (fun ls hl => ?_)
          refine lv_goto (tgt := 55) hx hb dX12_intOf_112 (by decide) ?_
          exact ih55 x212 x213 (0 : Int32) _ _ _ (Nat.lt_of_lt_of_le (v_intOf_149 σ k0 r1 x163 x193 y196 x213 hpre_0 hpre_1 hr1 c2 ex163 tx163 c164 ex193 tx193 c194 hi55_0 hi55_1 c198 ex213 tx213) (Nat.le_of_lt_succ hn55)) ⟨(v_intOf_147 σ k0 r1 x163 x193 y196 x213 hpre_0 hpre_1 hr1 c2 ex163 tx163 c164 ex193 tx193 c194 hi55_0 hi55_1 c198 ex213 tx213), (v_intOf_148 σ k0 r1 r82 x163 x193 y195 y196 y197 r208 x210 x211 x212 x213 hpre_0 hpre_1 hpre_2 hpre_3 hr1 c2 hr82y c83 ex163 tx163 c164 ex193 tx193 c194 hi55_0 hi55_1 hi55_2 hi55y c198 c204 hr208y c209 ex210 ex211 ex212 ex213 tx213)⟩ hP hS (lv_sub hl [0, 1, 2, 4, 5, 6, 7] rfl)
        · have c209 : 48 ≤ r208.toInt := by have h := z_nlt c209; rw [show (48 : Int32).toInt = 48 from by decide +kernel] at h; exact h
          refine lv_iload hx hb dX12_intOf_82 (lv_at hl 0 rfl) ?_
          refine lv_bipush (v := 57) hx hb dX12_intOf_84 (by decide +kernel) ?_
          refine lv_icmp_gt (tgt := 93) hx hb dX12_intOf_86 (by decide) (fun c214 => ?_) (fun c214 => ?_)
          · have c214 : 57 < r208.toInt := by have h := z_lt c214; rw [show (57 : Int32).toInt = 57 from by decide +kernel] at h; exact h
            refine lv_iconst (v := 0) hx hb dX12_intOf_93 (by decide +kernel) ?_
            refine lv_istore (lv' := [(4, .int 0), (7, .int r208), (6, .int y196), (5, .int y195), (3, .int 1), (2, .int r1), (0, .ref (ad 0)), (1, .int k0)]) hx hb dX12_intOf_94 hl (by decide) rfl (fun ls hl => ?_)
            refine lv_bipush (v := 10) hx hb dX12_intOf_96 (by decide +kernel) ?_
            refine lv_iload hx hb dX12_intOf_98 (lv_at hl 3 rfl) ?_
            refine lv_imul hx hb dX12_intOf_100 ?_
            refine lv_topi (fun x215 ex215 => ?_)
            refine lv_iload hx hb dX12_intOf_101 (lv_at hl 1 rfl) ?_
            refine lv_iadd hx hb dX12_intOf_103 ?_
            refine lv_topi (fun x216 ex216 => ?_)
            refine lv_bipush (v := 48) hx hb dX12_intOf_104 (by decide +kernel) ?_
            refine lv_isub hx hb dX12_intOf_106 ?_
            refine lv_topi (fun x217 ex217 => ?_)
            refine lv_istore (lv' := [(5, .int x217), (4, .int 0), (7, .int r208), (6, .int y196), (3, .int 1), (2, .int r1), (0, .ref (ad 0)), (1, .int k0)]) hx hb dX12_intOf_107 hl (by decide) rfl (fun ls hl => ?_)
            obtain ⟨x218, ex218⟩ : ∃ y : Int32, y = y196 + (1 : Int32) := ⟨_, rfl⟩
            have tx218 : x218.toInt = y196.toInt + 1 := (v_intOf_150 σ k0 r1 x163 x193 y196 x218 hpre_0 hpre_1 hr1 c2 ex163 tx163 c164 ex193 tx193 c194 hi55_0 hi55_1 c198 ex218)
            refine lv_iinc (v := x218) (lv' := [(6, .int x218), (5, .int x217), (4, .int 0), (7, .int r208), (3, .int 1), (2, .int r1), (0, .ref (ad 0)), (1, .int k0)]) hx hb dX12_intOf_109 hl (k := 3) rfl (by rw [ex218]; rfl) (by decide) rfl (fun ls hl => ?_)
            refine lv_goto (tgt := 55) hx hb dX12_intOf_112 (by decide) ?_
            exact ih55 x217 x218 (0 : Int32) _ _ _ (Nat.lt_of_lt_of_le (v_intOf_153 σ k0 r1 x163 x193 y196 x218 hpre_0 hpre_1 hr1 c2 ex163 tx163 c164 ex193 tx193 c194 hi55_0 hi55_1 c198 ex218 tx218) (Nat.le_of_lt_succ hn55)) ⟨(v_intOf_151 σ k0 r1 x163 x193 y196 x218 hpre_0 hpre_1 hr1 c2 ex163 tx163 c164 ex193 tx193 c194 hi55_0 hi55_1 c198 ex218 tx218), (v_intOf_152 σ k0 r1 r82 x163 x193 y195 y196 y197 r208 x215 x216 x217 x218 hpre_0 hpre_1 hpre_2 hpre_3 hr1 c2 hr82y c83 ex163 tx163 c164 ex193 tx193 c194 hi55_0 hi55_1 hi55_2 hi55y c198 c204 hr208y c209 c214 ex215 ex216 ex217 ex218 tx218)⟩ hP hS (lv_sub hl [0, 1, 2, 4, 5, 6, 7] rfl)
          · have c214 : r208.toInt ≤ 57 := by have h := z_nlt c214; rw [show (57 : Int32).toInt = 57 from by decide +kernel] at h; exact h
            refine lv_iconst (v := 1) hx hb dX12_intOf_89 (by decide +kernel) ?_
            refine lv_goto (tgt := 94) hx hb dX12_intOf_90 (by decide) ?_
            refine lv_istore (lv' := [(4, .int 1), (7, .int r208), (6, .int y196), (5, .int y195), (3, .int 1), (2, .int r1), (0, .ref (ad 0)), (1, .int k0)]) hx hb dX12_intOf_94 hl (by decide) rfl (fun ls hl => ?_)
            refine lv_bipush (v := 10) hx hb dX12_intOf_96 (by decide +kernel) ?_
            refine lv_iload hx hb dX12_intOf_98 (lv_at hl 3 rfl) ?_
            refine lv_imul hx hb dX12_intOf_100 ?_
            refine lv_topi (fun x219 ex219 => ?_)
            refine lv_iload hx hb dX12_intOf_101 (lv_at hl 1 rfl) ?_
            refine lv_iadd hx hb dX12_intOf_103 ?_
            refine lv_topi (fun x220 ex220 => ?_)
            refine lv_bipush (v := 48) hx hb dX12_intOf_104 (by decide +kernel) ?_
            refine lv_isub hx hb dX12_intOf_106 ?_
            refine lv_topi (fun x221 ex221 => ?_)
            refine lv_istore (lv' := [(5, .int x221), (4, .int 1), (7, .int r208), (6, .int y196), (3, .int 1), (2, .int r1), (0, .ref (ad 0)), (1, .int k0)]) hx hb dX12_intOf_107 hl (by decide) rfl (fun ls hl => ?_)
            obtain ⟨x222, ex222⟩ : ∃ y : Int32, y = y196 + (1 : Int32) := ⟨_, rfl⟩
            have tx222 : x222.toInt = y196.toInt + 1 := (v_intOf_154 σ k0 r1 x163 x193 y196 x222 hpre_0 hpre_1 hr1 c2 ex163 tx163 c164 ex193 tx193 c194 hi55_0 hi55_1 c198 ex222)
            refine lv_iinc (v := x222) (lv' := [(6, .int x222), (5, .int x221), (4, .int 1), (7, .int r208), (3, .int 1), (2, .int r1), (0, .ref (ad 0)), (1, .int k0)]) hx hb dX12_intOf_109 hl (k := 3) rfl (by rw [ex222]; rfl) (by decide) rfl (fun ls hl => ?_)
            refine lv_goto (tgt := 55) hx hb dX12_intOf_112 (by decide) ?_
            exact ih55 x221 x222 (1 : Int32) _ _ _ (Nat.lt_of_lt_of_le (v_intOf_157 σ k0 r1 x163 x193 y196 x222 hpre_0 hpre_1 hr1 c2 ex163 tx163 c164 ex193 tx193 c194 hi55_0 hi55_1 c198 ex222 tx222) (Nat.le_of_lt_succ hn55)) ⟨(v_intOf_155 σ k0 r1 x163 x193 y196 x222 hpre_0 hpre_1 hr1 c2 ex163 tx163 c164 ex193 tx193 c194 hi55_0 hi55_1 c198 ex222 tx222), (v_intOf_156 σ k0 r1 r82 x163 x193 y195 y196 y197 r208 x219 x220 x221 x222 hpre_0 hpre_1 hpre_2 hpre_3 hr1 c2 hr82y c83 ex163 tx163 c164 ex193 tx193 c194 hi55_0 hi55_1 hi55_2 hi55y c198 c204 hr208y c209 c214 ex219 ex220 ex221 ex222 tx222)⟩ hP hS (lv_sub hl [0, 1, 2, 4, 5, 6, 7] rfl)
set_option maxHeartbeats 4000000 in
set_option maxRecDepth 100000 in
theorem L_intOf_55_9 {p : Program} {e : Env} {s : State} {m : MethodId} {below : List Frame} {meth : Method} {c : Code} (l : Launch) (D : va_G) (cy : Nat → ClassId) (sz0 : Nat) (sa : Nat → Nat) (ad : Nat → Nat) (sz : Nat) (σ : RS) (k0 : Int32) (r1 : Int32) (r82 : Int32) (x163 : Int32) (x193 : Int32) (C : RC p s m #[.ref (ad 0), .int k0] meth c cX12_intOf 8 (some .int) D cy sz0 sa ad (AR cy ad sz)) (hpre_0 : 0 ≤ k0.toInt) (hpre_1 : k0.toInt < 980) (hpre_2 : 0 ≤ (σ.1 56).toInt) (hpre_3 : (σ.1 56).toInt ≤ 11) (hr1 : r1 = LENF ((σ.2.2.1 52) k0.toNatClampNeg)) (c2 : 0 < r1.toInt) (hr82y : ∀ s9 : List Int, QTT ((σ.2.2.1 52) k0.toNatClampNeg) ((σ.2.2.1 53) k0.toNatClampNeg) s9 → 0 ≤ (0 : Int32).toInt → (0 : Int32).toInt < 17 → r82.toInt = s9.getD (0 : Int32).toInt.toNat 0) (c83 : r82.toInt = 45) (ex163 : x163 = r1 - (1 : Int32)) (tx163 : x163.toInt = r1.toInt - 1) (c164 : 1 ≤ x163.toInt) (ex193 : x193 = r1 - (1 : Int32)) (tx193 : x193.toInt = r1.toInt - 1) (c194 : x193.toInt ≤ 9) : ∀ (n : Nat) (y223 : Int32) (y224 : Int32) (y225 : Int32) (H : Heap) (locs : List Loc) (ls : Array Slot), (130 - y224.toInt).toNat < n → ((0 ≤ y224.toInt ∧ y224.toInt ≤ 130 ∧ (y225.toInt = 0 ∨ y225.toInt = 1)) ∧ (∀ s9 : List Int, QTT ((σ.2.2.1 52) k0.toNatClampNeg) ((σ.2.2.1 53) k0.toNatClampNeg) s9 → INL s9 (1 : Int32).toInt y223.toInt y224.toInt y225.toInt)) → RP D cy ad σ H → va_S (AR cy ad sz) s.heap H locs → lv_has ls 8 [(6, .int y224), (5, .int y223), (4, .int y225), (3, .int 1), (2, .int r1), (0, .ref (ad 0)), (1, .int k0)] → W p l e (headSpec (Cond.code yX12_intOf cX12_intOf 8 (some .int) :: GWm) ({ frames := 1, cells := 0, slots := 0, locals := 22 })).room s m #[.ref (ad 0), .int k0] below meth c H locs 0 0 (MQ below (va_Qi (fun (r : Int32) (u : Int32) => (0 ≤ u.toInt ∧ u.toInt ≤ 11) ∧ (∀ s9 : List Int, QTT ((σ.2.2.1 52) k0.toNatClampNeg) ((σ.2.2.1 53) k0.toNatClampNeg) s9 → QI (qToI s9) r.toInt u.toInt (σ.1 56).toInt)) (fun (u : Int32) (t : State) => RP D cy ad (rS σ 56 u) t.heap) (AR cy ad sz)) #[.ref (ad 0), .int k0] s 0 0 (AR cy ad sz)) (F0 m 55 ls []) := by
  have hx := C.1
  have hb := C.2.1
  have hown := C.2.2.2.2.1
  have hw := C.2.2.2.2.2.1
  intro n
  induction n with
  | zero => intro y223 y224 y225 H locs ls hn; exact absurd hn (Nat.not_lt_zero _)
  | succ n ih55 =>
    intro y223 y224 y225 H locs ls hn55 hi55 hP hS hl
    obtain ⟨hi55, hi55y⟩ := hi55
    obtain ⟨hi55_0, hi55_1, hi55_2⟩ := hi55
    refine lv_iload hx hb dX12_intOf_55 (lv_at hl 0 rfl) ?_
    refine lv_iload_n hx hb dX12_intOf_57 rfl (lv_at hl 4 rfl) ?_
    refine lv_icmp_ge (tgt := 115) hx hb dX12_intOf_58 (by decide) (fun c226 => ?_) (fun c226 => ?_)
    · have c226 : r1.toInt ≤ y224.toInt := by have h := z_le c226; exact h
      refine lv_aload_n hx hb dX12_intOf_115 rfl (lv_at hl 5 rfl) ?_
      refine lv_iload hx hb dX12_intOf_116 (lv_at hl 2 rfl) ?_
      refine lv_if_eq (tgt := 128) hx hb dX12_intOf_118 (by decide) (fun c227 => ?_) (fun c227 => ?_)
      · have c227 : y225.toInt = 0 := by have h := z_eq c227; rw [show (0 : Int32).toInt = 0 from by decide +kernel] at h; exact h
        refine lv_bipush (v := 10) hx hb dX12_intOf_128 (by decide +kernel) ?_
        refine rp_56 C hP hS wm_242 dX12_intOf_130 (fun H locs hP hS => ?_)
        refine lv_iload_n hx hb dX12_intOf_133 rfl (lv_at hl 3 rfl) ?_
        refine lv_iconst (v := 1) hx hb dX12_intOf_134 (by decide +kernel) ?_
        refine lv_icmp_ne (tgt := 144) hx hb dX12_intOf_135 (by decide) (fun c228 => absurd (by decide +kernel) c228) (fun _ => ?_)
        refine lv_iload hx hb dX12_intOf_138 (lv_at hl 1 rfl) ?_
        refine lv_ineg hx hb dX12_intOf_140 ?_
        refine lv_topi (fun x229 ex229 => ?_)
        refine lv_goto (tgt := 146) hx hb dX12_intOf_141 (by decide) ?_
        exact r_reti C (10 : Int32) ⟨(v_intOf_5  ), (v_intOf_160 σ k0 r1 r82 x163 x193 y223 y224 y225 x229 hpre_0 hpre_1 hpre_2 hpre_3 hr1 c2 hr82y c83 ex163 tx163 c164 ex193 tx193 c194 hi55_0 hi55_1 hi55_2 hi55y c226 c227 ex229)⟩ hP hS dX12_intOf_146
      · have c227 : ¬ y225.toInt = 0 := by have h := z_ne c227; rw [show (0 : Int32).toInt = 0 from by decide +kernel] at h; exact h
        refine lv_aload_n hx hb dX12_intOf_121 rfl (lv_at hl 5 rfl) ?_
        refine rg_56 (v := (σ.1 56)) C hP rfl wm_242 dX12_intOf_122 ?_
        refine lv_goto (tgt := 130) hx hb dX12_intOf_125 (by decide) ?_
        refine rp_56 C hP hS wm_242 dX12_intOf_130 (fun H locs hP hS => ?_)
        refine lv_iload_n hx hb dX12_intOf_133 rfl (lv_at hl 3 rfl) ?_
        refine lv_iconst (v := 1) hx hb dX12_intOf_134 (by decide +kernel) ?_
        refine lv_icmp_ne (tgt := 144) hx hb dX12_intOf_135 (by decide) (fun c230 => absurd (by decide +kernel) c230) (fun _ => ?_)
        refine lv_iload hx hb dX12_intOf_138 (lv_at hl 1 rfl) ?_
        refine lv_ineg hx hb dX12_intOf_140 ?_
        refine lv_topi (fun x231 ex231 => ?_)
        refine lv_goto (tgt := 146) hx hb dX12_intOf_141 (by decide) ?_
        exact r_reti C (σ.1 56) ⟨(v_intOf_7 σ hpre_2 hpre_3), (v_intOf_161 σ k0 r1 r82 x163 x193 y223 y224 y225 x231 hpre_0 hpre_1 hpre_2 hpre_3 hr1 c2 hr82y c83 ex163 tx163 c164 ex193 tx193 c194 hi55_0 hi55_1 hi55_2 hi55y c226 c227 ex231)⟩ hP hS dX12_intOf_146
    · have c226 : y224.toInt < r1.toInt := by have h := z_nle c226; exact h
      refine lv_iload hx hb dX12_intOf_61 (lv_at hl 2 rfl) ?_
      refine lv_if_eq (tgt := 115) hx hb dX12_intOf_63 (by decide) (fun c232 => ?_) (fun c232 => ?_)
      · have c232 : y225.toInt = 0 := by have h := z_eq c232; rw [show (0 : Int32).toInt = 0 from by decide +kernel] at h; exact h
        refine lv_aload_n hx hb dX12_intOf_115 rfl (lv_at hl 5 rfl) ?_
        refine lv_iload hx hb dX12_intOf_116 (lv_at hl 2 rfl) ?_
        refine lv_if_eq (tgt := 128) hx hb dX12_intOf_118 (by decide) (fun c233 => ?_) (fun c233 => ?_)
        · have c233 : y225.toInt = 0 := by have h := z_eq c233; rw [show (0 : Int32).toInt = 0 from by decide +kernel] at h; exact h
          refine lv_bipush (v := 10) hx hb dX12_intOf_128 (by decide +kernel) ?_
          refine rp_56 C hP hS wm_242 dX12_intOf_130 (fun H locs hP hS => ?_)
          refine lv_iload_n hx hb dX12_intOf_133 rfl (lv_at hl 3 rfl) ?_
          refine lv_iconst (v := 1) hx hb dX12_intOf_134 (by decide +kernel) ?_
          refine lv_icmp_ne (tgt := 144) hx hb dX12_intOf_135 (by decide) (fun c234 => absurd (by decide +kernel) c234) (fun _ => ?_)
          refine lv_iload hx hb dX12_intOf_138 (lv_at hl 1 rfl) ?_
          refine lv_ineg hx hb dX12_intOf_140 ?_
          refine lv_topi (fun x235 ex235 => ?_)
          refine lv_goto (tgt := 146) hx hb dX12_intOf_141 (by decide) ?_
          exact r_reti C (10 : Int32) ⟨(v_intOf_5  ), (v_intOf_162 σ k0 r1 r82 x163 x193 y223 y224 y225 x235 hpre_0 hpre_1 hpre_2 hpre_3 hr1 c2 hr82y c83 ex163 tx163 c164 ex193 tx193 c194 hi55_0 hi55_1 hi55_2 hi55y c226 c232 c233 ex235)⟩ hP hS dX12_intOf_146
        · have c233 : ¬ y225.toInt = 0 := by have h := z_ne c233; rw [show (0 : Int32).toInt = 0 from by decide +kernel] at h; exact h
          exact absurd (v_intOf_163 y225 hi55_2 c232 c233) id
      · have c232 : ¬ y225.toInt = 0 := by have h := z_ne c232; rw [show (0 : Int32).toInt = 0 from by decide +kernel] at h; exact h
        refine lv_aload_n hx hb dX12_intOf_66 rfl (lv_at hl 5 rfl) ?_
        refine lv_iload_n hx hb dX12_intOf_67 rfl (lv_at hl 6 rfl) ?_
        refine lv_iload hx hb dX12_intOf_68 (lv_at hl 0 rfl) ?_
        refine r_callVi (As := [.int k0, .int y224]) (rest := []) C hP hS hl.1 ⟨Nat.zero_le _, Nat.zero_le _⟩ (M_sign8 l D cy sz0 sa ad σ H.size k0 y224 (v_intOf_164 σ k0 r1 x163 x193 y224 hpre_0 hpre_1 hr1 c2 ex163 tx163 c164 ex193 tx193 c194 hi55_0 hi55_1 c226)) (n := 2) ⟨wm_231, wm_217, by decide +kernel⟩ ⟨wm_232, wm_233, wm_10⟩ rfl rfl (lv_room (Nat.le_of_ble_eq_true rfl)) ⟨Nat.le_of_ble_eq_true rfl, Nat.le_of_ble_eq_true rfl⟩ dX12_intOf_70 (fun r236 u H locs hr236 hP hS => ?_)
        obtain ⟨hr236, hr236y⟩ := hr236
        have hr236y : ∀ s9 : List Int, QTT ((σ.2.2.1 52) k0.toNatClampNeg) ((σ.2.2.1 53) k0.toNatClampNeg) s9 → 0 ≤ y224.toInt → y224.toInt < 17 → r236.toInt = s9.getD y224.toInt.toNat 0 := hr236y
        have hr236 : True := hr236
        refine lv_istore (lv' := [(7, .int r236), (6, .int y224), (5, .int y223), (4, .int y225), (3, .int 1), (2, .int r1), (0, .ref (ad 0)), (1, .int k0)]) hx hb dX12_intOf_73 hl (by decide) rfl (fun ls hl => ?_)
        refine lv_iload hx hb dX12_intOf_75 (lv_at hl 0 rfl) ?_
        refine lv_bipush (v := 48) hx hb dX12_intOf_77 (by decide +kernel) ?_
        refine lv_icmp_lt (tgt := 93) hx hb dX12_intOf_79 (by decide) (fun c237 => ?_) (fun c237 => ?_)
        · have c237 : r236.toInt < 48 := by have h := z_lt c237; rw [show (48 : Int32).toInt = 48 from by decide +kernel] at h; exact h
          refine lv_iconst (v := 0) hx hb dX12_intOf_93 (by decide +kernel) ?_
          refine lv_istore (lv' := [(4, .int 0), (7, .int r236), (6, .int y224), (5, .int y223), (3, .int 1), (2, .int r1), (0, .ref (ad 0)), (1, .int k0)]) hx hb dX12_intOf_94 hl (by decide) rfl (fun ls hl => ?_)
          refine lv_bipush (v := 10) hx hb dX12_intOf_96 (by decide +kernel) ?_
          refine lv_iload hx hb dX12_intOf_98 (lv_at hl 3 rfl) ?_
          refine lv_imul hx hb dX12_intOf_100 ?_
          refine lv_topi (fun x238 ex238 => ?_)
          refine lv_iload hx hb dX12_intOf_101 (lv_at hl 1 rfl) ?_
          refine lv_iadd hx hb dX12_intOf_103 ?_
          refine lv_topi (fun x239 ex239 => ?_)
          refine lv_bipush (v := 48) hx hb dX12_intOf_104 (by decide +kernel) ?_
          refine lv_isub hx hb dX12_intOf_106 ?_
          refine lv_topi (fun x240 ex240 => ?_)
          refine lv_istore (lv' := [(5, .int x240), (4, .int 0), (7, .int r236), (6, .int y224), (3, .int 1), (2, .int r1), (0, .ref (ad 0)), (1, .int k0)]) hx hb dX12_intOf_107 hl (by decide) rfl (fun ls hl => ?_)
          obtain ⟨x241, ex241⟩ : ∃ y : Int32, y = y224 + (1 : Int32) := ⟨_, rfl⟩
          have tx241 : x241.toInt = y224.toInt + 1 := (v_intOf_165 σ k0 r1 x163 x193 y224 x241 hpre_0 hpre_1 hr1 c2 ex163 tx163 c164 ex193 tx193 c194 hi55_0 hi55_1 c226 ex241)
          refine lv_iinc (v := x241) (lv' := [(6, .int x241), (5, .int x240), (4, .int 0), (7, .int r236), (3, .int 1), (2, .int r1), (0, .ref (ad 0)), (1, .int k0)]) hx hb dX12_intOf_109 hl (k := 3) rfl (by rw [ex241]; rfl) (by decide) rfl (fun ls hl => ?_)
          refine lv_goto (tgt := 55) hx hb dX12_intOf_112 (by decide) ?_
          exact ih55 x240 x241 (0 : Int32) _ _ _ (Nat.lt_of_lt_of_le (v_intOf_168 σ k0 r1 x163 x193 y224 x241 hpre_0 hpre_1 hr1 c2 ex163 tx163 c164 ex193 tx193 c194 hi55_0 hi55_1 c226 ex241 tx241) (Nat.le_of_lt_succ hn55)) ⟨(v_intOf_166 σ k0 r1 x163 x193 y224 x241 hpre_0 hpre_1 hr1 c2 ex163 tx163 c164 ex193 tx193 c194 hi55_0 hi55_1 c226 ex241 tx241), (v_intOf_167 σ k0 r1 r82 x163 x193 y223 y224 y225 r236 x238 x239 x240 x241 hpre_0 hpre_1 hpre_2 hpre_3 hr1 c2 hr82y c83 ex163 tx163 c164 ex193 tx193 c194 hi55_0 hi55_1 hi55_2 hi55y c226 c232 hr236y c237 ex238 ex239 ex240 ex241 tx241)⟩ hP hS (lv_sub hl [0, 1, 2, 4, 5, 6, 7] rfl)
        · have c237 : 48 ≤ r236.toInt := by have h := z_nlt c237; rw [show (48 : Int32).toInt = 48 from by decide +kernel] at h; exact h
          refine lv_iload hx hb dX12_intOf_82 (lv_at hl 0 rfl) ?_
          refine lv_bipush (v := 57) hx hb dX12_intOf_84 (by decide +kernel) ?_
          refine lv_icmp_gt (tgt := 93) hx hb dX12_intOf_86 (by decide) (fun c242 => ?_) (fun c242 => ?_)
          · have c242 : 57 < r236.toInt := by have h := z_lt c242; rw [show (57 : Int32).toInt = 57 from by decide +kernel] at h; exact h
            refine lv_iconst (v := 0) hx hb dX12_intOf_93 (by decide +kernel) ?_
            refine lv_istore (lv' := [(4, .int 0), (7, .int r236), (6, .int y224), (5, .int y223), (3, .int 1), (2, .int r1), (0, .ref (ad 0)), (1, .int k0)]) hx hb dX12_intOf_94 hl (by decide) rfl (fun ls hl => ?_)
            refine lv_bipush (v := 10) hx hb dX12_intOf_96 (by decide +kernel) ?_
            refine lv_iload hx hb dX12_intOf_98 (lv_at hl 3 rfl) ?_
            refine lv_imul hx hb dX12_intOf_100 ?_
            refine lv_topi (fun x243 ex243 => ?_)
            refine lv_iload hx hb dX12_intOf_101 (lv_at hl 1 rfl) ?_
            refine lv_iadd hx hb dX12_intOf_103 ?_
            refine lv_topi (fun x244 ex244 => ?_)
            refine lv_bipush (v := 48) hx hb dX12_intOf_104 (by decide +kernel) ?_
            refine lv_isub hx hb dX12_intOf_106 ?_
            refine lv_topi (fun x245 ex245 => ?_)
            refine lv_istore (lv' := [(5, .int x245), (4, .int 0), (7, .int r236), (6, .int y224), (3, .int 1), (2, .int r1), (0, .ref (ad 0)), (1, .int k0)]) hx hb dX12_intOf_107 hl (by decide) rfl (fun ls hl => ?_)
            obtain ⟨x246, ex246⟩ : ∃ y : Int32, y = y224 + (1 : Int32) := ⟨_, rfl⟩
            have tx246 : x246.toInt = y224.toInt + 1 := (v_intOf_169 σ k0 r1 x163 x193 y224 x246 hpre_0 hpre_1 hr1 c2 ex163 tx163 c164 ex193 tx193 c194 hi55_0 hi55_1 c226 ex246)
            refine lv_iinc (v := x246) (lv' := [(6, .int x246), (5, .int x245), (4, .int 0), (7, .int r236), (3, .int 1), (2, .int r1), (0, .ref (ad 0)), (1, .int k0)]) hx hb dX12_intOf_109 hl (k := 3) rfl (by rw [ex246]; rfl) (by decide) rfl (fun ls hl => ?_)
            refine lv_goto (tgt := 55) hx hb dX12_intOf_112 (by decide) ?_
            exact ih55 x245 x246 (0 : Int32) _ _ _ (Nat.lt_of_lt_of_le (v_intOf_172 σ k0 r1 x163 x193 y224 x246 hpre_0 hpre_1 hr1 c2 ex163 tx163 c164 ex193 tx193 c194 hi55_0 hi55_1 c226 ex246 tx246) (Nat.le_of_lt_succ hn55)) ⟨(v_intOf_170 σ k0 r1 x163 x193 y224 x246 hpre_0 hpre_1 hr1 c2 ex163 tx163 c164 ex193 tx193 c194 hi55_0 hi55_1 c226 ex246 tx246), (v_intOf_171 σ k0 r1 r82 x163 x193 y223 y224 y225 r236 x243 x244 x245 x246 hpre_0 hpre_1 hpre_2 hpre_3 hr1 c2 hr82y c83 ex163 tx163 c164 ex193 tx193 c194 hi55_0 hi55_1 hi55_2 hi55y c226 c232 hr236y c237 c242 ex243 ex244 ex245 ex246 tx246)⟩ hP hS (lv_sub hl [0, 1, 2, 4, 5, 6, 7] rfl)
          · have c242 : r236.toInt ≤ 57 := by have h := z_nlt c242; rw [show (57 : Int32).toInt = 57 from by decide +kernel] at h; exact h
            refine lv_iconst (v := 1) hx hb dX12_intOf_89 (by decide +kernel) ?_
            refine lv_goto (tgt := 94) hx hb dX12_intOf_90 (by decide) ?_
            refine lv_istore (lv' := [(4, .int 1), (7, .int r236), (6, .int y224), (5, .int y223), (3, .int 1), (2, .int r1), (0, .ref (ad 0)), (1, .int k0)]) hx hb dX12_intOf_94 hl (by decide) rfl (fun ls hl => ?_)
            refine lv_bipush (v := 10) hx hb dX12_intOf_96 (by decide +kernel) ?_
            refine lv_iload hx hb dX12_intOf_98 (lv_at hl 3 rfl) ?_
            refine lv_imul hx hb dX12_intOf_100 ?_
            refine lv_topi (fun x247 ex247 => ?_)
            refine lv_iload hx hb dX12_intOf_101 (lv_at hl 1 rfl) ?_
            refine lv_iadd hx hb dX12_intOf_103 ?_
            refine lv_topi (fun x248 ex248 => ?_)
            refine lv_bipush (v := 48) hx hb dX12_intOf_104 (by decide +kernel) ?_
            refine lv_isub hx hb dX12_intOf_106 ?_
            refine lv_topi (fun x249 ex249 => ?_)
            refine lv_istore (lv' := [(5, .int x249), (4, .int 1), (7, .int r236), (6, .int y224), (3, .int 1), (2, .int r1), (0, .ref (ad 0)), (1, .int k0)]) hx hb dX12_intOf_107 hl (by decide) rfl (fun ls hl => ?_)
            obtain ⟨x250, ex250⟩ : ∃ y : Int32, y = y224 + (1 : Int32) := ⟨_, rfl⟩
            have tx250 : x250.toInt = y224.toInt + 1 := (v_intOf_173 σ k0 r1 x163 x193 y224 x250 hpre_0 hpre_1 hr1 c2 ex163 tx163 c164 ex193 tx193 c194 hi55_0 hi55_1 c226 ex250)
            refine lv_iinc (v := x250) (lv' := [(6, .int x250), (5, .int x249), (4, .int 1), (7, .int r236), (3, .int 1), (2, .int r1), (0, .ref (ad 0)), (1, .int k0)]) hx hb dX12_intOf_109 hl (k := 3) rfl (by rw [ex250]; rfl) (by decide) rfl (fun ls hl => ?_)
            refine lv_goto (tgt := 55) hx hb dX12_intOf_112 (by decide) ?_
            exact ih55 x249 x250 (1 : Int32) _ _ _ (Nat.lt_of_lt_of_le (v_intOf_176 σ k0 r1 x163 x193 y224 x250 hpre_0 hpre_1 hr1 c2 ex163 tx163 c164 ex193 tx193 c194 hi55_0 hi55_1 c226 ex250 tx250) (Nat.le_of_lt_succ hn55)) ⟨(v_intOf_174 σ k0 r1 x163 x193 y224 x250 hpre_0 hpre_1 hr1 c2 ex163 tx163 c164 ex193 tx193 c194 hi55_0 hi55_1 c226 ex250 tx250), (v_intOf_175 σ k0 r1 r82 x163 x193 y223 y224 y225 r236 x247 x248 x249 x250 hpre_0 hpre_1 hpre_2 hpre_3 hr1 c2 hr82y c83 ex163 tx163 c164 ex193 tx193 c194 hi55_0 hi55_1 hi55_2 hi55y c226 c232 hr236y c237 c242 ex247 ex248 ex249 ex250 tx250)⟩ hP hS (lv_sub hl [0, 1, 2, 4, 5, 6, 7] rfl)
set_option maxHeartbeats 4000000 in
set_option maxRecDepth 100000 in
theorem M_intOf (l : Launch) (D : va_G) (cy : Nat → ClassId) (sz0 : Nat) (sa : Nat → Nat) (ad : Nat → Nat) (σ : RS) (sz : Nat) (k0 : Int32) (hpre : 0 ≤ k0.toInt ∧ k0.toInt < 980 ∧ 0 ≤ (σ.1 56).toInt ∧ (σ.1 56).toInt ≤ 11) : Met l yX12_intOf (Cond.code yX12_intOf cX12_intOf 8 (some .int) :: GWm) ({ frames := 1, cells := 0, slots := 0, locals := 22 }) (PcR D cy sz0 sa ad [.ref (ad 0), .int k0] σ sz) (va_Qi (fun (r : Int32) (u : Int32) => (0 ≤ u.toInt ∧ u.toInt ≤ 11) ∧ (∀ s9 : List Int, QTT ((σ.2.2.1 52) k0.toNatClampNeg) ((σ.2.2.1 53) k0.toNatClampNeg) s9 → QI (qToI s9) r.toInt u.toInt (σ.1 56).toInt)) (fun (u : Int32) (t : State) => RP D cy ad (rS σ 56 u) t.heap) (AR cy ad sz)) 0 0 (AR cy ad sz) := by
  refine RM_of (loc0 := [(0, .ref (ad 0)), (1, .int k0)]) (by decide) rfl rfl (Nat.le_of_ble_eq_true rfl) ?_
  intro p e s m below meth c ls hsz C hP hS hl
  have hx := C.1
  have hb := C.2.1
  have hown := C.2.2.2.2.1
  have hw := C.2.2.2.2.2.1
  clear hsz
  obtain ⟨hpre_0, hpre_1, hpre_2, hpre_3⟩ := hpre
  refine lv_aload_n hx hb dX12_intOf_0 rfl (lv_at hl 0 rfl) ?_
  refine lv_iload_n hx hb dX12_intOf_1 rfl (lv_at hl 1 rfl) ?_
  refine r_callVi (As := [.int k0]) (rest := []) C hP hS hl.1 ⟨Nat.zero_le _, Nat.zero_le _⟩ (M_lengthOf l D cy sz0 sa ad σ s.heap.size k0 (v_intOf_1 k0 hpre_0 hpre_1)) (n := 1) ⟨wm_228, wm_216, by decide +kernel⟩ ⟨wm_229, wm_230, wm_10⟩ rfl rfl (lv_room (Nat.le_of_ble_eq_true rfl)) ⟨Nat.le_of_ble_eq_true rfl, Nat.le_of_ble_eq_true rfl⟩ dX12_intOf_2 (fun r1 u H locs hr1 hP hS => ?_)
  have hr1 : r1 = LENF ((σ.2.2.1 52) k0.toNatClampNeg) := hr1
  refine lv_istore_n (lv' := [(2, .int r1), (0, .ref (ad 0)), (1, .int k0)]) hx hb dX12_intOf_5 rfl hl (by decide) rfl (fun ls hl => ?_)
  refine lv_iload_n hx hb dX12_intOf_6 rfl (lv_at hl 0 rfl) ?_
  refine lv_if_le (tgt := 25) hx hb dX12_intOf_7 (by decide) (fun c2 => ?_) (fun c2 => ?_)
  · have c2 : r1.toInt ≤ 0 := by have h := z_le c2; rw [show (0 : Int32).toInt = 0 from by decide +kernel] at h; exact h
    refine lv_iconst (v := 0) hx hb dX12_intOf_25 (by decide +kernel) ?_
    refine lv_istore_n (lv' := [(3, .int 0), (2, .int r1), (0, .ref (ad 0)), (1, .int k0)]) hx hb dX12_intOf_26 rfl hl (by decide) rfl (fun ls hl => ?_)
    refine lv_iload_n hx hb dX12_intOf_27 rfl (lv_at hl 1 rfl) ?_
    refine lv_iload_n hx hb dX12_intOf_28 rfl (lv_at hl 0 rfl) ?_
    refine lv_isub hx hb dX12_intOf_29 ?_
    refine lv_topi (fun x3 ex3 => ?_)
    have tx3 : x3.toInt = r1.toInt - 0 := (v_intOf_2 σ k0 r1 x3 hpre_0 hpre_1 hr1 c2 ex3)
    refine lv_iconst (v := 1) hx hb dX12_intOf_30 (by decide +kernel) ?_
    refine lv_icmp_lt (tgt := 46) hx hb dX12_intOf_31 (by decide) (fun c4 => ?_) (fun c4 => ?_)
    · have c4 : x3.toInt < 1 := by have h := z_lt c4; rw [show (1 : Int32).toInt = 1 from by decide +kernel] at h; exact h
      refine lv_iconst (v := 0) hx hb dX12_intOf_46 (by decide +kernel) ?_
      refine lv_istore (lv' := [(4, .int 0), (3, .int 0), (2, .int r1), (0, .ref (ad 0)), (1, .int k0)]) hx hb dX12_intOf_47 hl (by decide) rfl (fun ls hl => ?_)
      refine lv_iconst (v := 0) hx hb dX12_intOf_49 (by decide +kernel) ?_
      refine lv_istore (lv' := [(5, .int 0), (4, .int 0), (3, .int 0), (2, .int r1), (0, .ref (ad 0)), (1, .int k0)]) hx hb dX12_intOf_50 hl (by decide) rfl (fun ls hl => ?_)
      refine lv_iload_n hx hb dX12_intOf_52 rfl (lv_at hl 2 rfl) ?_
      refine lv_istore (lv' := [(6, .int 0), (5, .int 0), (4, .int 0), (3, .int 0), (2, .int r1), (0, .ref (ad 0)), (1, .int k0)]) hx hb dX12_intOf_53 hl (by decide) rfl (fun ls hl => ?_)
      exact L_intOf_55_1 l D cy sz0 sa ad sz σ k0 r1 x3 C hpre_0 hpre_1 hpre_2 hpre_3 hr1 c2 ex3 tx3 c4 ((130 - (0 : Int32).toInt).toNat + 1) (0 : Int32) (0 : Int32) (0 : Int32) _ _ _ (Nat.lt_succ_self _) ⟨(v_intOf_3  ), (v_intOf_4 σ k0 r1 x3 hpre_0 hpre_1 hpre_2 hpre_3 hr1 c2 ex3 tx3 c4)⟩ hP hS (lv_sub hl [0, 1, 2, 3, 4, 5, 6] rfl)
    · have c4 : 1 ≤ x3.toInt := by have h := z_nlt c4; rw [show (1 : Int32).toInt = 1 from by decide +kernel] at h; exact h
      refine lv_iload_n hx hb dX12_intOf_34 rfl (lv_at hl 1 rfl) ?_
      refine lv_iload_n hx hb dX12_intOf_35 rfl (lv_at hl 0 rfl) ?_
      refine lv_isub hx hb dX12_intOf_36 ?_
      refine lv_topi (fun x30 ex30 => ?_)
      have tx30 : x30.toInt = r1.toInt - 0 := (v_intOf_24 σ k0 r1 x3 x30 hpre_0 hpre_1 hr1 c2 ex3 tx3 c4 ex30)
      refine lv_bipush (v := 9) hx hb dX12_intOf_37 (by decide +kernel) ?_
      refine lv_icmp_gt (tgt := 46) hx hb dX12_intOf_39 (by decide) (fun c31 => ?_) (fun c31 => ?_)
      · have c31 : 9 < x30.toInt := by have h := z_lt c31; rw [show (9 : Int32).toInt = 9 from by decide +kernel] at h; exact h
        refine lv_iconst (v := 0) hx hb dX12_intOf_46 (by decide +kernel) ?_
        refine lv_istore (lv' := [(4, .int 0), (3, .int 0), (2, .int r1), (0, .ref (ad 0)), (1, .int k0)]) hx hb dX12_intOf_47 hl (by decide) rfl (fun ls hl => ?_)
        refine lv_iconst (v := 0) hx hb dX12_intOf_49 (by decide +kernel) ?_
        refine lv_istore (lv' := [(5, .int 0), (4, .int 0), (3, .int 0), (2, .int r1), (0, .ref (ad 0)), (1, .int k0)]) hx hb dX12_intOf_50 hl (by decide) rfl (fun ls hl => ?_)
        refine lv_iload_n hx hb dX12_intOf_52 rfl (lv_at hl 2 rfl) ?_
        refine lv_istore (lv' := [(6, .int 0), (5, .int 0), (4, .int 0), (3, .int 0), (2, .int r1), (0, .ref (ad 0)), (1, .int k0)]) hx hb dX12_intOf_53 hl (by decide) rfl (fun ls hl => ?_)
        exact L_intOf_55_2 l D cy sz0 sa ad sz σ k0 r1 x3 x30 C hpre_0 hpre_1 hpre_2 hpre_3 hr1 c2 ex3 tx3 c4 ex30 tx30 c31 ((130 - (0 : Int32).toInt).toNat + 1) (0 : Int32) (0 : Int32) (0 : Int32) _ _ _ (Nat.lt_succ_self _) ⟨(v_intOf_3  ), (v_intOf_25 σ k0 r1 x3 x30 hpre_0 hpre_1 hpre_2 hpre_3 hr1 c2 ex3 tx3 c4 ex30 tx30 c31)⟩ hP hS (lv_sub hl [0, 1, 2, 3, 4, 5, 6] rfl)
      · have c31 : x30.toInt ≤ 9 := by have h := z_nlt c31; rw [show (9 : Int32).toInt = 9 from by decide +kernel] at h; exact h
        refine lv_iconst (v := 1) hx hb dX12_intOf_42 (by decide +kernel) ?_
        refine lv_goto (tgt := 47) hx hb dX12_intOf_43 (by decide) ?_
        refine lv_istore (lv' := [(4, .int 1), (3, .int 0), (2, .int r1), (0, .ref (ad 0)), (1, .int k0)]) hx hb dX12_intOf_47 hl (by decide) rfl (fun ls hl => ?_)
        refine lv_iconst (v := 0) hx hb dX12_intOf_49 (by decide +kernel) ?_
        refine lv_istore (lv' := [(5, .int 0), (4, .int 1), (3, .int 0), (2, .int r1), (0, .ref (ad 0)), (1, .int k0)]) hx hb dX12_intOf_50 hl (by decide) rfl (fun ls hl => ?_)
        refine lv_iload_n hx hb dX12_intOf_52 rfl (lv_at hl 2 rfl) ?_
        refine lv_istore (lv' := [(6, .int 0), (5, .int 0), (4, .int 1), (3, .int 0), (2, .int r1), (0, .ref (ad 0)), (1, .int k0)]) hx hb dX12_intOf_53 hl (by decide) rfl (fun ls hl => ?_)
        exact L_intOf_55_3 l D cy sz0 sa ad sz σ k0 r1 x3 x30 C hpre_0 hpre_1 hpre_2 hpre_3 hr1 c2 ex3 tx3 c4 ex30 tx30 c31 ((130 - (0 : Int32).toInt).toNat + 1) (0 : Int32) (0 : Int32) (1 : Int32) _ _ _ (Nat.lt_succ_self _) ⟨(v_intOf_43  ), (v_intOf_44 σ k0 r1 x3 x30 hpre_0 hpre_1 hpre_2 hpre_3 hr1 c2 ex3 tx3 c4 ex30 tx30 c31)⟩ hP hS (lv_sub hl [0, 1, 2, 3, 4, 5, 6] rfl)
  · have c2 : 0 < r1.toInt := by have h := z_nle c2; rw [show (0 : Int32).toInt = 0 from by decide +kernel] at h; exact h
    refine lv_aload_n hx hb dX12_intOf_10 rfl (lv_at hl 1 rfl) ?_
    refine lv_iload_n hx hb dX12_intOf_11 rfl (lv_at hl 2 rfl) ?_
    refine lv_iconst (v := 0) hx hb dX12_intOf_12 (by decide +kernel) ?_
    refine r_callVi (As := [.int k0, .int 0]) (rest := []) C hP hS hl.1 ⟨Nat.zero_le _, Nat.zero_le _⟩ (M_sign8 l D cy sz0 sa ad σ H.size k0 (0 : Int32) (v_intOf_62 σ k0 r1 hpre_0 hpre_1 hr1 c2)) (n := 2) ⟨wm_231, wm_217, by decide +kernel⟩ ⟨wm_232, wm_233, wm_10⟩ rfl rfl (lv_room (Nat.le_of_ble_eq_true rfl)) ⟨Nat.le_of_ble_eq_true rfl, Nat.le_of_ble_eq_true rfl⟩ dX12_intOf_13 (fun r82 u H locs hr82 hP hS => ?_)
    obtain ⟨hr82, hr82y⟩ := hr82
    have hr82y : ∀ s9 : List Int, QTT ((σ.2.2.1 52) k0.toNatClampNeg) ((σ.2.2.1 53) k0.toNatClampNeg) s9 → 0 ≤ (0 : Int32).toInt → (0 : Int32).toInt < 17 → r82.toInt = s9.getD (0 : Int32).toInt.toNat 0 := hr82y
    have hr82 : True := hr82
    refine lv_bipush (v := 45) hx hb dX12_intOf_16 (by decide +kernel) ?_
    refine lv_icmp_ne (tgt := 25) hx hb dX12_intOf_18 (by decide) (fun c83 => ?_) (fun c83 => ?_)
    · have c83 : ¬ r82.toInt = 45 := by have h := z_ne c83; rw [show (45 : Int32).toInt = 45 from by decide +kernel] at h; exact h
      refine lv_iconst (v := 0) hx hb dX12_intOf_25 (by decide +kernel) ?_
      refine lv_istore_n (lv' := [(3, .int 0), (2, .int r1), (0, .ref (ad 0)), (1, .int k0)]) hx hb dX12_intOf_26 rfl hl (by decide) rfl (fun ls hl => ?_)
      refine lv_iload_n hx hb dX12_intOf_27 rfl (lv_at hl 1 rfl) ?_
      refine lv_iload_n hx hb dX12_intOf_28 rfl (lv_at hl 0 rfl) ?_
      refine lv_isub hx hb dX12_intOf_29 ?_
      refine lv_topi (fun x84 ex84 => ?_)
      have tx84 : x84.toInt = r1.toInt - 0 := (v_intOf_63 σ k0 r1 x84 hpre_0 hpre_1 hr1 c2 ex84)
      refine lv_iconst (v := 1) hx hb dX12_intOf_30 (by decide +kernel) ?_
      refine lv_icmp_lt (tgt := 46) hx hb dX12_intOf_31 (by decide) (fun c85 => ?_) (fun c85 => ?_)
      · have c85 : x84.toInt < 1 := by have h := z_lt c85; rw [show (1 : Int32).toInt = 1 from by decide +kernel] at h; exact h
        refine lv_iconst (v := 0) hx hb dX12_intOf_46 (by decide +kernel) ?_
        refine lv_istore (lv' := [(4, .int 0), (3, .int 0), (2, .int r1), (0, .ref (ad 0)), (1, .int k0)]) hx hb dX12_intOf_47 hl (by decide) rfl (fun ls hl => ?_)
        refine lv_iconst (v := 0) hx hb dX12_intOf_49 (by decide +kernel) ?_
        refine lv_istore (lv' := [(5, .int 0), (4, .int 0), (3, .int 0), (2, .int r1), (0, .ref (ad 0)), (1, .int k0)]) hx hb dX12_intOf_50 hl (by decide) rfl (fun ls hl => ?_)
        refine lv_iload_n hx hb dX12_intOf_52 rfl (lv_at hl 2 rfl) ?_
        refine lv_istore (lv' := [(6, .int 0), (5, .int 0), (4, .int 0), (3, .int 0), (2, .int r1), (0, .ref (ad 0)), (1, .int k0)]) hx hb dX12_intOf_53 hl (by decide) rfl (fun ls hl => ?_)
        exact L_intOf_55_4 l D cy sz0 sa ad sz σ k0 r1 r82 x84 C hpre_0 hpre_1 hpre_2 hpre_3 hr1 c2 hr82y c83 ex84 tx84 c85 ((130 - (0 : Int32).toInt).toNat + 1) (0 : Int32) (0 : Int32) (0 : Int32) _ _ _ (Nat.lt_succ_self _) ⟨(v_intOf_3  ), (v_intOf_64 σ k0 r1 r82 x84 hpre_0 hpre_1 hpre_2 hpre_3 hr1 c2 hr82y c83 ex84 tx84 c85)⟩ hP hS (lv_sub hl [0, 1, 2, 3, 4, 5, 6] rfl)
      · have c85 : 1 ≤ x84.toInt := by have h := z_nlt c85; rw [show (1 : Int32).toInt = 1 from by decide +kernel] at h; exact h
        refine lv_iload_n hx hb dX12_intOf_34 rfl (lv_at hl 1 rfl) ?_
        refine lv_iload_n hx hb dX12_intOf_35 rfl (lv_at hl 0 rfl) ?_
        refine lv_isub hx hb dX12_intOf_36 ?_
        refine lv_topi (fun x111 ex111 => ?_)
        have tx111 : x111.toInt = r1.toInt - 0 := (v_intOf_82 σ k0 r1 x84 x111 hpre_0 hpre_1 hr1 c2 ex84 tx84 c85 ex111)
        refine lv_bipush (v := 9) hx hb dX12_intOf_37 (by decide +kernel) ?_
        refine lv_icmp_gt (tgt := 46) hx hb dX12_intOf_39 (by decide) (fun c112 => ?_) (fun c112 => ?_)
        · have c112 : 9 < x111.toInt := by have h := z_lt c112; rw [show (9 : Int32).toInt = 9 from by decide +kernel] at h; exact h
          refine lv_iconst (v := 0) hx hb dX12_intOf_46 (by decide +kernel) ?_
          refine lv_istore (lv' := [(4, .int 0), (3, .int 0), (2, .int r1), (0, .ref (ad 0)), (1, .int k0)]) hx hb dX12_intOf_47 hl (by decide) rfl (fun ls hl => ?_)
          refine lv_iconst (v := 0) hx hb dX12_intOf_49 (by decide +kernel) ?_
          refine lv_istore (lv' := [(5, .int 0), (4, .int 0), (3, .int 0), (2, .int r1), (0, .ref (ad 0)), (1, .int k0)]) hx hb dX12_intOf_50 hl (by decide) rfl (fun ls hl => ?_)
          refine lv_iload_n hx hb dX12_intOf_52 rfl (lv_at hl 2 rfl) ?_
          refine lv_istore (lv' := [(6, .int 0), (5, .int 0), (4, .int 0), (3, .int 0), (2, .int r1), (0, .ref (ad 0)), (1, .int k0)]) hx hb dX12_intOf_53 hl (by decide) rfl (fun ls hl => ?_)
          exact L_intOf_55_5 l D cy sz0 sa ad sz σ k0 r1 r82 x84 x111 C hpre_0 hpre_1 hpre_2 hpre_3 hr1 c2 hr82y c83 ex84 tx84 c85 ex111 tx111 c112 ((130 - (0 : Int32).toInt).toNat + 1) (0 : Int32) (0 : Int32) (0 : Int32) _ _ _ (Nat.lt_succ_self _) ⟨(v_intOf_3  ), (v_intOf_83 σ k0 r1 r82 x84 x111 hpre_0 hpre_1 hpre_2 hpre_3 hr1 c2 hr82y c83 ex84 tx84 c85 ex111 tx111 c112)⟩ hP hS (lv_sub hl [0, 1, 2, 3, 4, 5, 6] rfl)
        · have c112 : x111.toInt ≤ 9 := by have h := z_nlt c112; rw [show (9 : Int32).toInt = 9 from by decide +kernel] at h; exact h
          refine lv_iconst (v := 1) hx hb dX12_intOf_42 (by decide +kernel) ?_
          refine lv_goto (tgt := 47) hx hb dX12_intOf_43 (by decide) ?_
          refine lv_istore (lv' := [(4, .int 1), (3, .int 0), (2, .int r1), (0, .ref (ad 0)), (1, .int k0)]) hx hb dX12_intOf_47 hl (by decide) rfl (fun ls hl => ?_)
          refine lv_iconst (v := 0) hx hb dX12_intOf_49 (by decide +kernel) ?_
          refine lv_istore (lv' := [(5, .int 0), (4, .int 1), (3, .int 0), (2, .int r1), (0, .ref (ad 0)), (1, .int k0)]) hx hb dX12_intOf_50 hl (by decide) rfl (fun ls hl => ?_)
          refine lv_iload_n hx hb dX12_intOf_52 rfl (lv_at hl 2 rfl) ?_
          refine lv_istore (lv' := [(6, .int 0), (5, .int 0), (4, .int 1), (3, .int 0), (2, .int r1), (0, .ref (ad 0)), (1, .int k0)]) hx hb dX12_intOf_53 hl (by decide) rfl (fun ls hl => ?_)
          exact L_intOf_55_6 l D cy sz0 sa ad sz σ k0 r1 r82 x84 x111 C hpre_0 hpre_1 hpre_2 hpre_3 hr1 c2 hr82y c83 ex84 tx84 c85 ex111 tx111 c112 ((130 - (0 : Int32).toInt).toNat + 1) (0 : Int32) (0 : Int32) (1 : Int32) _ _ _ (Nat.lt_succ_self _) ⟨(v_intOf_43  ), (v_intOf_101 σ k0 r1 r82 x84 x111 hpre_0 hpre_1 hpre_2 hpre_3 hr1 c2 hr82y c83 ex84 tx84 c85 ex111 tx111 c112)⟩ hP hS (lv_sub hl [0, 1, 2, 3, 4, 5, 6] rfl)
    · have c83 : r82.toInt = 45 := by have h := z_eq c83; rw [show (45 : Int32).toInt = 45 from by decide +kernel] at h; exact h
      refine lv_iconst (v := 1) hx hb dX12_intOf_21 (by decide +kernel) ?_
      refine lv_goto (tgt := 26) hx hb dX12_intOf_22 (by decide) ?_
      refine lv_istore_n (lv' := [(3, .int 1), (2, .int r1), (0, .ref (ad 0)), (1, .int k0)]) hx hb dX12_intOf_26 rfl hl (by decide) rfl (fun ls hl => ?_)
      refine lv_iload_n hx hb dX12_intOf_27 rfl (lv_at hl 1 rfl) ?_
      refine lv_iload_n hx hb dX12_intOf_28 rfl (lv_at hl 0 rfl) ?_
      refine lv_isub hx hb dX12_intOf_29 ?_
      refine lv_topi (fun x163 ex163 => ?_)
      have tx163 : x163.toInt = r1.toInt - 1 := (v_intOf_119 σ k0 r1 x163 hpre_0 hpre_1 hr1 c2 ex163)
      refine lv_iconst (v := 1) hx hb dX12_intOf_30 (by decide +kernel) ?_
      refine lv_icmp_lt (tgt := 46) hx hb dX12_intOf_31 (by decide) (fun c164 => ?_) (fun c164 => ?_)
      · have c164 : x163.toInt < 1 := by have h := z_lt c164; rw [show (1 : Int32).toInt = 1 from by decide +kernel] at h; exact h
        refine lv_iconst (v := 0) hx hb dX12_intOf_46 (by decide +kernel) ?_
        refine lv_istore (lv' := [(4, .int 0), (3, .int 1), (2, .int r1), (0, .ref (ad 0)), (1, .int k0)]) hx hb dX12_intOf_47 hl (by decide) rfl (fun ls hl => ?_)
        refine lv_iconst (v := 0) hx hb dX12_intOf_49 (by decide +kernel) ?_
        refine lv_istore (lv' := [(5, .int 0), (4, .int 0), (3, .int 1), (2, .int r1), (0, .ref (ad 0)), (1, .int k0)]) hx hb dX12_intOf_50 hl (by decide) rfl (fun ls hl => ?_)
        refine lv_iload_n hx hb dX12_intOf_52 rfl (lv_at hl 2 rfl) ?_
        refine lv_istore (lv' := [(6, .int 1), (5, .int 0), (4, .int 0), (3, .int 1), (2, .int r1), (0, .ref (ad 0)), (1, .int k0)]) hx hb dX12_intOf_53 hl (by decide) rfl (fun ls hl => ?_)
        exact L_intOf_55_7 l D cy sz0 sa ad sz σ k0 r1 r82 x163 C hpre_0 hpre_1 hpre_2 hpre_3 hr1 c2 hr82y c83 ex163 tx163 c164 ((130 - (1 : Int32).toInt).toNat + 1) (0 : Int32) (1 : Int32) (0 : Int32) _ _ _ (Nat.lt_succ_self _) ⟨(v_intOf_120  ), (v_intOf_121 σ k0 r1 r82 x163 hpre_0 hpre_1 hpre_2 hpre_3 hr1 c2 hr82y c83 ex163 tx163 c164)⟩ hP hS (lv_sub hl [0, 1, 2, 3, 4, 5, 6] rfl)
      · have c164 : 1 ≤ x163.toInt := by have h := z_nlt c164; rw [show (1 : Int32).toInt = 1 from by decide +kernel] at h; exact h
        refine lv_iload_n hx hb dX12_intOf_34 rfl (lv_at hl 1 rfl) ?_
        refine lv_iload_n hx hb dX12_intOf_35 rfl (lv_at hl 0 rfl) ?_
        refine lv_isub hx hb dX12_intOf_36 ?_
        refine lv_topi (fun x193 ex193 => ?_)
        have tx193 : x193.toInt = r1.toInt - 1 := (v_intOf_139 σ k0 r1 x163 x193 hpre_0 hpre_1 hr1 c2 ex163 tx163 c164 ex193)
        refine lv_bipush (v := 9) hx hb dX12_intOf_37 (by decide +kernel) ?_
        refine lv_icmp_gt (tgt := 46) hx hb dX12_intOf_39 (by decide) (fun c194 => ?_) (fun c194 => ?_)
        · have c194 : 9 < x193.toInt := by have h := z_lt c194; rw [show (9 : Int32).toInt = 9 from by decide +kernel] at h; exact h
          refine lv_iconst (v := 0) hx hb dX12_intOf_46 (by decide +kernel) ?_
          refine lv_istore (lv' := [(4, .int 0), (3, .int 1), (2, .int r1), (0, .ref (ad 0)), (1, .int k0)]) hx hb dX12_intOf_47 hl (by decide) rfl (fun ls hl => ?_)
          refine lv_iconst (v := 0) hx hb dX12_intOf_49 (by decide +kernel) ?_
          refine lv_istore (lv' := [(5, .int 0), (4, .int 0), (3, .int 1), (2, .int r1), (0, .ref (ad 0)), (1, .int k0)]) hx hb dX12_intOf_50 hl (by decide) rfl (fun ls hl => ?_)
          refine lv_iload_n hx hb dX12_intOf_52 rfl (lv_at hl 2 rfl) ?_
          refine lv_istore (lv' := [(6, .int 1), (5, .int 0), (4, .int 0), (3, .int 1), (2, .int r1), (0, .ref (ad 0)), (1, .int k0)]) hx hb dX12_intOf_53 hl (by decide) rfl (fun ls hl => ?_)
          exact L_intOf_55_8 l D cy sz0 sa ad sz σ k0 r1 r82 x163 x193 C hpre_0 hpre_1 hpre_2 hpre_3 hr1 c2 hr82y c83 ex163 tx163 c164 ex193 tx193 c194 ((130 - (1 : Int32).toInt).toNat + 1) (0 : Int32) (1 : Int32) (0 : Int32) _ _ _ (Nat.lt_succ_self _) ⟨(v_intOf_120  ), (v_intOf_140 σ k0 r1 r82 x163 x193 hpre_0 hpre_1 hpre_2 hpre_3 hr1 c2 hr82y c83 ex163 tx163 c164 ex193 tx193 c194)⟩ hP hS (lv_sub hl [0, 1, 2, 3, 4, 5, 6] rfl)
        · have c194 : x193.toInt ≤ 9 := by have h := z_nlt c194; rw [show (9 : Int32).toInt = 9 from by decide +kernel] at h; exact h
          refine lv_iconst (v := 1) hx hb dX12_intOf_42 (by decide +kernel) ?_
          refine lv_goto (tgt := 47) hx hb dX12_intOf_43 (by decide) ?_
          refine lv_istore (lv' := [(4, .int 1), (3, .int 1), (2, .int r1), (0, .ref (ad 0)), (1, .int k0)]) hx hb dX12_intOf_47 hl (by decide) rfl (fun ls hl => ?_)
          refine lv_iconst (v := 0) hx hb dX12_intOf_49 (by decide +kernel) ?_
          refine lv_istore (lv' := [(5, .int 0), (4, .int 1), (3, .int 1), (2, .int r1), (0, .ref (ad 0)), (1, .int k0)]) hx hb dX12_intOf_50 hl (by decide) rfl (fun ls hl => ?_)
          refine lv_iload_n hx hb dX12_intOf_52 rfl (lv_at hl 2 rfl) ?_
          refine lv_istore (lv' := [(6, .int 1), (5, .int 0), (4, .int 1), (3, .int 1), (2, .int r1), (0, .ref (ad 0)), (1, .int k0)]) hx hb dX12_intOf_53 hl (by decide) rfl (fun ls hl => ?_)
          exact L_intOf_55_9 l D cy sz0 sa ad sz σ k0 r1 r82 x163 x193 C hpre_0 hpre_1 hpre_2 hpre_3 hr1 c2 hr82y c83 ex163 tx163 c164 ex193 tx193 c194 ((130 - (1 : Int32).toInt).toNat + 1) (0 : Int32) (1 : Int32) (1 : Int32) _ _ _ (Nat.lt_succ_self _) ⟨(v_intOf_158  ), (v_intOf_159 σ k0 r1 r82 x163 x193 hpre_0 hpre_1 hpre_2 hpre_3 hr1 c2 hr82y c83 ex163 tx163 c164 ex193 tx193 c194)⟩ hP hS (lv_sub hl [0, 1, 2, 3, 4, 5, 6] rfl)

-- in@5 @5
theorem v_whole_1 (k0 : Int32) (hpre_0 : 0 ≤ k0.toInt) (hpre_1 : k0.toInt < 980) : vp_in k0 980 := by
  exact vp_in_iff.mpr ⟨by omega, by omega⟩
-- in@23 @23
theorem v_whole_2 (σ : RS) (k0 : Int32) (x1 : Int32) (hpre_0 : 0 ≤ k0.toInt) (hpre_1 : k0.toInt < 980) (ex1 : x1 = (σ.2.1 51) k0.toNatClampNeg) (tx1 : x1.toInt = ((σ.2.1 51) k0.toNatClampNeg).toInt) (c2 : ¬ x1.toInt = 4) : vp_in k0 980 := by
  exact vp_in_iff.mpr ⟨by omega, by omega⟩
-- in@43 @43
theorem v_whole_3 (σ : RS) (k0 : Int32) (x1 : Int32) (x3 : Int32) (hpre_0 : 0 ≤ k0.toInt) (hpre_1 : k0.toInt < 980) (ex1 : x1 = (σ.2.1 51) k0.toNatClampNeg) (tx1 : x1.toInt = ((σ.2.1 51) k0.toNatClampNeg).toInt) (c2 : ¬ x1.toInt = 4) (ex3 : x3 = (σ.2.1 51) k0.toNatClampNeg) (tx3 : x3.toInt = ((σ.2.1 51) k0.toNatClampNeg).toInt) (c4 : ¬ x3.toInt = 3) : vp_in k0 980 := by
  exact vp_in_iff.mpr ⟨by omega, by omega⟩
-- post @45
theorem v_whole_4 (σ : RS) (hpre_2 : 0 ≤ (σ.1 56).toInt) (hpre_3 : (σ.1 56).toInt ≤ 11) : 0 ≤ (σ.1 56).toInt ∧ (σ.1 56).toInt ≤ 11 := by
  refine ⟨?_, ?_⟩ <;> first | assumption | omega | (subst_vars; omega) | trivial
-- post2 @45
theorem v_whole_5 (σ : RS) (k0 : Int32) (x1 : Int32) (x3 : Int32) (x5 : Int64) (x6 : Int32) (hpre_0 : 0 ≤ k0.toInt) (hpre_1 : k0.toInt < 980) (hpre_2 : 0 ≤ (σ.1 56).toInt) (hpre_3 : (σ.1 56).toInt ≤ 11) (ex1 : x1 = (σ.2.1 51) k0.toNatClampNeg) (tx1 : x1.toInt = ((σ.2.1 51) k0.toNatClampNeg).toInt) (c2 : ¬ x1.toInt = 4) (ex3 : x3 = (σ.2.1 51) k0.toNatClampNeg) (tx3 : x3.toInt = ((σ.2.1 51) k0.toNatClampNeg).toInt) (c4 : ¬ x3.toInt = 3) (ex5 : x5 = (σ.2.2.1 52) k0.toNatClampNeg) (tx5 : x5.toInt = ((σ.2.2.1 52) k0.toNatClampNeg).toInt) (ex6 : x6 = Int64.toInt32 x5) (tx6 : -2147483648 ≤ x5.toInt → x5.toInt < 2147483648 → x6.toInt = x5.toInt) : ∀ v9 : QV, QAT (qH (σ.2.1 36) (σ.2.1 37) (σ.2.1 38) (σ.2.1 39) (σ.2.1 40) (σ.2.1 41) (σ.2.1 42) (σ.2.1 43) (σ.2.1 44) (σ.2.1 45) (σ.2.1 46) (σ.2.1 48)) (σ.1 47).toInt ((σ.2.1 51), (σ.2.2.1 52), (σ.2.2.1 53), (σ.2.2.2)) k0.toNatClampNeg v9 → QI (qCvI v9) x6.toInt (σ.1 56).toInt (σ.1 56).toInt := by
  intro v9 h9
  exact QAT.num h9 (show ¬ ((σ.2.1 51) k0.toNatClampNeg).toInt = 3 by omega) (show ¬ ((σ.2.1 51) k0.toNatClampNeg).toInt = 4 by omega) (by rw [ex6, ex5])
-- in@33 @33
theorem v_whole_6 (σ : RS) (k0 : Int32) (x1 : Int32) (x3 : Int32) (hpre_0 : 0 ≤ k0.toInt) (hpre_1 : k0.toInt < 980) (ex1 : x1 = (σ.2.1 51) k0.toNatClampNeg) (tx1 : x1.toInt = ((σ.2.1 51) k0.toNatClampNeg).toInt) (c2 : ¬ x1.toInt = 4) (ex3 : x3 = (σ.2.1 51) k0.toNatClampNeg) (tx3 : x3.toInt = ((σ.2.1 51) k0.toNatClampNeg).toInt) (c4 : x3.toInt = 3) : vp_in k0 980 := by
  exact vp_in_iff.mpr ⟨by omega, by omega⟩
-- post2 @45
theorem v_whole_7 (σ : RS) (k0 : Int32) (x1 : Int32) (x3 : Int32) (x7 : UInt64) (x8 : Int32) (hpre_0 : 0 ≤ k0.toInt) (hpre_1 : k0.toInt < 980) (hpre_2 : 0 ≤ (σ.1 56).toInt) (hpre_3 : (σ.1 56).toInt ≤ 11) (ex1 : x1 = (σ.2.1 51) k0.toNatClampNeg) (tx1 : x1.toInt = ((σ.2.1 51) k0.toNatClampNeg).toInt) (c2 : ¬ x1.toInt = 4) (ex3 : x3 = (σ.2.1 51) k0.toNatClampNeg) (tx3 : x3.toInt = ((σ.2.1 51) k0.toNatClampNeg).toInt) (c4 : x3.toInt = 3) (ex7 : x7 = (σ.2.2.2) k0.toNatClampNeg) (ex8 : x8 = FP.d2i x7) : ∀ v9 : QV, QAT (qH (σ.2.1 36) (σ.2.1 37) (σ.2.1 38) (σ.2.1 39) (σ.2.1 40) (σ.2.1 41) (σ.2.1 42) (σ.2.1 43) (σ.2.1 44) (σ.2.1 45) (σ.2.1 46) (σ.2.1 48)) (σ.1 47).toInt ((σ.2.1 51), (σ.2.2.1 52), (σ.2.2.1 53), (σ.2.2.2)) k0.toNatClampNeg v9 → QI (qCvI v9) x8.toInt (σ.1 56).toInt (σ.1 56).toInt := by
  intro v9 h9
  obtain ⟨r, hr, rfl, e⟩ := h9.k3 (show ((σ.2.1 51) k0.toNatClampNeg).toInt = 3 by omega)
  refine ⟨?_, rfl⟩
  rw [ex8, ex7, show (σ.2.2.2) k0.toNatClampNeg = r from e]; rfl
-- pre:intOf@12 @12
theorem v_whole_8 (σ : RS) (k0 : Int32) (x1 : Int32) (hpre_0 : 0 ≤ k0.toInt) (hpre_1 : k0.toInt < 980) (hpre_2 : 0 ≤ (σ.1 56).toInt) (hpre_3 : (σ.1 56).toInt ≤ 11) (ex1 : x1 = (σ.2.1 51) k0.toNatClampNeg) (tx1 : x1.toInt = ((σ.2.1 51) k0.toNatClampNeg).toInt) (c2 : x1.toInt = 4) : 0 ≤ k0.toInt ∧ k0.toInt < 980 ∧ 0 ≤ (σ.1 56).toInt ∧ (σ.1 56).toInt ≤ 11 := by
  refine ⟨?_, ?_, ?_, ?_⟩ <;> first | assumption | omega | (subst_vars; omega) | trivial
-- post @45
theorem v_whole_9 (n10 : Int32) (hr9_0 : 0 ≤ n10.toInt) (hr9_1 : n10.toInt ≤ 11) : 0 ≤ n10.toInt ∧ n10.toInt ≤ 11 := by
  refine ⟨?_, ?_⟩ <;> first | assumption | omega | (subst_vars; omega) | trivial
-- post2 @45
theorem v_whole_10 (σ : RS) (k0 : Int32) (x1 : Int32) (n10 : Int32) (r9 : Int32) (hpre_0 : 0 ≤ k0.toInt) (hpre_1 : k0.toInt < 980) (hpre_2 : 0 ≤ (σ.1 56).toInt) (hpre_3 : (σ.1 56).toInt ≤ 11) (ex1 : x1 = (σ.2.1 51) k0.toNatClampNeg) (tx1 : x1.toInt = ((σ.2.1 51) k0.toNatClampNeg).toInt) (c2 : x1.toInt = 4) (hr9y : ∀ s9 : List Int, QTT ((σ.2.2.1 52) k0.toNatClampNeg) ((σ.2.2.1 53) k0.toNatClampNeg) s9 → QI (qToI s9) r9.toInt n10.toInt (σ.1 56).toInt) (hr9_0 : 0 ≤ n10.toInt) (hr9_1 : n10.toInt ≤ 11) : ∀ v9 : QV, QAT (qH (σ.2.1 36) (σ.2.1 37) (σ.2.1 38) (σ.2.1 39) (σ.2.1 40) (σ.2.1 41) (σ.2.1 42) (σ.2.1 43) (σ.2.1 44) (σ.2.1 45) (σ.2.1 46) (σ.2.1 48)) (σ.1 47).toInt ((σ.2.1 51), (σ.2.2.1 52), (σ.2.2.1 53), (σ.2.2.2)) k0.toNatClampNeg v9 → QI (qCvI v9) r9.toInt n10.toInt (σ.1 56).toInt := by
  intro v9 h9
  obtain ⟨s8, rfl, ht⟩ := h9.k4 (show ((σ.2.1 51) k0.toNatClampNeg).toInt = 4 by omega)
  exact hr9y s8 ht
set_option maxHeartbeats 4000000 in
set_option maxRecDepth 100000 in
theorem M_whole (l : Launch) (D : va_G) (cy : Nat → ClassId) (sz0 : Nat) (sa : Nat → Nat) (ad : Nat → Nat) (σ : RS) (sz : Nat) (k0 : Int32) (hpre : 0 ≤ k0.toInt ∧ k0.toInt < 980 ∧ 0 ≤ (σ.1 56).toInt ∧ (σ.1 56).toInt ≤ 11) : Met l yX12_whole (Cond.code yX12_whole cX12_whole 2 (some .int) :: GWm) ({ frames := 2, cells := 0, slots := 0, locals := 49 }) (PcR D cy sz0 sa ad [.ref (ad 0), .int k0] σ sz) (va_Qi (fun (r : Int32) (u : Int32) => (0 ≤ u.toInt ∧ u.toInt ≤ 11) ∧ (∀ v9 : QV, QAT (qH (σ.2.1 36) (σ.2.1 37) (σ.2.1 38) (σ.2.1 39) (σ.2.1 40) (σ.2.1 41) (σ.2.1 42) (σ.2.1 43) (σ.2.1 44) (σ.2.1 45) (σ.2.1 46) (σ.2.1 48)) (σ.1 47).toInt ((σ.2.1 51), (σ.2.2.1 52), (σ.2.2.1 53), (σ.2.2.2)) k0.toNatClampNeg v9 → QI (qCvI v9) r.toInt u.toInt (σ.1 56).toInt)) (fun (u : Int32) (t : State) => RP D cy ad (rS σ 56 u) t.heap) (AR cy ad sz)) 0 0 (AR cy ad sz) := by
  refine RM_of (loc0 := [(0, .ref (ad 0)), (1, .int k0)]) (by decide) rfl rfl (Nat.le_of_ble_eq_true rfl) ?_
  intro p e s m below meth c ls hsz C hP hS hl
  have hx := C.1
  have hb := C.2.1
  have hown := C.2.2.2.2.1
  have hw := C.2.2.2.2.2.1
  clear hsz
  obtain ⟨hpre_0, hpre_1, hpre_2, hpre_3⟩ := hpre
  refine lv_aload_n hx hb dX12_whole_0 rfl (lv_at hl 0 rfl) ?_
  refine rg_51 C hP wm_205 dX12_whole_1 ?_
  refine lv_iload_n hx hb dX12_whole_4 rfl (lv_at hl 1 rfl) ?_
  refine ra_51 (f := (σ.2.1 51)) C hP rfl (v_whole_1 k0 hpre_0 hpre_1) dX12_whole_5 (fun x1 ex1 => ?_)
  have tx1 : x1.toInt = ((σ.2.1 51) k0.toNatClampNeg).toInt := by rw [ex1]
  refine lv_iconst (v := 4) hx hb dX12_whole_6 (by decide +kernel) ?_
  refine lv_icmp_ne (tgt := 18) hx hb dX12_whole_7 (by decide) (fun c2 => ?_) (fun c2 => ?_)
  · have c2 : ¬ x1.toInt = 4 := by have h := z_ne c2; rw [show (4 : Int32).toInt = 4 from by decide +kernel] at h; exact h
    refine lv_aload_n hx hb dX12_whole_18 rfl (lv_at hl 0 rfl) ?_
    refine rg_51 C hP wm_205 dX12_whole_19 ?_
    refine lv_iload_n hx hb dX12_whole_22 rfl (lv_at hl 1 rfl) ?_
    refine ra_51 (f := (σ.2.1 51)) C hP rfl (v_whole_2 σ k0 x1 hpre_0 hpre_1 ex1 tx1 c2) dX12_whole_23 (fun x3 ex3 => ?_)
    have tx3 : x3.toInt = ((σ.2.1 51) k0.toNatClampNeg).toInt := by rw [ex3]
    refine lv_iconst (v := 3) hx hb dX12_whole_24 (by decide +kernel) ?_
    refine lv_icmp_ne (tgt := 38) hx hb dX12_whole_25 (by decide) (fun c4 => ?_) (fun c4 => ?_)
    · have c4 : ¬ x3.toInt = 3 := by have h := z_ne c4; rw [show (3 : Int32).toInt = 3 from by decide +kernel] at h; exact h
      refine lv_aload_n hx hb dX12_whole_38 rfl (lv_at hl 0 rfl) ?_
      refine rg_52 C hP wm_206 dX12_whole_39 ?_
      refine lv_iload_n hx hb dX12_whole_42 rfl (lv_at hl 1 rfl) ?_
      refine ra_52 (f := (σ.2.2.1 52)) C hP rfl (v_whole_3 σ k0 x1 x3 hpre_0 hpre_1 ex1 tx1 c2 ex3 tx3 c4) dX12_whole_43 (fun x5 ex5 => ?_)
      have tx5 : x5.toInt = ((σ.2.2.1 52) k0.toNatClampNeg).toInt := by rw [ex5]
      refine lv_l2i hx hb dX12_whole_44 rfl ?_
      refine lv_topi (fun x6 ex6 => ?_)
      have tx6 : -2147483648 ≤ x5.toInt → x5.toInt < 2147483648 → x6.toInt = x5.toInt := z_l2i ex6
      have hP : RP D cy ad (rS σ 56 (σ.1 56)) s.heap := RP.cong hP (Eq.trans (b := (σ.1 0)) rfl rfl) (Eq.trans (b := (σ.1 1)) rfl rfl) (Eq.trans (b := (σ.2.1 2)) rfl rfl) (Eq.trans (b := (σ.1 3)) rfl rfl) (Eq.trans (b := (σ.2.1 4)) rfl rfl) (Eq.trans (b := (σ.2.1 5)) rfl rfl) (Eq.trans (b := (σ.2.2.1 6)) rfl rfl) (Eq.trans (b := (σ.2.1 7)) rfl rfl) (Eq.trans (b := (σ.1 8)) rfl rfl) (Eq.trans (b := (σ.1 9)) rfl rfl) (Eq.trans (b := (σ.1 10)) rfl rfl) (Eq.trans (b := (σ.2.1 11)) rfl rfl) (Eq.trans (b := (σ.2.2.1 12)) rfl rfl) (Eq.trans (b := (σ.2.1 13)) rfl rfl) (Eq.trans (b := (σ.1 14)) rfl rfl) (Eq.trans (b := (σ.1 15)) rfl rfl) (Eq.trans (b := (σ.1 16)) rfl rfl) (Eq.trans (b := (σ.1 17)) rfl rfl) (Eq.trans (b := (σ.1 18)) rfl rfl) (Eq.trans (b := (σ.1 19)) rfl rfl) (Eq.trans (b := (σ.2.1 20)) rfl rfl) (Eq.trans (b := (σ.2.1 21)) rfl rfl) (Eq.trans (b := (σ.2.1 22)) rfl rfl) (Eq.trans (b := (σ.2.1 23)) rfl rfl) (Eq.trans (b := (σ.2.1 24)) rfl rfl) (Eq.trans (b := (σ.2.1 25)) rfl rfl) (Eq.trans (b := (σ.2.1 26)) rfl rfl) (Eq.trans (b := (σ.2.1 27)) rfl rfl) (Eq.trans (b := (σ.2.1 28)) rfl rfl) (Eq.trans (b := (σ.1 29)) rfl rfl) (Eq.trans (b := (σ.2.1 30)) rfl rfl) (Eq.trans (b := (σ.2.1 31)) rfl rfl) (Eq.trans (b := (σ.2.1 32)) rfl rfl) (Eq.trans (b := (σ.1 33)) rfl rfl) (Eq.trans (b := (σ.1 34)) rfl rfl) (Eq.trans (b := (σ.1 35)) rfl rfl) (Eq.trans (b := (σ.2.1 36)) rfl rfl) (Eq.trans (b := (σ.2.1 37)) rfl rfl) (Eq.trans (b := (σ.2.1 38)) rfl rfl) (Eq.trans (b := (σ.2.1 39)) rfl rfl) (Eq.trans (b := (σ.2.1 40)) rfl rfl) (Eq.trans (b := (σ.2.1 41)) rfl rfl) (Eq.trans (b := (σ.2.1 42)) rfl rfl) (Eq.trans (b := (σ.2.1 43)) rfl rfl) (Eq.trans (b := (σ.2.1 44)) rfl rfl) (Eq.trans (b := (σ.2.1 45)) rfl rfl) (Eq.trans (b := (σ.2.1 46)) rfl rfl) (Eq.trans (b := (σ.1 47)) rfl rfl) (Eq.trans (b := (σ.2.1 48)) rfl rfl) (Eq.trans (b := (σ.1 49)) rfl rfl) (Eq.trans (b := (σ.2.1 50)) rfl rfl) (Eq.trans (b := (σ.2.1 51)) rfl rfl) (Eq.trans (b := (σ.2.2.1 52)) rfl rfl) (Eq.trans (b := (σ.2.2.1 53)) rfl rfl) (Eq.trans (b := (σ.2.2.2)) rfl rfl) (Eq.trans (b := (σ.1 55)) rfl rfl) (Eq.trans (b := (σ.1 56)) rfl rfl) (Eq.trans (b := (σ.1 57)) rfl rfl) (Eq.trans (b := (σ.2.1 58)) rfl rfl) (Eq.trans (b := (σ.1 59)) rfl rfl)
      exact r_reti C (σ.1 56) ⟨(v_whole_4 σ hpre_2 hpre_3), (v_whole_5 σ k0 x1 x3 x5 x6 hpre_0 hpre_1 hpre_2 hpre_3 ex1 tx1 c2 ex3 tx3 c4 ex5 tx5 ex6 tx6)⟩ hP hS dX12_whole_45
    · have c4 : x3.toInt = 3 := by have h := z_eq c4; rw [show (3 : Int32).toInt = 3 from by decide +kernel] at h; exact h
      refine lv_aload_n hx hb dX12_whole_28 rfl (lv_at hl 0 rfl) ?_
      refine rg_54 C hP wm_209 dX12_whole_29 ?_
      refine lv_iload_n hx hb dX12_whole_32 rfl (lv_at hl 1 rfl) ?_
      refine ra_54 (f := (σ.2.2.2)) C hP rfl (v_whole_6 σ k0 x1 x3 hpre_0 hpre_1 ex1 tx1 c2 ex3 tx3 c4) dX12_whole_33 (fun x7 ex7 => ?_)
      refine lv_d2i hx hb dX12_whole_34 ?_
      refine lv_topi (fun x8 ex8 => ?_)
      refine lv_goto (tgt := 45) hx hb dX12_whole_35 (by decide) ?_
      have hP : RP D cy ad (rS σ 56 (σ.1 56)) s.heap := RP.cong hP (Eq.trans (b := (σ.1 0)) rfl rfl) (Eq.trans (b := (σ.1 1)) rfl rfl) (Eq.trans (b := (σ.2.1 2)) rfl rfl) (Eq.trans (b := (σ.1 3)) rfl rfl) (Eq.trans (b := (σ.2.1 4)) rfl rfl) (Eq.trans (b := (σ.2.1 5)) rfl rfl) (Eq.trans (b := (σ.2.2.1 6)) rfl rfl) (Eq.trans (b := (σ.2.1 7)) rfl rfl) (Eq.trans (b := (σ.1 8)) rfl rfl) (Eq.trans (b := (σ.1 9)) rfl rfl) (Eq.trans (b := (σ.1 10)) rfl rfl) (Eq.trans (b := (σ.2.1 11)) rfl rfl) (Eq.trans (b := (σ.2.2.1 12)) rfl rfl) (Eq.trans (b := (σ.2.1 13)) rfl rfl) (Eq.trans (b := (σ.1 14)) rfl rfl) (Eq.trans (b := (σ.1 15)) rfl rfl) (Eq.trans (b := (σ.1 16)) rfl rfl) (Eq.trans (b := (σ.1 17)) rfl rfl) (Eq.trans (b := (σ.1 18)) rfl rfl) (Eq.trans (b := (σ.1 19)) rfl rfl) (Eq.trans (b := (σ.2.1 20)) rfl rfl) (Eq.trans (b := (σ.2.1 21)) rfl rfl) (Eq.trans (b := (σ.2.1 22)) rfl rfl) (Eq.trans (b := (σ.2.1 23)) rfl rfl) (Eq.trans (b := (σ.2.1 24)) rfl rfl) (Eq.trans (b := (σ.2.1 25)) rfl rfl) (Eq.trans (b := (σ.2.1 26)) rfl rfl) (Eq.trans (b := (σ.2.1 27)) rfl rfl) (Eq.trans (b := (σ.2.1 28)) rfl rfl) (Eq.trans (b := (σ.1 29)) rfl rfl) (Eq.trans (b := (σ.2.1 30)) rfl rfl) (Eq.trans (b := (σ.2.1 31)) rfl rfl) (Eq.trans (b := (σ.2.1 32)) rfl rfl) (Eq.trans (b := (σ.1 33)) rfl rfl) (Eq.trans (b := (σ.1 34)) rfl rfl) (Eq.trans (b := (σ.1 35)) rfl rfl) (Eq.trans (b := (σ.2.1 36)) rfl rfl) (Eq.trans (b := (σ.2.1 37)) rfl rfl) (Eq.trans (b := (σ.2.1 38)) rfl rfl) (Eq.trans (b := (σ.2.1 39)) rfl rfl) (Eq.trans (b := (σ.2.1 40)) rfl rfl) (Eq.trans (b := (σ.2.1 41)) rfl rfl) (Eq.trans (b := (σ.2.1 42)) rfl rfl) (Eq.trans (b := (σ.2.1 43)) rfl rfl) (Eq.trans (b := (σ.2.1 44)) rfl rfl) (Eq.trans (b := (σ.2.1 45)) rfl rfl) (Eq.trans (b := (σ.2.1 46)) rfl rfl) (Eq.trans (b := (σ.1 47)) rfl rfl) (Eq.trans (b := (σ.2.1 48)) rfl rfl) (Eq.trans (b := (σ.1 49)) rfl rfl) (Eq.trans (b := (σ.2.1 50)) rfl rfl) (Eq.trans (b := (σ.2.1 51)) rfl rfl) (Eq.trans (b := (σ.2.2.1 52)) rfl rfl) (Eq.trans (b := (σ.2.2.1 53)) rfl rfl) (Eq.trans (b := (σ.2.2.2)) rfl rfl) (Eq.trans (b := (σ.1 55)) rfl rfl) (Eq.trans (b := (σ.1 56)) rfl rfl) (Eq.trans (b := (σ.1 57)) rfl rfl) (Eq.trans (b := (σ.2.1 58)) rfl rfl) (Eq.trans (b := (σ.1 59)) rfl rfl)
      exact r_reti C (σ.1 56) ⟨(v_whole_4 σ hpre_2 hpre_3), (v_whole_7 σ k0 x1 x3 x7 x8 hpre_0 hpre_1 hpre_2 hpre_3 ex1 tx1 c2 ex3 tx3 c4 ex7 ex8)⟩ hP hS dX12_whole_45
  · have c2 : x1.toInt = 4 := by have h := z_eq c2; rw [show (4 : Int32).toInt = 4 from by decide +kernel] at h; exact h
    refine lv_aload_n hx hb dX12_whole_10 rfl (lv_at hl 0 rfl) ?_
    refine lv_iload_n hx hb dX12_whole_11 rfl (lv_at hl 1 rfl) ?_
    refine r_callVi (As := [.int k0]) (rest := []) C hP hS hl.1 ⟨Nat.zero_le _, Nat.zero_le _⟩ (M_intOf l D cy sz0 sa ad σ s.heap.size k0 (v_whole_8 σ k0 x1 hpre_0 hpre_1 hpre_2 hpre_3 ex1 tx1 c2)) (n := 1) ⟨wm_244, wm_241, by decide +kernel⟩ ⟨wm_245, wm_246, wm_10⟩ rfl rfl (lv_room (Nat.le_of_ble_eq_true rfl)) ⟨Nat.le_of_ble_eq_true rfl, Nat.le_of_ble_eq_true rfl⟩ dX12_whole_12 (fun r9 u H locs hr9 hP hS => ?_)
    obtain ⟨n10, rfl⟩ : ∃ z, z = u := ⟨_, rfl⟩
    obtain ⟨hr9, hr9y⟩ := hr9
    have hr9y : ∀ s9 : List Int, QTT ((σ.2.2.1 52) k0.toNatClampNeg) ((σ.2.2.1 53) k0.toNatClampNeg) s9 → QI (qToI s9) r9.toInt n10.toInt (σ.1 56).toInt := hr9y
    have hr9 : 0 ≤ n10.toInt ∧ n10.toInt ≤ 11 := hr9
    obtain ⟨hr9_0, hr9_1⟩ := hr9
    have hP : RP D cy ad (rS σ 56 n10) H := hP
    refine lv_goto (tgt := 45) hx hb dX12_whole_15 (by decide) ?_
    exact r_reti C n10 ⟨(v_whole_9 n10 hr9_0 hr9_1), (v_whole_10 σ k0 x1 n10 r9 hpre_0 hpre_1 hpre_2 hpre_3 ex1 tx1 c2 hr9y hr9_0 hr9_1)⟩ hP hS dX12_whole_45
