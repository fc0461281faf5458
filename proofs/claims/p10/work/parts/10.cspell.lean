-- in@5 @5
theorem v_spell_1 (k0 : Int32) (hpre_0 : 0 ≤ k0.toInt) (hpre_1 : k0.toInt < 980) : vp_in k0 980 := by
  exact vp_in_iff.mpr ⟨by omega, by omega⟩
-- in@45 @45
theorem v_spell_2 (σ : RS) (k0 : Int32) (x1 : Int32) (hpre_0 : 0 ≤ k0.toInt) (hpre_1 : k0.toInt < 980) (ex1 : x1 = (σ.2.1 51) k0.toNatClampNeg) (tx1 : x1.toInt = ((σ.2.1 51) k0.toNatClampNeg).toInt) (c2 : ¬ x1.toInt = 4) : vp_in k0 980 := by
  exact vp_in_iff.mpr ⟨by omega, by omega⟩
-- in@69 @69
theorem v_spell_3 (σ : RS) (k0 : Int32) (x1 : Int32) (x3 : Int32) (hpre_0 : 0 ≤ k0.toInt) (hpre_1 : k0.toInt < 980) (ex1 : x1 = (σ.2.1 51) k0.toNatClampNeg) (tx1 : x1.toInt = ((σ.2.1 51) k0.toNatClampNeg).toInt) (c2 : ¬ x1.toInt = 4) (ex3 : x3 = (σ.2.1 51) k0.toNatClampNeg) (tx3 : x3.toInt = ((σ.2.1 51) k0.toNatClampNeg).toInt) (c4 : ¬ x3.toInt = 2) : vp_in k0 980 := by
  exact vp_in_iff.mpr ⟨by omega, by omega⟩
-- in@93 @93
theorem v_spell_4 (σ : RS) (k0 : Int32) (x1 : Int32) (x3 : Int32) (x5 : Int32) (hpre_0 : 0 ≤ k0.toInt) (hpre_1 : k0.toInt < 980) (ex1 : x1 = (σ.2.1 51) k0.toNatClampNeg) (tx1 : x1.toInt = ((σ.2.1 51) k0.toNatClampNeg).toInt) (c2 : ¬ x1.toInt = 4) (ex3 : x3 = (σ.2.1 51) k0.toNatClampNeg) (tx3 : x3.toInt = ((σ.2.1 51) k0.toNatClampNeg).toInt) (c4 : ¬ x3.toInt = 2) (ex5 : x5 = (σ.2.1 51) k0.toNatClampNeg) (tx5 : x5.toInt = ((σ.2.1 51) k0.toNatClampNeg).toInt) (c6 : ¬ x5.toInt = 3) : vp_in k0 980 := by
  exact vp_in_iff.mpr ⟨by omega, by omega⟩
-- in@130 @130
theorem v_spell_5 (σ : RS) (k0 : Int32) (x1 : Int32) (x3 : Int32) (x5 : Int32) (x7 : Int32) (hpre_0 : 0 ≤ k0.toInt) (hpre_1 : k0.toInt < 980) (ex1 : x1 = (σ.2.1 51) k0.toNatClampNeg) (tx1 : x1.toInt = ((σ.2.1 51) k0.toNatClampNeg).toInt) (c2 : ¬ x1.toInt = 4) (ex3 : x3 = (σ.2.1 51) k0.toNatClampNeg) (tx3 : x3.toInt = ((σ.2.1 51) k0.toNatClampNeg).toInt) (c4 : ¬ x3.toInt = 2) (ex5 : x5 = (σ.2.1 51) k0.toNatClampNeg) (tx5 : x5.toInt = ((σ.2.1 51) k0.toNatClampNeg).toInt) (c6 : ¬ x5.toInt = 3) (ex7 : x7 = (σ.2.1 51) k0.toNatClampNeg) (tx7 : x7.toInt = ((σ.2.1 51) k0.toNatClampNeg).toInt) (c8 : ¬ x7.toInt = 1) : vp_in k0 980 := by
  exact vp_in_iff.mpr ⟨by omega, by omega⟩
-- in@157 @157
theorem v_spell_6 (σ : RS) (k0 : Int32) (x1 : Int32) (x3 : Int32) (x5 : Int32) (x7 : Int32) (x9 : Int32) (hpre_0 : 0 ≤ k0.toInt) (hpre_1 : k0.toInt < 980) (ex1 : x1 = (σ.2.1 51) k0.toNatClampNeg) (tx1 : x1.toInt = ((σ.2.1 51) k0.toNatClampNeg).toInt) (c2 : ¬ x1.toInt = 4) (ex3 : x3 = (σ.2.1 51) k0.toNatClampNeg) (tx3 : x3.toInt = ((σ.2.1 51) k0.toNatClampNeg).toInt) (c4 : ¬ x3.toInt = 2) (ex5 : x5 = (σ.2.1 51) k0.toNatClampNeg) (tx5 : x5.toInt = ((σ.2.1 51) k0.toNatClampNeg).toInt) (c6 : ¬ x5.toInt = 3) (ex7 : x7 = (σ.2.1 51) k0.toNatClampNeg) (tx7 : x7.toInt = ((σ.2.1 51) k0.toNatClampNeg).toInt) (c8 : ¬ x7.toInt = 1) (ex9 : x9 = (σ.2.1 51) k0.toNatClampNeg) (tx9 : x9.toInt = ((σ.2.1 51) k0.toNatClampNeg).toInt) (c10 : ¬ x9.toInt = 1) : vp_in k0 980 := by
  exact vp_in_iff.mpr ⟨by omega, by omega⟩
-- pre:build@180 @180
theorem v_spell_7 (σ : RS) (hpre_2 : 0 ≤ (σ.1 59).toInt) (hpre_3 : (σ.1 59).toInt ≤ 48) : 0 ≤ (σ.1 59).toInt ∧ (σ.1 59).toInt ≤ 48 := by
  refine ⟨?_, ?_⟩ <;> first | assumption | omega | (subst_vars; omega) | trivial
-- in@189 @189
theorem v_spell_8 (σ : RS) (k0 : Int32) (x1 : Int32) (x3 : Int32) (x5 : Int32) (x7 : Int32) (x9 : Int32) (x11 : Int32) (hpre_0 : 0 ≤ k0.toInt) (hpre_1 : k0.toInt < 980) (ex1 : x1 = (σ.2.1 51) k0.toNatClampNeg) (tx1 : x1.toInt = ((σ.2.1 51) k0.toNatClampNeg).toInt) (c2 : ¬ x1.toInt = 4) (ex3 : x3 = (σ.2.1 51) k0.toNatClampNeg) (tx3 : x3.toInt = ((σ.2.1 51) k0.toNatClampNeg).toInt) (c4 : ¬ x3.toInt = 2) (ex5 : x5 = (σ.2.1 51) k0.toNatClampNeg) (tx5 : x5.toInt = ((σ.2.1 51) k0.toNatClampNeg).toInt) (c6 : ¬ x5.toInt = 3) (ex7 : x7 = (σ.2.1 51) k0.toNatClampNeg) (tx7 : x7.toInt = ((σ.2.1 51) k0.toNatClampNeg).toInt) (c8 : ¬ x7.toInt = 1) (ex9 : x9 = (σ.2.1 51) k0.toNatClampNeg) (tx9 : x9.toInt = ((σ.2.1 51) k0.toNatClampNeg).toInt) (c10 : ¬ x9.toInt = 1) (ex11 : x11 = (σ.2.1 51) k0.toNatClampNeg) (tx11 : x11.toInt = ((σ.2.1 51) k0.toNatClampNeg).toInt) (c12 : ¬ x11.toInt = 0) : vp_in k0 980 := by
  exact vp_in_iff.mpr ⟨by omega, by omega⟩
-- pre:buildNumber@191 @191
theorem v_spell_9 (n15 : Int32) (hr13_0 : 0 ≤ n15.toInt) (hr13_1 : n15.toInt ≤ 48) : 0 ≤ n15.toInt ∧ n15.toInt ≤ 48 := by
  refine ⟨?_, ?_⟩ <;> first | assumption | omega | (subst_vars; omega) | trivial
-- post @194
theorem v_spell_10 (n20 : Int32) (hr18_0 : 0 ≤ n20.toInt) (hr18_1 : n20.toInt ≤ 48) : 0 ≤ n20.toInt ∧ n20.toInt ≤ 48 := by
  refine ⟨?_, ?_⟩ <;> first | assumption | omega | (subst_vars; omega) | trivial
-- post2 @194
theorem v_spell_11 (σ : RS) (k0 : Int32) (x1 : Int32) (x3 : Int32) (x5 : Int32) (x7 : Int32) (x9 : Int32) (x11 : Int32) (F14 : (Nat → Int32)) (n15 : Int32) (x16 : Int64) (x17 : Int32) (F19 : (Nat → Int32)) (n20 : Int32) (hpre_0 : 0 ≤ k0.toInt) (hpre_1 : k0.toInt < 980) (hpre_2 : 0 ≤ (σ.1 59).toInt) (hpre_3 : (σ.1 59).toInt ≤ 48) (ex1 : x1 = (σ.2.1 51) k0.toNatClampNeg) (tx1 : x1.toInt = ((σ.2.1 51) k0.toNatClampNeg).toInt) (c2 : ¬ x1.toInt = 4) (ex3 : x3 = (σ.2.1 51) k0.toNatClampNeg) (tx3 : x3.toInt = ((σ.2.1 51) k0.toNatClampNeg).toInt) (c4 : ¬ x3.toInt = 2) (ex5 : x5 = (σ.2.1 51) k0.toNatClampNeg) (tx5 : x5.toInt = ((σ.2.1 51) k0.toNatClampNeg).toInt) (c6 : ¬ x5.toInt = 3) (ex7 : x7 = (σ.2.1 51) k0.toNatClampNeg) (tx7 : x7.toInt = ((σ.2.1 51) k0.toNatClampNeg).toInt) (c8 : ¬ x7.toInt = 1) (ex9 : x9 = (σ.2.1 51) k0.toNatClampNeg) (tx9 : x9.toInt = ((σ.2.1 51) k0.toNatClampNeg).toInt) (c10 : ¬ x9.toInt = 1) (ex11 : x11 = (σ.2.1 51) k0.toNatClampNeg) (tx11 : x11.toInt = ((σ.2.1 51) k0.toNatClampNeg).toInt) (c12 : ¬ x11.toInt = 0) (hr13y : ∀ s9 : List Int, QB (σ.2.1 58) (σ.1 59) s9 → s9.length < 48 → QB F14 n15 (s9 ++ [(111 : Int32).toInt])) (hr13_0 : 0 ≤ n15.toInt) (hr13_1 : n15.toInt ≤ 48) (ex16 : x16 = (σ.2.2.1 52) k0.toNatClampNeg) (tx16 : x16.toInt = ((σ.2.2.1 52) k0.toNatClampNeg).toInt) (ex17 : x17 = Int64.toInt32 x16) (tx17 : -2147483648 ≤ x16.toInt → x16.toInt < 2147483648 → x17.toInt = x16.toInt) (hr18y : ∀ s9 : List Int, QB F14 n15 s9 → s9.length ≤ 36 → QB F19 n20 (s9 ++ qDec x17.toInt)) (hr18_0 : 0 ≤ n20.toInt) (hr18_1 : n20.toInt ≤ 48) : ∀ (v9 : QV) (s9 : List Int), QAT (qH (σ.2.1 36) (σ.2.1 37) (σ.2.1 38) (σ.2.1 39) (σ.2.1 40) (σ.2.1 41) (σ.2.1 42) (σ.2.1 43) (σ.2.1 44) (σ.2.1 45) (σ.2.1 46) (σ.2.1 48)) (σ.1 47).toInt ((σ.2.1 51), (σ.2.2.1 52), (σ.2.2.1 53), (σ.2.2.2)) k0.toNatClampNeg v9 → QB (σ.2.1 58) (σ.1 59) s9 → s9.length ≤ 20 → QB F19 n20 (s9 ++ qSpl v9) := by
  have q111 : (111 : Int32).toInt = 111 := by decide +kernel
  intro v9 s9 h9 hb hl
  obtain ⟨o, o1, o2, o3, rfl, o5⟩ := h9.k8 (show 8 ≤ ((σ.2.1 51) k0.toNatClampNeg).toInt by have z := h9.ok.kd; have y := h9.kd; dsimp only at y; omega)
  dsimp only at o5
  have ov := hpre_0
  have e := tx17 (by omega) (by omega)
  have a := hr13y s9 hb (by omega)
  have b := hr18y _ a (by simp only [List.length_append, List.length_cons, List.length_nil]; omega)
  rw [qSpl_o o2]
  rw [show (111 : Int32).toInt = 111 by decide +kernel, List.append_assoc, e, ex16, o5] at b
  exact b
-- post @194
theorem v_spell_12 (n23 : Int32) (hr21_0 : 0 ≤ n23.toInt) (hr21_1 : n23.toInt ≤ 48) : 0 ≤ n23.toInt ∧ n23.toInt ≤ 48 := by
  refine ⟨?_, ?_⟩ <;> first | assumption | omega | (subst_vars; omega) | trivial
-- post2 @194
theorem v_spell_13 (σ : RS) (k0 : Int32) (x1 : Int32) (x3 : Int32) (x5 : Int32) (x7 : Int32) (x9 : Int32) (x11 : Int32) (F22 : (Nat → Int32)) (n23 : Int32) (hpre_0 : 0 ≤ k0.toInt) (hpre_1 : k0.toInt < 980) (hpre_2 : 0 ≤ (σ.1 59).toInt) (hpre_3 : (σ.1 59).toInt ≤ 48) (ex1 : x1 = (σ.2.1 51) k0.toNatClampNeg) (tx1 : x1.toInt = ((σ.2.1 51) k0.toNatClampNeg).toInt) (c2 : ¬ x1.toInt = 4) (ex3 : x3 = (σ.2.1 51) k0.toNatClampNeg) (tx3 : x3.toInt = ((σ.2.1 51) k0.toNatClampNeg).toInt) (c4 : ¬ x3.toInt = 2) (ex5 : x5 = (σ.2.1 51) k0.toNatClampNeg) (tx5 : x5.toInt = ((σ.2.1 51) k0.toNatClampNeg).toInt) (c6 : ¬ x5.toInt = 3) (ex7 : x7 = (σ.2.1 51) k0.toNatClampNeg) (tx7 : x7.toInt = ((σ.2.1 51) k0.toNatClampNeg).toInt) (c8 : ¬ x7.toInt = 1) (ex9 : x9 = (σ.2.1 51) k0.toNatClampNeg) (tx9 : x9.toInt = ((σ.2.1 51) k0.toNatClampNeg).toInt) (c10 : ¬ x9.toInt = 1) (ex11 : x11 = (σ.2.1 51) k0.toNatClampNeg) (tx11 : x11.toInt = ((σ.2.1 51) k0.toNatClampNeg).toInt) (c12 : x11.toInt = 0) (hr21y : ∀ s9 : List Int, QB (σ.2.1 58) (σ.1 59) s9 → s9.length ≤ 36 → QB F22 n23 (s9 ++ ([(110 : Int32).toInt, (117 : Int32).toInt, (108 : Int32).toInt, (108 : Int32).toInt] ++ if 0 < (0 : Int32).toInt then [(0 : Int32).toInt] else []))) (hr21_0 : 0 ≤ n23.toInt) (hr21_1 : n23.toInt ≤ 48) : ∀ (v9 : QV) (s9 : List Int), QAT (qH (σ.2.1 36) (σ.2.1 37) (σ.2.1 38) (σ.2.1 39) (σ.2.1 40) (σ.2.1 41) (σ.2.1 42) (σ.2.1 43) (σ.2.1 44) (σ.2.1 45) (σ.2.1 46) (σ.2.1 48)) (σ.1 47).toInt ((σ.2.1 51), (σ.2.2.1 52), (σ.2.2.1 53), (σ.2.2.2)) k0.toNatClampNeg v9 → QB (σ.2.1 58) (σ.1 59) s9 → s9.length ≤ 20 → QB F22 n23 (s9 ++ qSpl v9) := by
  have q0 : (0 : Int32).toInt = 0 := by decide +kernel
  have q108 : (108 : Int32).toInt = 108 := by decide +kernel
  have q110 : (110 : Int32).toInt = 110 := by decide +kernel
  have q117 : (117 : Int32).toInt = 117 := by decide +kernel
  intro v9 s9 h9 hb hl
  obtain ⟨rfl, _⟩ := h9.k0 (show ((σ.2.1 51) k0.toNatClampNeg).toInt = 0 by omega)
  have b := hr21y s9 hb (by omega)
  rw [show (0 : Int32).toInt = 0 by decide +kernel] at b
  rw [show (108 : Int32).toInt = 108 by decide +kernel] at b
  rw [show (110 : Int32).toInt = 110 by decide +kernel] at b
  rw [show (117 : Int32).toInt = 117 by decide +kernel] at b
  rw [if_neg (by decide), List.append_nil] at b
  exact b
-- post @194
theorem v_spell_14 (n26 : Int32) (hr24_0 : 0 ≤ n26.toInt) (hr24_1 : n26.toInt ≤ 48) : 0 ≤ n26.toInt ∧ n26.toInt ≤ 48 := by
  refine ⟨?_, ?_⟩ <;> first | assumption | omega | (subst_vars; omega) | trivial
-- post2 @194
theorem v_spell_15 (σ : RS) (k0 : Int32) (x1 : Int32) (x3 : Int32) (x5 : Int32) (x7 : Int32) (x9 : Int32) (F25 : (Nat → Int32)) (n26 : Int32) (hpre_0 : 0 ≤ k0.toInt) (hpre_1 : k0.toInt < 980) (hpre_2 : 0 ≤ (σ.1 59).toInt) (hpre_3 : (σ.1 59).toInt ≤ 48) (ex1 : x1 = (σ.2.1 51) k0.toNatClampNeg) (tx1 : x1.toInt = ((σ.2.1 51) k0.toNatClampNeg).toInt) (c2 : ¬ x1.toInt = 4) (ex3 : x3 = (σ.2.1 51) k0.toNatClampNeg) (tx3 : x3.toInt = ((σ.2.1 51) k0.toNatClampNeg).toInt) (c4 : ¬ x3.toInt = 2) (ex5 : x5 = (σ.2.1 51) k0.toNatClampNeg) (tx5 : x5.toInt = ((σ.2.1 51) k0.toNatClampNeg).toInt) (c6 : ¬ x5.toInt = 3) (ex7 : x7 = (σ.2.1 51) k0.toNatClampNeg) (tx7 : x7.toInt = ((σ.2.1 51) k0.toNatClampNeg).toInt) (c8 : ¬ x7.toInt = 1) (ex9 : x9 = (σ.2.1 51) k0.toNatClampNeg) (tx9 : x9.toInt = ((σ.2.1 51) k0.toNatClampNeg).toInt) (c10 : x9.toInt = 1) (hr24y : ∀ s9 : List Int, QB (σ.2.1 58) (σ.1 59) s9 → s9.length ≤ 36 → QB F25 n26 (s9 ++ ([(102 : Int32).toInt, (97 : Int32).toInt, (108 : Int32).toInt, (115 : Int32).toInt] ++ if 0 < (101 : Int32).toInt then [(101 : Int32).toInt] else []))) (hr24_0 : 0 ≤ n26.toInt) (hr24_1 : n26.toInt ≤ 48) : ∀ (v9 : QV) (s9 : List Int), QAT (qH (σ.2.1 36) (σ.2.1 37) (σ.2.1 38) (σ.2.1 39) (σ.2.1 40) (σ.2.1 41) (σ.2.1 42) (σ.2.1 43) (σ.2.1 44) (σ.2.1 45) (σ.2.1 46) (σ.2.1 48)) (σ.1 47).toInt ((σ.2.1 51), (σ.2.2.1 52), (σ.2.2.1 53), (σ.2.2.2)) k0.toNatClampNeg v9 → QB (σ.2.1 58) (σ.1 59) s9 → s9.length ≤ 20 → QB F25 n26 (s9 ++ qSpl v9) := by
  have q97 : (97 : Int32).toInt = 97 := by decide +kernel
  have q101 : (101 : Int32).toInt = 101 := by decide +kernel
  have q102 : (102 : Int32).toInt = 102 := by decide +kernel
  have q108 : (108 : Int32).toInt = 108 := by decide +kernel
  have q115 : (115 : Int32).toInt = 115 := by decide +kernel
  exfalso; omega
-- in@103 @103
theorem v_spell_16 (σ : RS) (k0 : Int32) (x1 : Int32) (x3 : Int32) (x5 : Int32) (x7 : Int32) (hpre_0 : 0 ≤ k0.toInt) (hpre_1 : k0.toInt < 980) (ex1 : x1 = (σ.2.1 51) k0.toNatClampNeg) (tx1 : x1.toInt = ((σ.2.1 51) k0.toNatClampNeg).toInt) (c2 : ¬ x1.toInt = 4) (ex3 : x3 = (σ.2.1 51) k0.toNatClampNeg) (tx3 : x3.toInt = ((σ.2.1 51) k0.toNatClampNeg).toInt) (c4 : ¬ x3.toInt = 2) (ex5 : x5 = (σ.2.1 51) k0.toNatClampNeg) (tx5 : x5.toInt = ((σ.2.1 51) k0.toNatClampNeg).toInt) (c6 : ¬ x5.toInt = 3) (ex7 : x7 = (σ.2.1 51) k0.toNatClampNeg) (tx7 : x7.toInt = ((σ.2.1 51) k0.toNatClampNeg).toInt) (c8 : x7.toInt = 1) : vp_in k0 980 := by
  exact vp_in_iff.mpr ⟨by omega, by omega⟩
-- in@130 @130
theorem v_spell_17 (σ : RS) (k0 : Int32) (x1 : Int32) (x3 : Int32) (x5 : Int32) (x7 : Int32) (x27 : Int64) (x28 : Int32) (hpre_0 : 0 ≤ k0.toInt) (hpre_1 : k0.toInt < 980) (ex1 : x1 = (σ.2.1 51) k0.toNatClampNeg) (tx1 : x1.toInt = ((σ.2.1 51) k0.toNatClampNeg).toInt) (c2 : ¬ x1.toInt = 4) (ex3 : x3 = (σ.2.1 51) k0.toNatClampNeg) (tx3 : x3.toInt = ((σ.2.1 51) k0.toNatClampNeg).toInt) (c4 : ¬ x3.toInt = 2) (ex5 : x5 = (σ.2.1 51) k0.toNatClampNeg) (tx5 : x5.toInt = ((σ.2.1 51) k0.toNatClampNeg).toInt) (c6 : ¬ x5.toInt = 3) (ex7 : x7 = (σ.2.1 51) k0.toNatClampNeg) (tx7 : x7.toInt = ((σ.2.1 51) k0.toNatClampNeg).toInt) (c8 : x7.toInt = 1) (ex27 : x27 = (σ.2.2.1 52) k0.toNatClampNeg) (tx27 : x27.toInt = ((σ.2.2.1 52) k0.toNatClampNeg).toInt) (tx28 : (x28.toInt = 0 ↔ x27.toInt = 1) ∧ (x28.toInt < 0 ↔ x27.toInt < 1)) (c29 : ¬ x28.toInt = 0) : vp_in k0 980 := by
  exact vp_in_iff.mpr ⟨by omega, by omega⟩
-- in@157 @157
theorem v_spell_18 (σ : RS) (k0 : Int32) (x1 : Int32) (x3 : Int32) (x5 : Int32) (x7 : Int32) (x27 : Int64) (x28 : Int32) (x30 : Int32) (hpre_0 : 0 ≤ k0.toInt) (hpre_1 : k0.toInt < 980) (ex1 : x1 = (σ.2.1 51) k0.toNatClampNeg) (tx1 : x1.toInt = ((σ.2.1 51) k0.toNatClampNeg).toInt) (c2 : ¬ x1.toInt = 4) (ex3 : x3 = (σ.2.1 51) k0.toNatClampNeg) (tx3 : x3.toInt = ((σ.2.1 51) k0.toNatClampNeg).toInt) (c4 : ¬ x3.toInt = 2) (ex5 : x5 = (σ.2.1 51) k0.toNatClampNeg) (tx5 : x5.toInt = ((σ.2.1 51) k0.toNatClampNeg).toInt) (c6 : ¬ x5.toInt = 3) (ex7 : x7 = (σ.2.1 51) k0.toNatClampNeg) (tx7 : x7.toInt = ((σ.2.1 51) k0.toNatClampNeg).toInt) (c8 : x7.toInt = 1) (ex27 : x27 = (σ.2.2.1 52) k0.toNatClampNeg) (tx27 : x27.toInt = ((σ.2.2.1 52) k0.toNatClampNeg).toInt) (tx28 : (x28.toInt = 0 ↔ x27.toInt = 1) ∧ (x28.toInt < 0 ↔ x27.toInt < 1)) (c29 : ¬ x28.toInt = 0) (ex30 : x30 = (σ.2.1 51) k0.toNatClampNeg) (tx30 : x30.toInt = ((σ.2.1 51) k0.toNatClampNeg).toInt) (c31 : ¬ x30.toInt = 1) : vp_in k0 980 := by
  exact vp_in_iff.mpr ⟨by omega, by omega⟩
-- in@189 @189
theorem v_spell_19 (σ : RS) (k0 : Int32) (x1 : Int32) (x3 : Int32) (x5 : Int32) (x7 : Int32) (x27 : Int64) (x28 : Int32) (x30 : Int32) (x32 : Int32) (hpre_0 : 0 ≤ k0.toInt) (hpre_1 : k0.toInt < 980) (ex1 : x1 = (σ.2.1 51) k0.toNatClampNeg) (tx1 : x1.toInt = ((σ.2.1 51) k0.toNatClampNeg).toInt) (c2 : ¬ x1.toInt = 4) (ex3 : x3 = (σ.2.1 51) k0.toNatClampNeg) (tx3 : x3.toInt = ((σ.2.1 51) k0.toNatClampNeg).toInt) (c4 : ¬ x3.toInt = 2) (ex5 : x5 = (σ.2.1 51) k0.toNatClampNeg) (tx5 : x5.toInt = ((σ.2.1 51) k0.toNatClampNeg).toInt) (c6 : ¬ x5.toInt = 3) (ex7 : x7 = (σ.2.1 51) k0.toNatClampNeg) (tx7 : x7.toInt = ((σ.2.1 51) k0.toNatClampNeg).toInt) (c8 : x7.toInt = 1) (ex27 : x27 = (σ.2.2.1 52) k0.toNatClampNeg) (tx27 : x27.toInt = ((σ.2.2.1 52) k0.toNatClampNeg).toInt) (tx28 : (x28.toInt = 0 ↔ x27.toInt = 1) ∧ (x28.toInt < 0 ↔ x27.toInt < 1)) (c29 : ¬ x28.toInt = 0) (ex30 : x30 = (σ.2.1 51) k0.toNatClampNeg) (tx30 : x30.toInt = ((σ.2.1 51) k0.toNatClampNeg).toInt) (c31 : ¬ x30.toInt = 1) (ex32 : x32 = (σ.2.1 51) k0.toNatClampNeg) (tx32 : x32.toInt = ((σ.2.1 51) k0.toNatClampNeg).toInt) (c33 : ¬ x32.toInt = 0) : vp_in k0 980 := by
  exact vp_in_iff.mpr ⟨by omega, by omega⟩
-- pre:buildNumber@191 @191
theorem v_spell_20 (n36 : Int32) (hr34_0 : 0 ≤ n36.toInt) (hr34_1 : n36.toInt ≤ 48) : 0 ≤ n36.toInt ∧ n36.toInt ≤ 48 := by
  refine ⟨?_, ?_⟩ <;> first | assumption | omega | (subst_vars; omega) | trivial
-- post @194
theorem v_spell_21 (n41 : Int32) (hr39_0 : 0 ≤ n41.toInt) (hr39_1 : n41.toInt ≤ 48) : 0 ≤ n41.toInt ∧ n41.toInt ≤ 48 := by
  refine ⟨?_, ?_⟩ <;> first | assumption | omega | (subst_vars; omega) | trivial
-- post2 @194
theorem v_spell_22 (σ : RS) (k0 : Int32) (x1 : Int32) (x3 : Int32) (x5 : Int32) (x7 : Int32) (x27 : Int64) (x28 : Int32) (x30 : Int32) (x32 : Int32) (F35 : (Nat → Int32)) (n36 : Int32) (x37 : Int64) (x38 : Int32) (F40 : (Nat → Int32)) (n41 : Int32) (hpre_0 : 0 ≤ k0.toInt) (hpre_1 : k0.toInt < 980) (hpre_2 : 0 ≤ (σ.1 59).toInt) (hpre_3 : (σ.1 59).toInt ≤ 48) (ex1 : x1 = (σ.2.1 51) k0.toNatClampNeg) (tx1 : x1.toInt = ((σ.2.1 51) k0.toNatClampNeg).toInt) (c2 : ¬ x1.toInt = 4) (ex3 : x3 = (σ.2.1 51) k0.toNatClampNeg) (tx3 : x3.toInt = ((σ.2.1 51) k0.toNatClampNeg).toInt) (c4 : ¬ x3.toInt = 2) (ex5 : x5 = (σ.2.1 51) k0.toNatClampNeg) (tx5 : x5.toInt = ((σ.2.1 51) k0.toNatClampNeg).toInt) (c6 : ¬ x5.toInt = 3) (ex7 : x7 = (σ.2.1 51) k0.toNatClampNeg) (tx7 : x7.toInt = ((σ.2.1 51) k0.toNatClampNeg).toInt) (c8 : x7.toInt = 1) (ex27 : x27 = (σ.2.2.1 52) k0.toNatClampNeg) (tx27 : x27.toInt = ((σ.2.2.1 52) k0.toNatClampNeg).toInt) (tx28 : (x28.toInt = 0 ↔ x27.toInt = 1) ∧ (x28.toInt < 0 ↔ x27.toInt < 1)) (c29 : ¬ x28.toInt = 0) (ex30 : x30 = (σ.2.1 51) k0.toNatClampNeg) (tx30 : x30.toInt = ((σ.2.1 51) k0.toNatClampNeg).toInt) (c31 : ¬ x30.toInt = 1) (ex32 : x32 = (σ.2.1 51) k0.toNatClampNeg) (tx32 : x32.toInt = ((σ.2.1 51) k0.toNatClampNeg).toInt) (c33 : ¬ x32.toInt = 0) (hr34y : ∀ s9 : List Int, QB (σ.2.1 58) (σ.1 59) s9 → s9.length < 48 → QB F35 n36 (s9 ++ [(111 : Int32).toInt])) (hr34_0 : 0 ≤ n36.toInt) (hr34_1 : n36.toInt ≤ 48) (ex37 : x37 = (σ.2.2.1 52) k0.toNatClampNeg) (tx37 : x37.toInt = ((σ.2.2.1 52) k0.toNatClampNeg).toInt) (ex38 : x38 = Int64.toInt32 x37) (tx38 : -2147483648 ≤ x37.toInt → x37.toInt < 2147483648 → x38.toInt = x37.toInt) (hr39y : ∀ s9 : List Int, QB F35 n36 s9 → s9.length ≤ 36 → QB F40 n41 (s9 ++ qDec x38.toInt)) (hr39_0 : 0 ≤ n41.toInt) (hr39_1 : n41.toInt ≤ 48) : ∀ (v9 : QV) (s9 : List Int), QAT (qH (σ.2.1 36) (σ.2.1 37) (σ.2.1 38) (σ.2.1 39) (σ.2.1 40) (σ.2.1 41) (σ.2.1 42) (σ.2.1 43) (σ.2.1 44) (σ.2.1 45) (σ.2.1 46) (σ.2.1 48)) (σ.1 47).toInt ((σ.2.1 51), (σ.2.2.1 52), (σ.2.2.1 53), (σ.2.2.2)) k0.toNatClampNeg v9 → QB (σ.2.1 58) (σ.1 59) s9 → s9.length ≤ 20 → QB F40 n41 (s9 ++ qSpl v9) := by
  have q111 : (111 : Int32).toInt = 111 := by decide +kernel
  exfalso; omega
-- post @194
theorem v_spell_23 (n44 : Int32) (hr42_0 : 0 ≤ n44.toInt) (hr42_1 : n44.toInt ≤ 48) : 0 ≤ n44.toInt ∧ n44.toInt ≤ 48 := by
  refine ⟨?_, ?_⟩ <;> first | assumption | omega | (subst_vars; omega) | trivial
-- post2 @194
theorem v_spell_24 (σ : RS) (k0 : Int32) (x1 : Int32) (x3 : Int32) (x5 : Int32) (x7 : Int32) (x27 : Int64) (x28 : Int32) (x30 : Int32) (x32 : Int32) (F43 : (Nat → Int32)) (n44 : Int32) (hpre_0 : 0 ≤ k0.toInt) (hpre_1 : k0.toInt < 980) (hpre_2 : 0 ≤ (σ.1 59).toInt) (hpre_3 : (σ.1 59).toInt ≤ 48) (ex1 : x1 = (σ.2.1 51) k0.toNatClampNeg) (tx1 : x1.toInt = ((σ.2.1 51) k0.toNatClampNeg).toInt) (c2 : ¬ x1.toInt = 4) (ex3 : x3 = (σ.2.1 51) k0.toNatClampNeg) (tx3 : x3.toInt = ((σ.2.1 51) k0.toNatClampNeg).toInt) (c4 : ¬ x3.toInt = 2) (ex5 : x5 = (σ.2.1 51) k0.toNatClampNeg) (tx5 : x5.toInt = ((σ.2.1 51) k0.toNatClampNeg).toInt) (c6 : ¬ x5.toInt = 3) (ex7 : x7 = (σ.2.1 51) k0.toNatClampNeg) (tx7 : x7.toInt = ((σ.2.1 51) k0.toNatClampNeg).toInt) (c8 : x7.toInt = 1) (ex27 : x27 = (σ.2.2.1 52) k0.toNatClampNeg) (tx27 : x27.toInt = ((σ.2.2.1 52) k0.toNatClampNeg).toInt) (tx28 : (x28.toInt = 0 ↔ x27.toInt = 1) ∧ (x28.toInt < 0 ↔ x27.toInt < 1)) (c29 : ¬ x28.toInt = 0) (ex30 : x30 = (σ.2.1 51) k0.toNatClampNeg) (tx30 : x30.toInt = ((σ.2.1 51) k0.toNatClampNeg).toInt) (c31 : ¬ x30.toInt = 1) (ex32 : x32 = (σ.2.1 51) k0.toNatClampNeg) (tx32 : x32.toInt = ((σ.2.1 51) k0.toNatClampNeg).toInt) (c33 : x32.toInt = 0) (hr42y : ∀ s9 : List Int, QB (σ.2.1 58) (σ.1 59) s9 → s9.length ≤ 36 → QB F43 n44 (s9 ++ ([(110 : Int32).toInt, (117 : Int32).toInt, (108 : Int32).toInt, (108 : Int32).toInt] ++ if 0 < (0 : Int32).toInt then [(0 : Int32).toInt] else []))) (hr42_0 : 0 ≤ n44.toInt) (hr42_1 : n44.toInt ≤ 48) : ∀ (v9 : QV) (s9 : List Int), QAT (qH (σ.2.1 36) (σ.2.1 37) (σ.2.1 38) (σ.2.1 39) (σ.2.1 40) (σ.2.1 41) (σ.2.1 42) (σ.2.1 43) (σ.2.1 44) (σ.2.1 45) (σ.2.1 46) (σ.2.1 48)) (σ.1 47).toInt ((σ.2.1 51), (σ.2.2.1 52), (σ.2.2.1 53), (σ.2.2.2)) k0.toNatClampNeg v9 → QB (σ.2.1 58) (σ.1 59) s9 → s9.length ≤ 20 → QB F43 n44 (s9 ++ qSpl v9) := by
  have q0 : (0 : Int32).toInt = 0 := by decide +kernel
  have q108 : (108 : Int32).toInt = 108 := by decide +kernel
  have q110 : (110 : Int32).toInt = 110 := by decide +kernel
  have q117 : (117 : Int32).toInt = 117 := by decide +kernel
  exfalso; omega
-- post @194
theorem v_spell_25 (n47 : Int32) (hr45_0 : 0 ≤ n47.toInt) (hr45_1 : n47.toInt ≤ 48) : 0 ≤ n47.toInt ∧ n47.toInt ≤ 48 := by
  refine ⟨?_, ?_⟩ <;> first | assumption | omega | (subst_vars; omega) | trivial
-- post2 @194
theorem v_spell_26 (σ : RS) (k0 : Int32) (x1 : Int32) (x3 : Int32) (x5 : Int32) (x7 : Int32) (x27 : Int64) (x28 : Int32) (x30 : Int32) (F46 : (Nat → Int32)) (n47 : Int32) (hpre_0 : 0 ≤ k0.toInt) (hpre_1 : k0.toInt < 980) (hpre_2 : 0 ≤ (σ.1 59).toInt) (hpre_3 : (σ.1 59).toInt ≤ 48) (ex1 : x1 = (σ.2.1 51) k0.toNatClampNeg) (tx1 : x1.toInt = ((σ.2.1 51) k0.toNatClampNeg).toInt) (c2 : ¬ x1.toInt = 4) (ex3 : x3 = (σ.2.1 51) k0.toNatClampNeg) (tx3 : x3.toInt = ((σ.2.1 51) k0.toNatClampNeg).toInt) (c4 : ¬ x3.toInt = 2) (ex5 : x5 = (σ.2.1 51) k0.toNatClampNeg) (tx5 : x5.toInt = ((σ.2.1 51) k0.toNatClampNeg).toInt) (c6 : ¬ x5.toInt = 3) (ex7 : x7 = (σ.2.1 51) k0.toNatClampNeg) (tx7 : x7.toInt = ((σ.2.1 51) k0.toNatClampNeg).toInt) (c8 : x7.toInt = 1) (ex27 : x27 = (σ.2.2.1 52) k0.toNatClampNeg) (tx27 : x27.toInt = ((σ.2.2.1 52) k0.toNatClampNeg).toInt) (tx28 : (x28.toInt = 0 ↔ x27.toInt = 1) ∧ (x28.toInt < 0 ↔ x27.toInt < 1)) (c29 : ¬ x28.toInt = 0) (ex30 : x30 = (σ.2.1 51) k0.toNatClampNeg) (tx30 : x30.toInt = ((σ.2.1 51) k0.toNatClampNeg).toInt) (c31 : x30.toInt = 1) (hr45y : ∀ s9 : List Int, QB (σ.2.1 58) (σ.1 59) s9 → s9.length ≤ 36 → QB F46 n47 (s9 ++ ([(102 : Int32).toInt, (97 : Int32).toInt, (108 : Int32).toInt, (115 : Int32).toInt] ++ if 0 < (101 : Int32).toInt then [(101 : Int32).toInt] else []))) (hr45_0 : 0 ≤ n47.toInt) (hr45_1 : n47.toInt ≤ 48) : ∀ (v9 : QV) (s9 : List Int), QAT (qH (σ.2.1 36) (σ.2.1 37) (σ.2.1 38) (σ.2.1 39) (σ.2.1 40) (σ.2.1 41) (σ.2.1 42) (σ.2.1 43) (σ.2.1 44) (σ.2.1 45) (σ.2.1 46) (σ.2.1 48)) (σ.1 47).toInt ((σ.2.1 51), (σ.2.2.1 52), (σ.2.2.1 53), (σ.2.2.2)) k0.toNatClampNeg v9 → QB (σ.2.1 58) (σ.1 59) s9 → s9.length ≤ 20 → QB F46 n47 (s9 ++ qSpl v9) := by
  have q97 : (97 : Int32).toInt = 97 := by decide +kernel
  have q101 : (101 : Int32).toInt = 101 := by decide +kernel
  have q102 : (102 : Int32).toInt = 102 := by decide +kernel
  have q108 : (108 : Int32).toInt = 108 := by decide +kernel
  have q115 : (115 : Int32).toInt = 115 := by decide +kernel
  intro v9 s9 h9 hb hl
  obtain ⟨b9, rfl, hb9⟩ := h9.k1 (show ((σ.2.1 51) k0.toNatClampNeg).toInt = 1 by omega)
  dsimp only at hb9
  have b := hr45y s9 hb (by omega)
  rw [show (97 : Int32).toInt = 97 by decide +kernel] at b
  rw [show (101 : Int32).toInt = 101 by decide +kernel] at b
  rw [show (102 : Int32).toInt = 102 by decide +kernel] at b
  rw [show (108 : Int32).toInt = 108 by decide +kernel] at b
  rw [show (115 : Int32).toInt = 115 by decide +kernel] at b
  rw [if_pos (by decide)] at b
  have e9 : b9 = false := by
    cases b9
    · rfl
    · have hb9 : ((σ.2.2.1 52) k0.toNatClampNeg).toInt = 1 := hb9
      exfalso; omega
  subst e9
  exact b
-- post @194
theorem v_spell_27 (n50 : Int32) (hr48_0 : 0 ≤ n50.toInt) (hr48_1 : n50.toInt ≤ 48) : 0 ≤ n50.toInt ∧ n50.toInt ≤ 48 := by
  refine ⟨?_, ?_⟩ <;> first | assumption | omega | (subst_vars; omega) | trivial
-- post2 @194
theorem v_spell_28 (σ : RS) (k0 : Int32) (x1 : Int32) (x3 : Int32) (x5 : Int32) (x7 : Int32) (x27 : Int64) (x28 : Int32) (F49 : (Nat → Int32)) (n50 : Int32) (hpre_0 : 0 ≤ k0.toInt) (hpre_1 : k0.toInt < 980) (hpre_2 : 0 ≤ (σ.1 59).toInt) (hpre_3 : (σ.1 59).toInt ≤ 48) (ex1 : x1 = (σ.2.1 51) k0.toNatClampNeg) (tx1 : x1.toInt = ((σ.2.1 51) k0.toNatClampNeg).toInt) (c2 : ¬ x1.toInt = 4) (ex3 : x3 = (σ.2.1 51) k0.toNatClampNeg) (tx3 : x3.toInt = ((σ.2.1 51) k0.toNatClampNeg).toInt) (c4 : ¬ x3.toInt = 2) (ex5 : x5 = (σ.2.1 51) k0.toNatClampNeg) (tx5 : x5.toInt = ((σ.2.1 51) k0.toNatClampNeg).toInt) (c6 : ¬ x5.toInt = 3) (ex7 : x7 = (σ.2.1 51) k0.toNatClampNeg) (tx7 : x7.toInt = ((σ.2.1 51) k0.toNatClampNeg).toInt) (c8 : x7.toInt = 1) (ex27 : x27 = (σ.2.2.1 52) k0.toNatClampNeg) (tx27 : x27.toInt = ((σ.2.2.1 52) k0.toNatClampNeg).toInt) (tx28 : (x28.toInt = 0 ↔ x27.toInt = 1) ∧ (x28.toInt < 0 ↔ x27.toInt < 1)) (c29 : x28.toInt = 0) (hr48y : ∀ s9 : List Int, QB (σ.2.1 58) (σ.1 59) s9 → s9.length ≤ 36 → QB F49 n50 (s9 ++ ([(116 : Int32).toInt, (114 : Int32).toInt, (117 : Int32).toInt, (101 : Int32).toInt] ++ if 0 < (0 : Int32).toInt then [(0 : Int32).toInt] else []))) (hr48_0 : 0 ≤ n50.toInt) (hr48_1 : n50.toInt ≤ 48) : ∀ (v9 : QV) (s9 : List Int), QAT (qH (σ.2.1 36) (σ.2.1 37) (σ.2.1 38) (σ.2.1 39) (σ.2.1 40) (σ.2.1 41) (σ.2.1 42) (σ.2.1 43) (σ.2.1 44) (σ.2.1 45) (σ.2.1 46) (σ.2.1 48)) (σ.1 47).toInt ((σ.2.1 51), (σ.2.2.1 52), (σ.2.2.1 53), (σ.2.2.2)) k0.toNatClampNeg v9 → QB (σ.2.1 58) (σ.1 59) s9 → s9.length ≤ 20 → QB F49 n50 (s9 ++ qSpl v9) := by
  have q0 : (0 : Int32).toInt = 0 := by decide +kernel
  have q101 : (101 : Int32).toInt = 101 := by decide +kernel
  have q114 : (114 : Int32).toInt = 114 := by decide +kernel
  have q116 : (116 : Int32).toInt = 116 := by decide +kernel
  have q117 : (117 : Int32).toInt = 117 := by decide +kernel
  intro v9 s9 h9 hb hl
  obtain ⟨b9, rfl, hb9⟩ := h9.k1 (show ((σ.2.1 51) k0.toNatClampNeg).toInt = 1 by omega)
  dsimp only at hb9
  have b := hr48y s9 hb (by omega)
  rw [show (0 : Int32).toInt = 0 by decide +kernel] at b
  rw [show (101 : Int32).toInt = 101 by decide +kernel] at b
  rw [show (114 : Int32).toInt = 114 by decide +kernel] at b
  rw [show (116 : Int32).toInt = 116 by decide +kernel] at b
  rw [show (117 : Int32).toInt = 117 by decide +kernel] at b
  rw [if_neg (by decide), List.append_nil] at b
  have e9 : b9 = true := by
    cases b9
    · have hb9 : ((σ.2.2.1 52) k0.toNatClampNeg).toInt = 0 := hb9
      exfalso; omega
    · rfl
  subst e9
  exact b
-- in@80 @80
theorem v_spell_29 (σ : RS) (k0 : Int32) (x1 : Int32) (x3 : Int32) (x5 : Int32) (hpre_0 : 0 ≤ k0.toInt) (hpre_1 : k0.toInt < 980) (ex1 : x1 = (σ.2.1 51) k0.toNatClampNeg) (tx1 : x1.toInt = ((σ.2.1 51) k0.toNatClampNeg).toInt) (c2 : ¬ x1.toInt = 4) (ex3 : x3 = (σ.2.1 51) k0.toNatClampNeg) (tx3 : x3.toInt = ((σ.2.1 51) k0.toNatClampNeg).toInt) (c4 : ¬ x3.toInt = 2) (ex5 : x5 = (σ.2.1 51) k0.toNatClampNeg) (tx5 : x5.toInt = ((σ.2.1 51) k0.toNatClampNeg).toInt) (c6 : x5.toInt = 3) : vp_in k0 980 := by
  exact vp_in_iff.mpr ⟨by omega, by omega⟩
-- post @194
theorem v_spell_30 (n55 : Int32) (hr53_0 : 0 ≤ n55.toInt) (hr53_1 : n55.toInt ≤ 48) : 0 ≤ n55.toInt ∧ n55.toInt ≤ 48 := by
  refine ⟨?_, ?_⟩ <;> first | assumption | omega | (subst_vars; omega) | trivial
-- post2 @194
theorem v_spell_31 (σ : RS) (k0 : Int32) (x1 : Int32) (x3 : Int32) (x5 : Int32) (x51 : UInt64) (x52 : Int32) (F54 : (Nat → Int32)) (n55 : Int32) (hpre_0 : 0 ≤ k0.toInt) (hpre_1 : k0.toInt < 980) (hpre_2 : 0 ≤ (σ.1 59).toInt) (hpre_3 : (σ.1 59).toInt ≤ 48) (ex1 : x1 = (σ.2.1 51) k0.toNatClampNeg) (tx1 : x1.toInt = ((σ.2.1 51) k0.toNatClampNeg).toInt) (c2 : ¬ x1.toInt = 4) (ex3 : x3 = (σ.2.1 51) k0.toNatClampNeg) (tx3 : x3.toInt = ((σ.2.1 51) k0.toNatClampNeg).toInt) (c4 : ¬ x3.toInt = 2) (ex5 : x5 = (σ.2.1 51) k0.toNatClampNeg) (tx5 : x5.toInt = ((σ.2.1 51) k0.toNatClampNeg).toInt) (c6 : x5.toInt = 3) (ex51 : x51 = (σ.2.2.2) k0.toNatClampNeg) (ex52 : x52 = FP.d2i x51) (hr53y : ∀ s9 : List Int, QB (σ.2.1 58) (σ.1 59) s9 → s9.length ≤ 36 → QB F54 n55 (s9 ++ qDec x52.toInt)) (hr53_0 : 0 ≤ n55.toInt) (hr53_1 : n55.toInt ≤ 48) : ∀ (v9 : QV) (s9 : List Int), QAT (qH (σ.2.1 36) (σ.2.1 37) (σ.2.1 38) (σ.2.1 39) (σ.2.1 40) (σ.2.1 41) (σ.2.1 42) (σ.2.1 43) (σ.2.1 44) (σ.2.1 45) (σ.2.1 46) (σ.2.1 48)) (σ.1 47).toInt ((σ.2.1 51), (σ.2.2.1 52), (σ.2.2.1 53), (σ.2.2.2)) k0.toNatClampNeg v9 → QB (σ.2.1 58) (σ.1 59) s9 → s9.length ≤ 20 → QB F54 n55 (s9 ++ qSpl v9) := by
  intro v9 s9 h9 hb hl
  obtain ⟨r, hr, rfl, e⟩ := h9.k3 (show ((σ.2.1 51) k0.toNatClampNeg).toInt = 3 by omega)
  have b := hr53y s9 hb (by omega)
  rw [ex52, ex51, show (σ.2.2.2) k0.toNatClampNeg = r from e] at b
  exact b
-- in@56 @56
theorem v_spell_32 (σ : RS) (k0 : Int32) (x1 : Int32) (x3 : Int32) (hpre_0 : 0 ≤ k0.toInt) (hpre_1 : k0.toInt < 980) (ex1 : x1 = (σ.2.1 51) k0.toNatClampNeg) (tx1 : x1.toInt = ((σ.2.1 51) k0.toNatClampNeg).toInt) (c2 : ¬ x1.toInt = 4) (ex3 : x3 = (σ.2.1 51) k0.toNatClampNeg) (tx3 : x3.toInt = ((σ.2.1 51) k0.toNatClampNeg).toInt) (c4 : x3.toInt = 2) : vp_in k0 980 := by
  exact vp_in_iff.mpr ⟨by omega, by omega⟩
-- post @194
theorem v_spell_33 (n60 : Int32) (hr58_0 : 0 ≤ n60.toInt) (hr58_1 : n60.toInt ≤ 48) : 0 ≤ n60.toInt ∧ n60.toInt ≤ 48 := by
  refine ⟨?_, ?_⟩ <;> first | assumption | omega | (subst_vars; omega) | trivial
-- post2 @194
theorem v_spell_34 (σ : RS) (k0 : Int32) (x1 : Int32) (x3 : Int32) (x56 : Int64) (x57 : Int32) (F59 : (Nat → Int32)) (n60 : Int32) (hpre_0 : 0 ≤ k0.toInt) (hpre_1 : k0.toInt < 980) (hpre_2 : 0 ≤ (σ.1 59).toInt) (hpre_3 : (σ.1 59).toInt ≤ 48) (ex1 : x1 = (σ.2.1 51) k0.toNatClampNeg) (tx1 : x1.toInt = ((σ.2.1 51) k0.toNatClampNeg).toInt) (c2 : ¬ x1.toInt = 4) (ex3 : x3 = (σ.2.1 51) k0.toNatClampNeg) (tx3 : x3.toInt = ((σ.2.1 51) k0.toNatClampNeg).toInt) (c4 : x3.toInt = 2) (ex56 : x56 = (σ.2.2.1 52) k0.toNatClampNeg) (tx56 : x56.toInt = ((σ.2.2.1 52) k0.toNatClampNeg).toInt) (ex57 : x57 = Int64.toInt32 x56) (tx57 : -2147483648 ≤ x56.toInt → x56.toInt < 2147483648 → x57.toInt = x56.toInt) (hr58y : ∀ s9 : List Int, QB (σ.2.1 58) (σ.1 59) s9 → s9.length ≤ 36 → QB F59 n60 (s9 ++ qDec x57.toInt)) (hr58_0 : 0 ≤ n60.toInt) (hr58_1 : n60.toInt ≤ 48) : ∀ (v9 : QV) (s9 : List Int), QAT (qH (σ.2.1 36) (σ.2.1 37) (σ.2.1 38) (σ.2.1 39) (σ.2.1 40) (σ.2.1 41) (σ.2.1 42) (σ.2.1 43) (σ.2.1 44) (σ.2.1 45) (σ.2.1 46) (σ.2.1 48)) (σ.1 47).toInt ((σ.2.1 51), (σ.2.2.1 52), (σ.2.2.1 53), (σ.2.2.2)) k0.toNatClampNeg v9 → QB (σ.2.1 58) (σ.1 59) s9 → s9.length ≤ 20 → QB F59 n60 (s9 ++ qSpl v9) := by
  intro v9 s9 h9 hb hl
  obtain ⟨n, rfl, hn⟩ := h9.k2 (show ((σ.2.1 51) k0.toNatClampNeg).toInt = 2 by omega)
  have e := q_l2i (x := x56) (by rw [ex56]; exact hn) ex57
  have b := hr58y s9 hb (by omega)
  rw [e] at b
  exact b
-- init@12 @12
theorem v_spell_35 (σ : RS) (hpre_2 : 0 ≤ (σ.1 59).toInt) (hpre_3 : (σ.1 59).toInt ≤ 48) : 0 ≤ (σ.1 59).toInt ∧ (σ.1 59).toInt ≤ 48 ∧ 0 ≤ (0 : Int32).toInt ∧ (0 : Int32).toInt ≤ 130 := by
  have q0 : (0 : Int32).toInt = 0 := by decide +kernel
  refine ⟨?_, ?_, ?_, ?_⟩ <;> first | assumption | omega | (subst_vars; omega) | trivial
-- init2@12 @12
theorem v_spell_36 (σ : RS) (k0 : Int32) (x1 : Int32) (hpre_0 : 0 ≤ k0.toInt) (hpre_1 : k0.toInt < 980) (hpre_2 : 0 ≤ (σ.1 59).toInt) (hpre_3 : (σ.1 59).toInt ≤ 48) (ex1 : x1 = (σ.2.1 51) k0.toNatClampNeg) (tx1 : x1.toInt = ((σ.2.1 51) k0.toNatClampNeg).toInt) (c2 : x1.toInt = 4) : ∀ s8 s9 : List Int, QTT ((σ.2.2.1 52) k0.toNatClampNeg) ((σ.2.2.1 53) k0.toNatClampNeg) s8 → QB (σ.2.1 58) (σ.1 59) s9 → s9.length ≤ 20 → (0 : Int32).toInt ≤ (s8.length : Int) ∧ QB (σ.2.1 58) (σ.1 59) (s9 ++ s8.take (0 : Int32).toInt.toNat) := by
  have q0 : (0 : Int32).toInt = 0 := by decide +kernel
  intro s8 s9 ht hb hl
  refine ⟨by omega, ?_⟩
  rw [q0, show s8.take (0 : Int).toNat = [] from rfl, List.append_nil]; exact hb
-- pre:lengthOf@15 @15
theorem v_spell_37 (σ : RS) (k0 : Int32) (x1 : Int32) (hpre_0 : 0 ≤ k0.toInt) (hpre_1 : k0.toInt < 980) (ex1 : x1 = (σ.2.1 51) k0.toNatClampNeg) (tx1 : x1.toInt = ((σ.2.1 51) k0.toNatClampNeg).toInt) (c2 : x1.toInt = 4) : 0 ≤ k0.toInt ∧ k0.toInt < 980 := by
  refine ⟨?_, ?_⟩ <;> first | assumption | omega | (subst_vars; omega) | trivial
-- post @194
theorem v_spell_38 (n63 : Int32) (hi12_0 : 0 ≤ n63.toInt) (hi12_1 : n63.toInt ≤ 48) : 0 ≤ n63.toInt ∧ n63.toInt ≤ 48 := by
  refine ⟨?_, ?_⟩ <;> first | assumption | omega | (subst_vars; omega) | trivial
-- post2 @194
theorem v_spell_39 (σ : RS) (k0 : Int32) (x1 : Int32) (y61 : Int32) (F62 : (Nat → Int32)) (n63 : Int32) (r64 : Int32) (hpre_0 : 0 ≤ k0.toInt) (hpre_1 : k0.toInt < 980) (hpre_2 : 0 ≤ (σ.1 59).toInt) (hpre_3 : (σ.1 59).toInt ≤ 48) (ex1 : x1 = (σ.2.1 51) k0.toNatClampNeg) (tx1 : x1.toInt = ((σ.2.1 51) k0.toNatClampNeg).toInt) (c2 : x1.toInt = 4) (hi12_0 : 0 ≤ n63.toInt) (hi12_1 : n63.toInt ≤ 48) (hi12_2 : 0 ≤ y61.toInt) (hi12_3 : y61.toInt ≤ 130) (hi12y : ∀ s8 s9 : List Int, QTT ((σ.2.2.1 52) k0.toNatClampNeg) ((σ.2.2.1 53) k0.toNatClampNeg) s8 → QB (σ.2.1 58) (σ.1 59) s9 → s9.length ≤ 20 → y61.toInt ≤ (s8.length : Int) ∧ QB F62 n63 (s9 ++ s8.take y61.toInt.toNat)) (hr64 : r64 = LENF ((σ.2.2.1 52) k0.toNatClampNeg)) (c65 : r64.toInt ≤ y61.toInt) : ∀ (v9 : QV) (s9 : List Int), QAT (qH (σ.2.1 36) (σ.2.1 37) (σ.2.1 38) (σ.2.1 39) (σ.2.1 40) (σ.2.1 41) (σ.2.1 42) (σ.2.1 43) (σ.2.1 44) (σ.2.1 45) (σ.2.1 46) (σ.2.1 48)) (σ.1 47).toInt ((σ.2.1 51), (σ.2.2.1 52), (σ.2.2.1 53), (σ.2.2.2)) k0.toNatClampNeg v9 → QB (σ.2.1 58) (σ.1 59) s9 → s9.length ≤ 20 → QB F62 n63 (s9 ++ qSpl v9) := by
  have l_hr64 := LENF_le ((σ.2.2.1 52) k0.toNatClampNeg)
  rw [← hr64] at l_hr64
  intro v9 s9 h9 hb hl
  obtain ⟨s8, rfl, ht⟩ := h9.k4 (show ((σ.2.1 51) k0.toNatClampNeg).toInt = 4 by omega)
  have z := hi12y s8 s9 ht hb hl
  have e := q_len ht.1 ht.2.2.1 ht.2.2.2
  rw [← hr64] at e
  have e2 := z.2
  rw [q_tall (by omega)] at e2
  exact e2
-- pre:sign8@25 @25
theorem v_spell_40 (σ : RS) (k0 : Int32) (x1 : Int32) (y61 : Int32) (r64 : Int32) (hpre_0 : 0 ≤ k0.toInt) (hpre_1 : k0.toInt < 980) (ex1 : x1 = (σ.2.1 51) k0.toNatClampNeg) (tx1 : x1.toInt = ((σ.2.1 51) k0.toNatClampNeg).toInt) (c2 : x1.toInt = 4) (hi12_2 : 0 ≤ y61.toInt) (hi12_3 : y61.toInt ≤ 130) (hr64 : r64 = LENF ((σ.2.2.1 52) k0.toNatClampNeg)) (c65 : y61.toInt < r64.toInt) : 0 ≤ k0.toInt ∧ k0.toInt < 980 ∧ 0 ≤ y61.toInt ∧ y61.toInt ≤ 200 := by
  have l_hr64 := LENF_le ((σ.2.2.1 52) k0.toNatClampNeg)
  rw [← hr64] at l_hr64
  refine ⟨?_, ?_, ?_, ?_⟩ <;> first | assumption | omega | (subst_vars; omega) | trivial
-- nw@31 @31
theorem v_spell_41 (σ : RS) (k0 : Int32) (x1 : Int32) (y61 : Int32) (r64 : Int32) (x70 : Int32) (hpre_0 : 0 ≤ k0.toInt) (hpre_1 : k0.toInt < 980) (ex1 : x1 = (σ.2.1 51) k0.toNatClampNeg) (tx1 : x1.toInt = ((σ.2.1 51) k0.toNatClampNeg).toInt) (c2 : x1.toInt = 4) (hi12_2 : 0 ≤ y61.toInt) (hi12_3 : y61.toInt ≤ 130) (hr64 : r64 = LENF ((σ.2.2.1 52) k0.toNatClampNeg)) (c65 : y61.toInt < r64.toInt) (ex70 : x70 = y61 + (1 : Int32)) : x70.toInt = y61.toInt + 1 := by
  have q1 : (1 : Int32).toInt = 1 := by decide +kernel
  have l_hr64 := LENF_le ((σ.2.2.1 52) k0.toNatClampNeg)
  rw [← hr64] at l_hr64
  have z9 : (1 : Int32).toInt = 1 := by decide +kernel
  rw [ex70, z_add (by omega) (by omega)]; first | done | omega
-- inv@12 @12
theorem v_spell_42 (σ : RS) (k0 : Int32) (x1 : Int32) (y61 : Int32) (r64 : Int32) (n69 : Int32) (x70 : Int32) (hpre_0 : 0 ≤ k0.toInt) (hpre_1 : k0.toInt < 980) (ex1 : x1 = (σ.2.1 51) k0.toNatClampNeg) (tx1 : x1.toInt = ((σ.2.1 51) k0.toNatClampNeg).toInt) (c2 : x1.toInt = 4) (hi12_2 : 0 ≤ y61.toInt) (hi12_3 : y61.toInt ≤ 130) (hr64 : r64 = LENF ((σ.2.2.1 52) k0.toNatClampNeg)) (c65 : y61.toInt < r64.toInt) (hr67_0 : 0 ≤ n69.toInt) (hr67_1 : n69.toInt ≤ 48) (ex70 : x70 = y61 + (1 : Int32)) (tx70 : x70.toInt = y61.toInt + 1) : 0 ≤ n69.toInt ∧ n69.toInt ≤ 48 ∧ 0 ≤ x70.toInt ∧ x70.toInt ≤ 130 := by
  have q1 : (1 : Int32).toInt = 1 := by decide +kernel
  have l_hr64 := LENF_le ((σ.2.2.1 52) k0.toNatClampNeg)
  rw [← hr64] at l_hr64
  refine ⟨?_, ?_, ?_, ?_⟩ <;> first | assumption | omega | (subst_vars; omega) | trivial
-- inv2@12 @12
theorem v_spell_43 (σ : RS) (k0 : Int32) (x1 : Int32) (y61 : Int32) (F62 : (Nat → Int32)) (n63 : Int32) (r64 : Int32) (r66 : Int32) (F68 : (Nat → Int32)) (n69 : Int32) (x70 : Int32) (hpre_0 : 0 ≤ k0.toInt) (hpre_1 : k0.toInt < 980) (hpre_2 : 0 ≤ (σ.1 59).toInt) (hpre_3 : (σ.1 59).toInt ≤ 48) (ex1 : x1 = (σ.2.1 51) k0.toNatClampNeg) (tx1 : x1.toInt = ((σ.2.1 51) k0.toNatClampNeg).toInt) (c2 : x1.toInt = 4) (hi12_0 : 0 ≤ n63.toInt) (hi12_1 : n63.toInt ≤ 48) (hi12_2 : 0 ≤ y61.toInt) (hi12_3 : y61.toInt ≤ 130) (hi12y : ∀ s8 s9 : List Int, QTT ((σ.2.2.1 52) k0.toNatClampNeg) ((σ.2.2.1 53) k0.toNatClampNeg) s8 → QB (σ.2.1 58) (σ.1 59) s9 → s9.length ≤ 20 → y61.toInt ≤ (s8.length : Int) ∧ QB F62 n63 (s9 ++ s8.take y61.toInt.toNat)) (hr64 : r64 = LENF ((σ.2.2.1 52) k0.toNatClampNeg)) (c65 : y61.toInt < r64.toInt) (hr66y : ∀ s9 : List Int, QTT ((σ.2.2.1 52) k0.toNatClampNeg) ((σ.2.2.1 53) k0.toNatClampNeg) s9 → 0 ≤ y61.toInt → y61.toInt < 17 → r66.toInt = s9.getD y61.toInt.toNat 0) (hr67y : ∀ s9 : List Int, QB F62 n63 s9 → s9.length < 48 → QB F68 n69 (s9 ++ [r66.toInt])) (hr67_0 : 0 ≤ n69.toInt) (hr67_1 : n69.toInt ≤ 48) (ex70 : x70 = y61 + (1 : Int32)) (tx70 : x70.toInt = y61.toInt + 1) : ∀ s8 s9 : List Int, QTT ((σ.2.2.1 52) k0.toNatClampNeg) ((σ.2.2.1 53) k0.toNatClampNeg) s8 → QB (σ.2.1 58) (σ.1 59) s9 → s9.length ≤ 20 → x70.toInt ≤ (s8.length : Int) ∧ QB F68 n69 (s9 ++ s8.take x70.toInt.toNat) := by
  have q1 : (1 : Int32).toInt = 1 := by decide +kernel
  have l_hr64 := LENF_le ((σ.2.2.1 52) k0.toNatClampNeg)
  rw [← hr64] at l_hr64
  intro s8 s9 ht hb hl
  have z := hi12y s8 s9 ht hb hl
  have e := q_len ht.1 ht.2.2.1 ht.2.2.2
  rw [← hr64] at e
  have l16 := ht.2.2.1
  have g := hr66y s8 ht (by omega) (by omega)
  have a := hr67y _ z.2 (by rw [List.length_append, List.length_take]; omega)
  refine ⟨by omega, ?_⟩
  rw [show x70.toInt.toNat = y61.toInt.toNat + 1 by omega, q_tsucc (by omega), ← g, ← List.append_assoc]
  exact a
-- meas@12 @12
theorem v_spell_44 (σ : RS) (k0 : Int32) (x1 : Int32) (y61 : Int32) (r64 : Int32) (x70 : Int32) (hpre_0 : 0 ≤ k0.toInt) (hpre_1 : k0.toInt < 980) (ex1 : x1 = (σ.2.1 51) k0.toNatClampNeg) (tx1 : x1.toInt = ((σ.2.1 51) k0.toNatClampNeg).toInt) (c2 : x1.toInt = 4) (hi12_2 : 0 ≤ y61.toInt) (hi12_3 : y61.toInt ≤ 130) (hr64 : r64 = LENF ((σ.2.2.1 52) k0.toNatClampNeg)) (c65 : y61.toInt < r64.toInt) (ex70 : x70 = y61 + (1 : Int32)) (tx70 : x70.toInt = y61.toInt + 1) : (130 - x70.toInt).toNat < (130 - y61.toInt).toNat := by
  have q1 : (1 : Int32).toInt = 1 := by decide +kernel
  have l_hr64 := LENF_le ((σ.2.2.1 52) k0.toNatClampNeg)
  rw [← hr64] at l_hr64
  first | assumption | omega | (subst_vars; omega) | trivial
set_option maxHeartbeats 4000000 in
set_option maxRecDepth 100000 in
theorem L_spell_12_1 {p : Program} {e : Env} {s : State} {m : MethodId} {below : List Frame} {meth : Method} {c : Code} (l : Launch) (D : va_G) (cy : Nat → ClassId) (sz0 : Nat) (sa : Nat → Nat) (ad : Nat → Nat) (sz : Nat) (σ : RS) (k0 : Int32) (x1 : Int32) (C : RC p s m #[.ref (ad 0), .int k0] meth c cX12_spell 3 none D cy sz0 sa ad (AR cy ad sz)) (hpre_0 : 0 ≤ k0.toInt) (hpre_1 : k0.toInt < 980) (hpre_2 : 0 ≤ (σ.1 59).toInt) (hpre_3 : (σ.1 59).toInt ≤ 48) (ex1 : x1 = (σ.2.1 51) k0.toNatClampNeg) (tx1 : x1.toInt = ((σ.2.1 51) k0.toNatClampNeg).toInt) (c2 : x1.toInt = 4) : ∀ (n : Nat) (y61 : Int32) (F62 : (Nat → Int32)) (n63 : Int32) (H : Heap) (locs : List Loc) (ls : Array Slot), (130 - y61.toInt).toNat < n → ((0 ≤ n63.toInt ∧ n63.toInt ≤ 48 ∧ 0 ≤ y61.toInt ∧ y61.toInt ≤ 130) ∧ (∀ s8 s9 : List Int, QTT ((σ.2.2.1 52) k0.toNatClampNeg) ((σ.2.2.1 53) k0.toNatClampNeg) s8 → QB (σ.2.1 58) (σ.1 59) s9 → s9.length ≤ 20 → y61.toInt ≤ (s8.length : Int) ∧ QB F62 n63 (s9 ++ s8.take y61.toInt.toNat))) → RP D cy ad (rS (rA σ 58 F62) 59 n63) H → va_S (AR cy ad sz) s.heap H locs → lv_has ls 3 [(2, .int y61), (0, .ref (ad 0)), (1, .int k0)] → W p l e (headSpec (Cond.code yX12_spell cX12_spell 3 none :: GWm) ({ frames := 2, cells := 0, slots := 0, locals := 47 })).room s m #[.ref (ad 0), .int k0] below meth c H locs 0 0 (MQ below (va_Qv (fun (u : (Nat → Int32) × Int32) => (0 ≤ u.2.toInt ∧ u.2.toInt ≤ 48) ∧ (∀ (v9 : QV) (s9 : List Int), QAT (qH (σ.2.1 36) (σ.2.1 37) (σ.2.1 38) (σ.2.1 39) (σ.2.1 40) (σ.2.1 41) (σ.2.1 42) (σ.2.1 43) (σ.2.1 44) (σ.2.1 45) (σ.2.1 46) (σ.2.1 48)) (σ.1 47).toInt ((σ.2.1 51), (σ.2.2.1 52), (σ.2.2.1 53), (σ.2.2.2)) k0.toNatClampNeg v9 → QB (σ.2.1 58) (σ.1 59) s9 → s9.length ≤ 20 → QB u.1 u.2 (s9 ++ qSpl v9))) (fun (u : (Nat → Int32) × Int32) (t : State) => RP D cy ad (rS (rA σ 58 u.1) 59 u.2) t.heap) (AR cy ad sz)) #[.ref (ad 0), .int k0] s 0 0 (AR cy ad sz)) (F0 m 12 ls []) := by
  have hx := C.1
  have hb := C.2.1
  have hown := C.2.2.2.2.1
  have hw := C.2.2.2.2.2.1
  intro n
  induction n with
  | zero => intro y61 F62 n63 H locs ls hn; exact absurd hn (Nat.not_lt_zero _)
  | succ n ih12 =>
    intro y61 F62 n63 H locs ls hn12 hi12 hP hS hl
    obtain ⟨hi12, hi12y⟩ := hi12
    obtain ⟨hi12_0, hi12_1, hi12_2, hi12_3⟩ := hi12
    refine lv_iload_n hx hb dX12_spell_12 rfl (lv_at hl 0 rfl) ?_
    refine lv_aload_n hx hb dX12_spell_13 rfl (lv_at hl 1 rfl) ?_
    refine lv_iload_n hx hb dX12_spell_14 rfl (lv_at hl 2 rfl) ?_
    refine r_callVi (As := [.int k0]) (rest := [.int y61]) C hP hS hl.1 ⟨Nat.zero_le _, Nat.zero_le _⟩ (M_lengthOf l D cy sz0 sa ad (rS (rA σ 58 F62) 59 n63) H.size k0 (v_spell_37 σ k0 x1 hpre_0 hpre_1 ex1 tx1 c2)) (n := 1) ⟨wm_228, wm_216, by decide +kernel⟩ ⟨wm_229, wm_230, wm_10⟩ rfl rfl (lv_room (Nat.le_of_ble_eq_true rfl)) ⟨Nat.le_of_ble_eq_true rfl, Nat.le_of_ble_eq_true rfl⟩ dX12_spell_15 (fun r64 u H locs hr64 hP hS => ?_)
    have hr64 : r64 = LENF ((σ.2.2.1 52) k0.toNatClampNeg) := hr64
    refine lv_icmp_ge (tgt := 37) hx hb dX12_spell_18 (by decide) (fun c65 => ?_) (fun c65 => ?_)
    · have c65 : r64.toInt ≤ y61.toInt := by have h := z_le c65; exact h
      refine lv_goto (tgt := 194) hx hb dX12_spell_37 (by decide) ?_
      exact r_retv C ⟨F62, n63⟩ ⟨(v_spell_38 n63 hi12_0 hi12_1), (v_spell_39 σ k0 x1 y61 F62 n63 r64 hpre_0 hpre_1 hpre_2 hpre_3 ex1 tx1 c2 hi12_0 hi12_1 hi12_2 hi12_3 hi12y hr64 c65)⟩ hP hS dX12_spell_194
    · have c65 : y61.toInt < r64.toInt := by have h := z_nle c65; exact h
      refine lv_aload_n hx hb dX12_spell_21 rfl (lv_at hl 1 rfl) ?_
      refine lv_aload_n hx hb dX12_spell_22 rfl (lv_at hl 1 rfl) ?_
      refine lv_iload_n hx hb dX12_spell_23 rfl (lv_at hl 2 rfl) ?_
      refine lv_iload_n hx hb dX12_spell_24 rfl (lv_at hl 0 rfl) ?_
      refine r_callVi (As := [.int k0, .int y61]) (rest := [.ref (ad 0)]) C hP hS hl.1 ⟨Nat.zero_le _, Nat.zero_le _⟩ (M_sign8 l D cy sz0 sa ad (rS (rA σ 58 F62) 59 n63) H.size k0 y61 (v_spell_40 σ k0 x1 y61 r64 hpre_0 hpre_1 ex1 tx1 c2 hi12_2 hi12_3 hr64 c65)) (n := 2) ⟨wm_231, wm_217, by decide +kernel⟩ ⟨wm_232, wm_233, wm_10⟩ rfl rfl (lv_room (Nat.le_of_ble_eq_true rfl)) ⟨Nat.le_of_ble_eq_true rfl, Nat.le_of_ble_eq_true rfl⟩ dX12_spell_25 (fun r66 u H locs hr66 hP hS => ?_)
      obtain ⟨hr66, hr66y⟩ := hr66
      have hr66y : ∀ s9 : List Int, QTT ((σ.2.2.1 52) k0.toNatClampNeg) ((σ.2.2.1 53) k0.toNatClampNeg) s9 → 0 ≤ y61.toInt → y61.toInt < 17 → r66.toInt = s9.getD y61.toInt.toNat 0 := hr66y
      have hr66 : True := hr66
      refine r_callVv (As := [.int r66]) (rest := []) C hP hS hl.1 ⟨Nat.zero_le _, Nat.zero_le _⟩ (M_build l D cy sz0 sa ad (rS (rA σ 58 F62) 59 n63) H.size r66 (v_spell_38 n63 hi12_0 hi12_1)) (n := 1) ⟨wm_223, wm_219, by decide +kernel⟩ ⟨wm_224, wm_225, wm_10⟩ rfl rfl (lv_room (Nat.le_of_ble_eq_true rfl)) ⟨Nat.le_of_ble_eq_true rfl, Nat.le_of_ble_eq_true rfl⟩ dX12_spell_28 (fun u H locs hr67 hP hS => ?_)
      obtain ⟨F68, n69⟩ := u
      obtain ⟨hr67, hr67y⟩ := hr67
      have hr67y : ∀ s9 : List Int, QB F62 n63 s9 → s9.length < 48 → QB F68 n69 (s9 ++ [r66.toInt]) := hr67y
      have hr67 : 0 ≤ n69.toInt ∧ n69.toInt ≤ 48 := hr67
      obtain ⟨hr67_0, hr67_1⟩ := hr67
      have hP : RP D cy ad (rS (rA (rS (rA σ 58 F62) 59 n63) 58 F68) 59 n69) H := hP
      obtain ⟨x70, ex70⟩ : ∃ y : Int32, y = y61 + (1 : Int32) := ⟨_, rfl⟩
      have tx70 : x70.toInt = y61.toInt + 1 := (v_spell_41 σ k0 x1 y61 r64 x70 hpre_0 hpre_1 ex1 tx1 c2 hi12_2 hi12_3 hr64 c65 ex70)
      refine lv_iinc (v := x70) (lv' := [(2, .int x70), (0, .ref (ad 0)), (1, .int k0)]) hx hb dX12_spell_31 hl (k := 0) rfl (by rw [ex70]; rfl) (by decide) rfl (fun ls hl => ?_)
      refine lv_goto (tgt := 12) hx hb dX12_spell_34 (by decide) ?_
      have hP : RP D cy ad (rS (rA σ 58 F68) 59 n69) H := RP.cong hP (Eq.trans (b := (σ.1 0)) rfl rfl) (Eq.trans (b := (σ.1 1)) rfl rfl) (Eq.trans (b := (σ.2.1 2)) rfl rfl) (Eq.trans (b := (σ.1 3)) rfl rfl) (Eq.trans (b := (σ.2.1 4)) rfl rfl) (Eq.trans (b := (σ.2.1 5)) rfl rfl) (Eq.trans (b := (σ.2.2.1 6)) rfl rfl) (Eq.trans (b := (σ.2.1 7)) rfl rfl) (Eq.trans (b := (σ.1 8)) rfl rfl) (Eq.trans (b := (σ.1 9)) rfl rfl) (Eq.trans (b := (σ.1 10)) rfl rfl) (Eq.trans (b := (σ.2.1 11)) rfl rfl) (Eq.trans (b := (σ.2.2.1 12)) rfl rfl) (Eq.trans (b := (σ.2.1 13)) rfl rfl) (Eq.trans (b := (σ.1 14)) rfl rfl) (Eq.trans (b := (σ.1 15)) rfl rfl) (Eq.trans (b := (σ.1 16)) rfl rfl) (Eq.trans (b := (σ.1 17)) rfl rfl) (Eq.trans (b := (σ.1 18)) rfl rfl) (Eq.trans (b := (σ.1 19)) rfl rfl) (Eq.trans (b := (σ.2.1 20)) rfl rfl) (Eq.trans (b := (σ.2.1 21)) rfl rfl) (Eq.trans (b := (σ.2.1 22)) rfl rfl) (Eq.trans (b := (σ.2.1 23)) rfl rfl) (Eq.trans (b := (σ.2.1 24)) rfl rfl) (Eq.trans (b := (σ.2.1 25)) rfl rfl) (Eq.trans (b := (σ.2.1 26)) rfl rfl) (Eq.trans (b := (σ.2.1 27)) rfl rfl) (Eq.trans (b := (σ.2.1 28)) rfl rfl) (Eq.trans (b := (σ.1 29)) rfl rfl) (Eq.trans (b := (σ.2.1 30)) rfl rfl) (Eq.trans (b := (σ.2.1 31)) rfl rfl) (Eq.trans (b := (σ.2.1 32)) rfl rfl) (Eq.trans (b := (σ.1 33)) rfl rfl) (Eq.trans (b := (σ.1 34)) rfl rfl) (Eq.trans (b := (σ.1 35)) rfl rfl) (Eq.trans (b := (σ.2.1 36)) rfl rfl) (Eq.trans (b := (σ.2.1 37)) rfl rfl) (Eq.trans (b := (σ.2.1 38)) rfl rfl) (Eq.trans (b := (σ.2.1 39)) rfl rfl) (Eq.trans (b := (σ.2.1 40)) rfl rfl) (Eq.trans (b := (σ.2.1 41)) rfl rfl) (Eq.trans (b := (σ.2.1 42)) rfl rfl) (Eq.trans (b := (σ.2.1 43)) rfl rfl) (Eq.trans (b := (σ.2.1 44)) rfl rfl) (Eq.trans (b := (σ.2.1 45)) rfl rfl) (Eq.trans (b := (σ.2.1 46)) rfl rfl) (Eq.trans (b := (σ.1 47)) rfl rfl) (Eq.trans (b := (σ.2.1 48)) rfl rfl) (Eq.trans (b := (σ.1 49)) rfl rfl) (Eq.trans (b := (σ.2.1 50)) rfl rfl) (Eq.trans (b := (σ.2.1 51)) rfl rfl) (Eq.trans (b := (σ.2.2.1 52)) rfl rfl) (Eq.trans (b := (σ.2.2.1 53)) rfl rfl) (Eq.trans (b := (σ.2.2.2)) rfl rfl) (Eq.trans (b := (σ.1 55)) rfl rfl) (Eq.trans (b := (σ.1 56)) rfl rfl) (Eq.trans (b := (σ.1 57)) rfl rfl) (Eq.trans (b := F68) rfl rfl) (Eq.trans (b := n69) rfl rfl)
      exact ih12 x70 F68 n69 _ _ _ (Nat.lt_of_lt_of_le (v_spell_44 σ k0 x1 y61 r64 x70 hpre_0 hpre_1 ex1 tx1 c2 hi12_2 hi12_3 hr64 c65 ex70 tx70) (Nat.le_of_lt_succ hn12)) ⟨(v_spell_42 σ k0 x1 y61 r64 n69 x70 hpre_0 hpre_1 ex1 tx1 c2 hi12_2 hi12_3 hr64 c65 hr67_0 hr67_1 ex70 tx70), (v_spell_43 σ k0 x1 y61 F62 n63 r64 r66 F68 n69 x70 hpre_0 hpre_1 hpre_2 hpre_3 ex1 tx1 c2 hi12_0 hi12_1 hi12_2 hi12_3 hi12y hr64 c65 hr66y hr67y hr67_0 hr67_1 ex70 tx70)⟩ hP hS (lv_sub hl [0, 1, 2] rfl)
set_option maxHeartbeats 4000000 in
set_option maxRecDepth 100000 in
theorem M_spell (l : Launch) (D : va_G) (cy : Nat → ClassId) (sz0 : Nat) (sa : Nat → Nat) (ad : Nat → Nat) (σ : RS) (sz : Nat) (k0 : Int32) (hpre : 0 ≤ k0.toInt ∧ k0.toInt < 980 ∧ 0 ≤ (σ.1 59).toInt ∧ (σ.1 59).toInt ≤ 48) : Met l yX12_spell (Cond.code yX12_spell cX12_spell 3 none :: GWm) ({ frames := 2, cells := 0, slots := 0, locals := 47 }) (PcR D cy sz0 sa ad [.ref (ad 0), .int k0] σ sz) (va_Qv (fun (u : (Nat → Int32) × Int32) => (0 ≤ u.2.toInt ∧ u.2.toInt ≤ 48) ∧ (∀ (v9 : QV) (s9 : List Int), QAT (qH (σ.2.1 36) (σ.2.1 37) (σ.2.1 38) (σ.2.1 39) (σ.2.1 40) (σ.2.1 41) (σ.2.1 42) (σ.2.1 43) (σ.2.1 44) (σ.2.1 45) (σ.2.1 46) (σ.2.1 48)) (σ.1 47).toInt ((σ.2.1 51), (σ.2.2.1 52), (σ.2.2.1 53), (σ.2.2.2)) k0.toNatClampNeg v9 → QB (σ.2.1 58) (σ.1 59) s9 → s9.length ≤ 20 → QB u.1 u.2 (s9 ++ qSpl v9))) (fun (u : (Nat → Int32) × Int32) (t : State) => RP D cy ad (rS (rA σ 58 u.1) 59 u.2) t.heap) (AR cy ad sz)) 0 0 (AR cy ad sz) := by
  refine RM_of (loc0 := [(0, .ref (ad 0)), (1, .int k0)]) (by decide) rfl rfl (Nat.le_of_ble_eq_true rfl) ?_
  intro p e s m below meth c ls hsz C hP hS hl
  have hx := C.1
  have hb := C.2.1
  have hown := C.2.2.2.2.1
  have hw := C.2.2.2.2.2.1
  clear hsz
  obtain ⟨hpre_0, hpre_1, hpre_2, hpre_3⟩ := hpre
  refine lv_aload_n hx hb dX12_spell_0 rfl (lv_at hl 0 rfl) ?_
  refine rg_51 C hP wm_205 dX12_spell_1 ?_
  refine lv_iload_n hx hb dX12_spell_4 rfl (lv_at hl 1 rfl) ?_
  refine ra_51 (f := (σ.2.1 51)) C hP rfl (v_spell_1 k0 hpre_0 hpre_1) dX12_spell_5 (fun x1 ex1 => ?_)
  have tx1 : x1.toInt = ((σ.2.1 51) k0.toNatClampNeg).toInt := by rw [ex1]
  refine lv_iconst (v := 4) hx hb dX12_spell_6 (by decide +kernel) ?_
  refine lv_icmp_ne (tgt := 40) hx hb dX12_spell_7 (by decide) (fun c2 => ?_) (fun c2 => ?_)
  · have c2 : ¬ x1.toInt = 4 := by have h := z_ne c2; rw [show (4 : Int32).toInt = 4 from by decide +kernel] at h; exact h
    refine lv_aload_n hx hb dX12_spell_40 rfl (lv_at hl 0 rfl) ?_
    refine rg_51 C hP wm_205 dX12_spell_41 ?_
    refine lv_iload_n hx hb dX12_spell_44 rfl (lv_at hl 1 rfl) ?_
    refine ra_51 (f := (σ.2.1 51)) C hP rfl (v_spell_2 σ k0 x1 hpre_0 hpre_1 ex1 tx1 c2) dX12_spell_45 (fun x3 ex3 => ?_)
    have tx3 : x3.toInt = ((σ.2.1 51) k0.toNatClampNeg).toInt := by rw [ex3]
    refine lv_iconst (v := 2) hx hb dX12_spell_46 (by decide +kernel) ?_
    refine lv_icmp_ne (tgt := 64) hx hb dX12_spell_47 (by decide) (fun c4 => ?_) (fun c4 => ?_)
    · have c4 : ¬ x3.toInt = 2 := by have h := z_ne c4; rw [show (2 : Int32).toInt = 2 from by decide +kernel] at h; exact h
      refine lv_aload_n hx hb dX12_spell_64 rfl (lv_at hl 0 rfl) ?_
      refine rg_51 C hP wm_205 dX12_spell_65 ?_
      refine lv_iload_n hx hb dX12_spell_68 rfl (lv_at hl 1 rfl) ?_
      refine ra_51 (f := (σ.2.1 51)) C hP rfl (v_spell_3 σ k0 x1 x3 hpre_0 hpre_1 ex1 tx1 c2 ex3 tx3 c4) dX12_spell_69 (fun x5 ex5 => ?_)
      have tx5 : x5.toInt = ((σ.2.1 51) k0.toNatClampNeg).toInt := by rw [ex5]
      refine lv_iconst (v := 3) hx hb dX12_spell_70 (by decide +kernel) ?_
      refine lv_icmp_ne (tgt := 88) hx hb dX12_spell_71 (by decide) (fun c6 => ?_) (fun c6 => ?_)
      · have c6 : ¬ x5.toInt = 3 := by have h := z_ne c6; rw [show (3 : Int32).toInt = 3 from by decide +kernel] at h; exact h
        refine lv_aload_n hx hb dX12_spell_88 rfl (lv_at hl 0 rfl) ?_
        refine rg_51 C hP wm_205 dX12_spell_89 ?_
        refine lv_iload_n hx hb dX12_spell_92 rfl (lv_at hl 1 rfl) ?_
        refine ra_51 (f := (σ.2.1 51)) C hP rfl (v_spell_4 σ k0 x1 x3 x5 hpre_0 hpre_1 ex1 tx1 c2 ex3 tx3 c4 ex5 tx5 c6) dX12_spell_93 (fun x7 ex7 => ?_)
        have tx7 : x7.toInt = ((σ.2.1 51) k0.toNatClampNeg).toInt := by rw [ex7]
        refine lv_iconst (v := 1) hx hb dX12_spell_94 (by decide +kernel) ?_
        refine lv_icmp_ne (tgt := 125) hx hb dX12_spell_95 (by decide) (fun c8 => ?_) (fun c8 => ?_)
        · have c8 : ¬ x7.toInt = 1 := by have h := z_ne c8; rw [show (1 : Int32).toInt = 1 from by decide +kernel] at h; exact h
          refine lv_aload_n hx hb dX12_spell_125 rfl (lv_at hl 0 rfl) ?_
          refine rg_51 C hP wm_205 dX12_spell_126 ?_
          refine lv_iload_n hx hb dX12_spell_129 rfl (lv_at hl 1 rfl) ?_
          refine ra_51 (f := (σ.2.1 51)) C hP rfl (v_spell_5 σ k0 x1 x3 x5 x7 hpre_0 hpre_1 ex1 tx1 c2 ex3 tx3 c4 ex5 tx5 c6 ex7 tx7 c8) dX12_spell_130 (fun x9 ex9 => ?_)
          have tx9 : x9.toInt = ((σ.2.1 51) k0.toNatClampNeg).toInt := by rw [ex9]
          refine lv_iconst (v := 1) hx hb dX12_spell_131 (by decide +kernel) ?_
          refine lv_icmp_ne (tgt := 152) hx hb dX12_spell_132 (by decide) (fun c10 => ?_) (fun c10 => ?_)
          · have c10 : ¬ x9.toInt = 1 := by have h := z_ne c10; rw [show (1 : Int32).toInt = 1 from by decide +kernel] at h; exact h
            refine lv_aload_n hx hb dX12_spell_152 rfl (lv_at hl 0 rfl) ?_
            refine rg_51 C hP wm_205 dX12_spell_153 ?_
            refine lv_iload_n hx hb dX12_spell_156 rfl (lv_at hl 1 rfl) ?_
            refine ra_51 (f := (σ.2.1 51)) C hP rfl (v_spell_6 σ k0 x1 x3 x5 x7 x9 hpre_0 hpre_1 ex1 tx1 c2 ex3 tx3 c4 ex5 tx5 c6 ex7 tx7 c8 ex9 tx9 c10) dX12_spell_157 (fun x11 ex11 => ?_)
            have tx11 : x11.toInt = ((σ.2.1 51) k0.toNatClampNeg).toInt := by rw [ex11]
            refine lv_if_ne (tgt := 177) hx hb dX12_spell_158 (by decide) (fun c12 => ?_) (fun c12 => ?_)
            · have c12 : ¬ x11.toInt = 0 := by have h := z_ne c12; rw [show (0 : Int32).toInt = 0 from by decide +kernel] at h; exact h
              refine lv_aload_n hx hb dX12_spell_177 rfl (lv_at hl 0 rfl) ?_
              refine lv_bipush (v := 111) hx hb dX12_spell_178 (by decide +kernel) ?_
              refine r_callVv (As := [.int 111]) (rest := []) C hP hS hl.1 ⟨Nat.zero_le _, Nat.zero_le _⟩ (M_build l D cy sz0 sa ad σ s.heap.size (111 : Int32) (v_spell_7 σ hpre_2 hpre_3)) (n := 1) ⟨wm_223, wm_219, by decide +kernel⟩ ⟨wm_224, wm_225, wm_10⟩ rfl rfl (lv_room (Nat.le_of_ble_eq_true rfl)) ⟨Nat.le_of_ble_eq_true rfl, Nat.le_of_ble_eq_true rfl⟩ dX12_spell_180 (fun u H locs hr13 hP hS => ?_)
              obtain ⟨F14, n15⟩ := u
              obtain ⟨hr13, hr13y⟩ := hr13
              have hr13y : ∀ s9 : List Int, QB (σ.2.1 58) (σ.1 59) s9 → s9.length < 48 → QB F14 n15 (s9 ++ [(111 : Int32).toInt]) := hr13y
              have hr13 : 0 ≤ n15.toInt ∧ n15.toInt ≤ 48 := hr13
              obtain ⟨hr13_0, hr13_1⟩ := hr13
              have hP : RP D cy ad (rS (rA σ 58 F14) 59 n15) H := hP
              refine lv_aload_n hx hb dX12_spell_183 rfl (lv_at hl 0 rfl) ?_
              refine lv_aload_n hx hb dX12_spell_184 rfl (lv_at hl 0 rfl) ?_
              refine rg_52 C hP wm_206 dX12_spell_185 ?_
              refine lv_iload_n hx hb dX12_spell_188 rfl (lv_at hl 1 rfl) ?_
              refine ra_52 (f := (σ.2.2.1 52)) C hP rfl (v_spell_8 σ k0 x1 x3 x5 x7 x9 x11 hpre_0 hpre_1 ex1 tx1 c2 ex3 tx3 c4 ex5 tx5 c6 ex7 tx7 c8 ex9 tx9 c10 ex11 tx11 c12) dX12_spell_189 (fun x16 ex16 => ?_)
              have tx16 : x16.toInt = ((σ.2.2.1 52) k0.toNatClampNeg).toInt := by rw [ex16]
              refine lv_l2i hx hb dX12_spell_190 rfl ?_
              refine lv_topi (fun x17 ex17 => ?_)
              have tx17 : -2147483648 ≤ x16.toInt → x16.toInt < 2147483648 → x17.toInt = x16.toInt := z_l2i ex17
              refine r_callVv (As := [.int x17]) (rest := []) C hP hS hl.1 ⟨Nat.zero_le _, Nat.zero_le _⟩ (M_buildNumber l D cy sz0 sa ad (rS (rA σ 58 F14) 59 n15) H.size x17 (v_spell_9 n15 hr13_0 hr13_1)) (n := 1) ⟨wm_234, wm_222, by decide +kernel⟩ ⟨wm_235, wm_236, wm_10⟩ rfl rfl (lv_room (Nat.le_of_ble_eq_true rfl)) ⟨Nat.le_of_ble_eq_true rfl, Nat.le_of_ble_eq_true rfl⟩ dX12_spell_191 (fun u H locs hr18 hP hS => ?_)
              obtain ⟨F19, n20⟩ := u
              obtain ⟨hr18, hr18y⟩ := hr18
              have hr18y : ∀ s9 : List Int, QB F14 n15 s9 → s9.length ≤ 36 → QB F19 n20 (s9 ++ qDec x17.toInt) := hr18y
              have hr18 : 0 ≤ n20.toInt ∧ n20.toInt ≤ 48 := hr18
              obtain ⟨hr18_0, hr18_1⟩ := hr18
              have hP : RP D cy ad (rS (rA (rS (rA σ 58 F14) 59 n15) 58 F19) 59 n20) H := hP
              have hP : RP D cy ad (rS (rA σ 58 F19) 59 n20) H := RP.cong hP (Eq.trans (b := (σ.1 0)) rfl rfl) (Eq.trans (b := (σ.1 1)) rfl rfl) (Eq.trans (b := (σ.2.1 2)) rfl rfl) (Eq.trans (b := (σ.1 3)) rfl rfl) (Eq.trans (b := (σ.2.1 4)) rfl rfl) (Eq.trans (b := (σ.2.1 5)) rfl rfl) (Eq.trans (b := (σ.2.2.1 6)) rfl rfl) (Eq.trans (b := (σ.2.1 7)) rfl rfl) (Eq.trans (b := (σ.1 8)) rfl rfl) (Eq.trans (b := (σ.1 9)) rfl rfl) (Eq.trans (b := (σ.1 10)) rfl rfl) (Eq.trans (b := (σ.2.1 11)) rfl rfl) (Eq.trans (b := (σ.2.2.1 12)) rfl rfl) (Eq.trans (b := (σ.2.1 13)) rfl rfl) (Eq.trans (b := (σ.1 14)) rfl rfl) (Eq.trans (b := (σ.1 15)) rfl rfl) (Eq.trans (b := (σ.1 16)) rfl rfl) (Eq.trans (b := (σ.1 17)) rfl rfl) (Eq.trans (b := (σ.1 18)) rfl rfl) (Eq.trans (b := (σ.1 19)) rfl rfl) (Eq.trans (b := (σ.2.1 20)) rfl rfl) (Eq.trans (b := (σ.2.1 21)) rfl rfl) (Eq.trans (b := (σ.2.1 22)) rfl rfl) (Eq.trans (b := (σ.2.1 23)) rfl rfl) (Eq.trans (b := (σ.2.1 24)) rfl rfl) (Eq.trans (b := (σ.2.1 25)) rfl rfl) (Eq.trans (b := (σ.2.1 26)) rfl rfl) (Eq.trans (b := (σ.2.1 27)) rfl rfl) (Eq.trans (b := (σ.2.1 28)) rfl rfl) (Eq.trans (b := (σ.1 29)) rfl rfl) (Eq.trans (b := (σ.2.1 30)) rfl rfl) (Eq.trans (b := (σ.2.1 31)) rfl rfl) (Eq.trans (b := (σ.2.1 32)) rfl rfl) (Eq.trans (b := (σ.1 33)) rfl rfl) (Eq.trans (b := (σ.1 34)) rfl rfl) (Eq.trans (b := (σ.1 35)) rfl rfl) (Eq.trans (b := (σ.2.1 36)) rfl rfl) (Eq.trans (b := (σ.2.1 37)) rfl rfl) (Eq.trans (b := (σ.2.1 38)) rfl rfl) (Eq.trans (b := (σ.2.1 39)) rfl rfl) (Eq.trans (b := (σ.2.1 40)) rfl rfl) (Eq.trans (b := (σ.2.1 41)) rfl rfl) (Eq.trans (b := (σ.2.1 42)) rfl rfl) (Eq.trans (b := (σ.2.1 43)) rfl rfl) (Eq.trans (b := (σ.2.1 44)) rfl rfl) (Eq.trans (b := (σ.2.1 45)) rfl rfl) (Eq.trans (b := (σ.2.1 46)) rfl rfl) (Eq.trans (b := (σ.1 47)) rfl rfl) (Eq.trans (b := (σ.2.1 48)) rfl rfl) (Eq.trans (b := (σ.1 49)) rfl rfl) (Eq.trans (b := (σ.2.1 50)) rfl rfl) (Eq.trans (b := (σ.2.1 51)) rfl rfl) (Eq.trans (b := (σ.2.2.1 52)) rfl rfl) (Eq.trans (b := (σ.2.2.1 53)) rfl rfl) (Eq.trans (b := (σ.2.2.2)) rfl rfl) (Eq.trans (b := (σ.1 55)) rfl rfl) (Eq.trans (b := (σ.1 56)) rfl rfl) (Eq.trans (b := (σ.1 57)) rfl rfl) (Eq.trans (b := F19) rfl rfl) (Eq.trans (b := n20) rfl rfl)
              exact r_retv C ⟨F19, n20⟩ ⟨(v_spell_10 n20 hr18_0 hr18_1), (v_spell_11 σ k0 x1 x3 x5 x7 x9 x11 F14 n15 x16 x17 F19 n20 hpre_0 hpre_1 hpre_2 hpre_3 ex1 tx1 c2 ex3 tx3 c4 ex5 tx5 c6 ex7 tx7 c8 ex9 tx9 c10 ex11 tx11 c12 hr13y hr13_0 hr13_1 ex16 tx16 ex17 tx17 hr18y hr18_0 hr18_1)⟩ hP hS dX12_spell_194
            · have c12 : x11.toInt = 0 := by have h := z_eq c12; rw [show (0 : Int32).toInt = 0 from by decide +kernel] at h; exact h
              refine lv_aload_n hx hb dX12_spell_161 rfl (lv_at hl 0 rfl) ?_
              refine lv_bipush (v := 110) hx hb dX12_spell_162 (by decide +kernel) ?_
              refine lv_bipush (v := 117) hx hb dX12_spell_164 (by decide +kernel) ?_
              refine lv_bipush (v := 108) hx hb dX12_spell_166 (by decide +kernel) ?_
              refine lv_bipush (v := 108) hx hb dX12_spell_168 (by decide +kernel) ?_
              refine lv_iconst (v := 0) hx hb dX12_spell_170 (by decide +kernel) ?_
              refine r_callVv (As := [.int 110, .int 117, .int 108, .int 108, .int 0]) (rest := []) C hP hS hl.1 ⟨Nat.zero_le _, Nat.zero_le _⟩ (M_buildWord l D cy sz0 sa ad σ s.heap.size (110 : Int32) (117 : Int32) (108 : Int32) (108 : Int32) (0 : Int32) (v_spell_7 σ hpre_2 hpre_3)) (n := 5) ⟨wm_237, wm_226, by decide +kernel⟩ ⟨wm_238, wm_239, wm_10⟩ rfl rfl (lv_room (Nat.le_of_ble_eq_true rfl)) ⟨Nat.le_of_ble_eq_true rfl, Nat.le_of_ble_eq_true rfl⟩ dX12_spell_171 (fun u H locs hr21 hP hS => ?_)
              obtain ⟨F22, n23⟩ := u
              obtain ⟨hr21, hr21y⟩ := hr21
              have hr21y : ∀ s9 : List Int, QB (σ.2.1 58) (σ.1 59) s9 → s9.length ≤ 36 → QB F22 n23 (s9 ++ ([(110 : Int32).toInt, (117 : Int32).toInt, (108 : Int32).toInt, (108 : Int32).toInt] ++ if 0 < (0 : Int32).toInt then [(0 : Int32).toInt] else [])) := hr21y
              have hr21 : 0 ≤ n23.toInt ∧ n23.toInt ≤ 48 := hr21
              obtain ⟨hr21_0, hr21_1⟩ := hr21
              have hP : RP D cy ad (rS (rA σ 58 F22) 59 n23) H := hP
              refine lv_goto (tgt := 194) hx hb dX12_spell_174 (by decide) ?_
              exact r_retv C ⟨F22, n23⟩ ⟨(v_spell_12 n23 hr21_0 hr21_1), (v_spell_13 σ k0 x1 x3 x5 x7 x9 x11 F22 n23 hpre_0 hpre_1 hpre_2 hpre_3 ex1 tx1 c2 ex3 tx3 c4 ex5 tx5 c6 ex7 tx7 c8 ex9 tx9 c10 ex11 tx11 c12 hr21y hr21_0 hr21_1)⟩ hP hS dX12_spell_194
          · have c10 : x9.toInt = 1 := by have h := z_eq c10; rw [show (1 : Int32).toInt = 1 from by decide +kernel] at h; exact h
            refine lv_aload_n hx hb dX12_spell_135 rfl (lv_at hl 0 rfl) ?_
            refine lv_bipush (v := 102) hx hb dX12_spell_136 (by decide +kernel) ?_
            refine lv_bipush (v := 97) hx hb dX12_spell_138 (by decide +kernel) ?_
            refine lv_bipush (v := 108) hx hb dX12_spell_140 (by decide +kernel) ?_
            refine lv_bipush (v := 115) hx hb dX12_spell_142 (by decide +kernel) ?_
            refine lv_bipush (v := 101) hx hb dX12_spell_144 (by decide +kernel) ?_
            refine r_callVv (As := [.int 102, .int 97, .int 108, .int 115, .int 101]) (rest := []) C hP hS hl.1 ⟨Nat.zero_le _, Nat.zero_le _⟩ (M_buildWord l D cy sz0 sa ad σ s.heap.size (102 : Int32) (97 : Int32) (108 : Int32) (115 : Int32) (101 : Int32) (v_spell_7 σ hpre_2 hpre_3)) (n := 5) ⟨wm_237, wm_226, by decide +kernel⟩ ⟨wm_238, wm_239, wm_10⟩ rfl rfl (lv_room (Nat.le_of_ble_eq_true rfl)) ⟨Nat.le_of_ble_eq_true rfl, Nat.le_of_ble_eq_true rfl⟩ dX12_spell_146 (fun u H locs hr24 hP hS => ?_)
            obtain ⟨F25, n26⟩ := u
            obtain ⟨hr24, hr24y⟩ := hr24
            have hr24y : ∀ s9 : List Int, QB (σ.2.1 58) (σ.1 59) s9 → s9.length ≤ 36 → QB F25 n26 (s9 ++ ([(102 : Int32).toInt, (97 : Int32).toInt, (108 : Int32).toInt, (115 : Int32).toInt] ++ if 0 < (101 : Int32).toInt then [(101 : Int32).toInt] else [])) := hr24y
            have hr24 : 0 ≤ n26.toInt ∧ n26.toInt ≤ 48 := hr24
            obtain ⟨hr24_0, hr24_1⟩ := hr24
            have hP : RP D cy ad (rS (rA σ 58 F25) 59 n26) H := hP
            refine lv_goto (tgt := 194) hx hb dX12_spell_149 (by decide) ?_
            exact r_retv C ⟨F25, n26⟩ ⟨(v_spell_14 n26 hr24_0 hr24_1), (v_spell_15 σ k0 x1 x3 x5 x7 x9 F25 n26 hpre_0 hpre_1 hpre_2 hpre_3 ex1 tx1 c2 ex3 tx3 c4 ex5 tx5 c6 ex7 tx7 c8 ex9 tx9 c10 hr24y hr24_0 hr24_1)⟩ hP hS dX12_spell_194
        · have c8 : x7.toInt = 1 := by have h := z_eq c8; rw [show (1 : Int32).toInt = 1 from by decide +kernel] at h; exact h
          refine lv_aload_n hx hb dX12_spell_98 rfl (lv_at hl 0 rfl) ?_
          refine rg_52 C hP wm_206 dX12_spell_99 ?_
          refine lv_iload_n hx hb dX12_spell_102 rfl (lv_at hl 1 rfl) ?_
          refine ra_52 (f := (σ.2.2.1 52)) C hP rfl (v_spell_16 σ k0 x1 x3 x5 x7 hpre_0 hpre_1 ex1 tx1 c2 ex3 tx3 c4 ex5 tx5 c6 ex7 tx7 c8) dX12_spell_103 (fun x27 ex27 => ?_)
          have tx27 : x27.toInt = ((σ.2.2.1 52) k0.toNatClampNeg).toInt := by rw [ex27]
          refine lv_lconst (v := 1) hx hb dX12_spell_104 rfl ?_
          refine W.lcmp hx hb dX12_spell_105 ?_
          refine lv_topi (fun x28 ex28 => ?_)
          have tx28 : (x28.toInt = 0 ↔ x27.toInt = 1) ∧ (x28.toInt < 0 ↔ x27.toInt < 1) := z_lcmp ex28 rfl (by decide +kernel)
          refine lv_if_ne (tgt := 125) hx hb dX12_spell_106 (by decide) (fun c29 => ?_) (fun c29 => ?_)
          · have c29 : ¬ x28.toInt = 0 := by have h := z_ne c29; rw [show (0 : Int32).toInt = 0 from by decide +kernel] at h; exact h
            refine lv_aload_n hx hb dX12_spell_125 rfl (lv_at hl 0 rfl) ?_
            refine rg_51 C hP wm_205 dX12_spell_126 ?_
            refine lv_iload_n hx hb dX12_spell_129 rfl (lv_at hl 1 rfl) ?_
            refine ra_51 (f := (σ.2.1 51)) C hP rfl (v_spell_17 σ k0 x1 x3 x5 x7 x27 x28 hpre_0 hpre_1 ex1 tx1 c2 ex3 tx3 c4 ex5 tx5 c6 ex7 tx7 c8 ex27 tx27 tx28 c29) dX12_spell_130 (fun x30 ex30 => ?_)
            have tx30 : x30.toInt = ((σ.2.1 51) k0.toNatClampNeg).toInt := by rw [ex30]
            refine lv_iconst (v := 1) hx hb dX12_spell_131 (by decide +kernel) ?_
            refine lv_icmp_ne (tgt := 152) hx hb dX12_spell_132 (by decide) (fun c31 => ?_) (fun c31 => ?_)
            · have c31 : ¬ x30.toInt = 1 := by have h := z_ne c31; rw [show (1 : Int32).toInt = 1 from by decide +kernel] at h; exact h
              refine lv_aload_n hx hb dX12_spell_152 rfl (lv_at hl 0 rfl) ?_
              refine rg_51 C hP wm_205 dX12_spell_153 ?_
              refine lv_iload_n hx hb dX12_spell_156 rfl (lv_at hl 1 rfl) ?_
              refine ra_51 (f := (σ.2.1 51)) C hP rfl (v_spell_18 σ k0 x1 x3 x5 x7 x27 x28 x30 hpre_0 hpre_1 ex1 tx1 c2 ex3 tx3 c4 ex5 tx5 c6 ex7 tx7 c8 ex27 tx27 tx28 c29 ex30 tx30 c31) dX12_spell_157 (fun x32 ex32 => ?_)
              have tx32 : x32.toInt = ((σ.2.1 51) k0.toNatClampNeg).toInt := by rw [ex32]
              refine lv_if_ne (tgt := 177) hx hb dX12_spell_158 (by decide) (fun c33 => ?_) (fun c33 => ?_)
              · have c33 : ¬ x32.toInt = 0 := by have h := z_ne c33; rw [show (0 : Int32).toInt = 0 from by decide +kernel] at h; exact h
                refine lv_aload_n hx hb dX12_spell_177 rfl (lv_at hl 0 rfl) ?_
                refine lv_bipush (v := 111) hx hb dX12_spell_178 (by decide +kernel) ?_
                refine r_callVv (As := [.int 111]) (rest := []) C hP hS hl.1 ⟨Nat.zero_le _, Nat.zero_le _⟩ (M_build l D cy sz0 sa ad σ s.heap.size (111 : Int32) (v_spell_7 σ hpre_2 hpre_3)) (n := 1) ⟨wm_223, wm_219, by decide +kernel⟩ ⟨wm_224, wm_225, wm_10⟩ rfl rfl (lv_room (Nat.le_of_ble_eq_true rfl)) ⟨Nat.le_of_ble_eq_true rfl, Nat.le_of_ble_eq_true rfl⟩ dX12_spell_180 (fun u H locs hr34 hP hS => ?_)
                obtain ⟨F35, n36⟩ := u
                obtain ⟨hr34, hr34y⟩ := hr34
                have hr34y : ∀ s9 : List Int, QB (σ.2.1 58) (σ.1 59) s9 → s9.length < 48 → QB F35 n36 (s9 ++ [(111 : Int32).toInt]) := hr34y
                have hr34 : 0 ≤ n36.toInt ∧ n36.toInt ≤ 48 := hr34
                obtain ⟨hr34_0, hr34_1⟩ := hr34
                have hP : RP D cy ad (rS (rA σ 58 F35) 59 n36) H := hP
                refine lv_aload_n hx hb dX12_spell_183 rfl (lv_at hl 0 rfl) ?_
                refine lv_aload_n hx hb dX12_spell_184 rfl (lv_at hl 0 rfl) ?_
                refine rg_52 C hP wm_206 dX12_spell_185 ?_
                refine lv_iload_n hx hb dX12_spell_188 rfl (lv_at hl 1 rfl) ?_
                refine ra_52 (f := (σ.2.2.1 52)) C hP rfl (v_spell_19 σ k0 x1 x3 x5 x7 x27 x28 x30 x32 hpre_0 hpre_1 ex1 tx1 c2 ex3 tx3 c4 ex5 tx5 c6 ex7 tx7 c8 ex27 tx27 tx28 c29 ex30 tx30 c31 ex32 tx32 c33) dX12_spell_189 (fun x37 ex37 => ?_)
                have tx37 : x37.toInt = ((σ.2.2.1 52) k0.toNatClampNeg).toInt := by rw [ex37]
                refine lv_l2i hx hb dX12_spell_190 rfl ?_
                refine lv_topi (fun x38 ex38 => ?_)
                have tx38 : -2147483648 ≤ x37.toInt → x37.toInt < 2147483648 → x38.toInt = x37.toInt := z_l2i ex38
                refine r_callVv (As := [.int x38]) (rest := []) C hP hS hl.1 ⟨Nat.zero_le _, Nat.zero_le _⟩ (M_buildNumber l D cy sz0 sa ad (rS (rA σ 58 F35) 59 n36) H.size x38 (v_spell_20 n36 hr34_0 hr34_1)) (n := 1) ⟨wm_234, wm_222, by decide +kernel⟩ ⟨wm_235, wm_236, wm_10⟩ rfl rfl (lv_room (Nat.le_of_ble_eq_true rfl)) ⟨Nat.le_of_ble_eq_true rfl, Nat.le_of_ble_eq_true rfl⟩ dX12_spell_191 (fun u H locs hr39 hP hS => ?_)
                obtain ⟨F40, n41⟩ := u
                obtain ⟨hr39, hr39y⟩ := hr39
                have hr39y : ∀ s9 : List Int, QB F35 n36 s9 → s9.length ≤ 36 → QB F40 n41 (s9 ++ qDec x38.toInt) := hr39y
                have hr39 : 0 ≤ n41.toInt ∧ n41.toInt ≤ 48 := hr39
                obtain ⟨hr39_0, hr39_1⟩ := hr39
                have hP : RP D cy ad (rS (rA (rS (rA σ 58 F35) 59 n36) 58 F40) 59 n41) H := hP
                have hP : RP D cy ad (rS (rA σ 58 F40) 59 n41) H := RP.cong hP (Eq.trans (b := (σ.1 0)) rfl rfl) (Eq.trans (b := (σ.1 1)) rfl rfl) (Eq.trans (b := (σ.2.1 2)) rfl rfl) (Eq.trans (b := (σ.1 3)) rfl rfl) (Eq.trans (b := (σ.2.1 4)) rfl rfl) (Eq.trans (b := (σ.2.1 5)) rfl rfl) (Eq.trans (b := (σ.2.2.1 6)) rfl rfl) (Eq.trans (b := (σ.2.1 7)) rfl rfl) (Eq.trans (b := (σ.1 8)) rfl rfl) (Eq.trans (b := (σ.1 9)) rfl rfl) (Eq.trans (b := (σ.1 10)) rfl rfl) (Eq.trans (b := (σ.2.1 11)) rfl rfl) (Eq.trans (b := (σ.2.2.1 12)) rfl rfl) (Eq.trans (b := (σ.2.1 13)) rfl rfl) (Eq.trans (b := (σ.1 14)) rfl rfl) (Eq.trans (b := (σ.1 15)) rfl rfl) (Eq.trans (b := (σ.1 16)) rfl rfl) (Eq.trans (b := (σ.1 17)) rfl rfl) (Eq.trans (b := (σ.1 18)) rfl rfl) (Eq.trans (b := (σ.1 19)) rfl rfl) (Eq.trans (b := (σ.2.1 20)) rfl rfl) (Eq.trans (b := (σ.2.1 21)) rfl rfl) (Eq.trans (b := (σ.2.1 22)) rfl rfl) (Eq.trans (b := (σ.2.1 23)) rfl rfl) (Eq.trans (b := (σ.2.1 24)) rfl rfl) (Eq.trans (b := (σ.2.1 25)) rfl rfl) (Eq.trans (b := (σ.2.1 26)) rfl rfl) (Eq.trans (b := (σ.2.1 27)) rfl rfl) (Eq.trans (b := (σ.2.1 28)) rfl rfl) (Eq.trans (b := (σ.1 29)) rfl rfl) (Eq.trans (b := (σ.2.1 30)) rfl rfl) (Eq.trans (b := (σ.2.1 31)) rfl rfl) (Eq.trans (b := (σ.2.1 32)) rfl rfl) (Eq.trans (b := (σ.1 33)) rfl rfl) (Eq.trans (b := (σ.1 34)) rfl rfl) (Eq.trans (b := (σ.1 35)) rfl rfl) (Eq.trans (b := (σ.2.1 36)) rfl rfl) (Eq.trans (b := (σ.2.1 37)) rfl rfl) (Eq.trans (b := (σ.2.1 38)) rfl rfl) (Eq.trans (b := (σ.2.1 39)) rfl rfl) (Eq.trans (b := (σ.2.1 40)) rfl rfl) (Eq.trans (b := (σ.2.1 41)) rfl rfl) (Eq.trans (b := (σ.2.1 42)) rfl rfl) (Eq.trans (b := (σ.2.1 43)) rfl rfl) (Eq.trans (b := (σ.2.1 44)) rfl rfl) (Eq.trans (b := (σ.2.1 45)) rfl rfl) (Eq.trans (b := (σ.2.1 46)) rfl rfl) (Eq.trans (b := (σ.1 47)) rfl rfl) (Eq.trans (b := (σ.2.1 48)) rfl rfl) (Eq.trans (b := (σ.1 49)) rfl rfl) (Eq.trans (b := (σ.2.1 50)) rfl rfl) (Eq.trans (b := (σ.2.1 51)) rfl rfl) (Eq.trans (b := (σ.2.2.1 52)) rfl rfl) (Eq.trans (b := (σ.2.2.1 53)) rfl rfl) (Eq.trans (b := (σ.2.2.2)) rfl rfl) (Eq.trans (b := (σ.1 55)) rfl rfl) (Eq.trans (b := (σ.1 56)) rfl rfl) (Eq.trans (b := (σ.1 57)) rfl rfl) (Eq.trans (b := F40) rfl rfl) (Eq.trans (b := n41) rfl rfl)
                exact r_retv C ⟨F40, n41⟩ ⟨(v_spell_21 n41 hr39_0 hr39_1), (v_spell_22 σ k0 x1 x3 x5 x7 x27 x28 x30 x32 F35 n36 x37 x38 F40 n41 hpre_0 hpre_1 hpre_2 hpre_3 ex1 tx1 c2 ex3 tx3 c4 ex5 tx5 c6 ex7 tx7 c8 ex27 tx27 tx28 c29 ex30 tx30 c31 ex32 tx32 c33 hr34y hr34_0 hr34_1 ex37 tx37 ex38 tx38 hr39y hr39_0 hr39_1)⟩ hP hS dX12_spell_194
              · have c33 : x32.toInt = 0 := by have h := z_eq c33; rw [show (0 : Int32).toInt = 0 from by decide +kernel] at h; exact h
                refine lv_aload_n hx hb dX12_spell_161 rfl (lv_at hl 0 rfl) ?_
                refine lv_bipush (v := 110) hx hb dX12_spell_162 (by decide +kernel) ?_
                refine lv_bipush (v := 117) hx hb dX12_spell_164 (by decide +kernel) ?_
                refine lv_bipush (v := 108) hx hb dX12_spell_166 (by decide +kernel) ?_
                refine lv_bipush (v := 108) hx hb dX12_spell_168 (by decide +kernel) ?_
                refine lv_iconst (v := 0) hx hb dX12_spell_170 (by decide +kernel) ?_
                refine r_callVv (As := [.int 110, .int 117, .int 108, .int 108, .int 0]) (rest := []) C hP hS hl.1 ⟨Nat.zero_le _, Nat.zero_le _⟩ (M_buildWord l D cy sz0 sa ad σ s.heap.size (110 : Int32) (117 : Int32) (108 : Int32) (108 : Int32) (0 : Int32) (v_spell_7 σ hpre_2 hpre_3)) (n := 5) ⟨wm_237, wm_226, by decide +kernel⟩ ⟨wm_238, wm_239, wm_10⟩ rfl rfl (lv_room (Nat.le_of_ble_eq_true rfl)) ⟨Nat.le_of_ble_eq_true rfl, Nat.le_of_ble_eq_true rfl⟩ dX12_spell_171 (fun u H locs hr42 hP hS => ?_)
                obtain ⟨F43, n44⟩ := u
                obtain ⟨hr42, hr42y⟩ := hr42
                have hr42y : ∀ s9 : List Int, QB (σ.2.1 58) (σ.1 59) s9 → s9.length ≤ 36 → QB F43 n44 (s9 ++ ([(110 : Int32).toInt, (117 : Int32).toInt, (108 : Int32).toInt, (108 : Int32).toInt] ++ if 0 < (0 : Int32).toInt then [(0 : Int32).toInt] else [])) := hr42y
                have hr42 : 0 ≤ n44.toInt ∧ n44.toInt ≤ 48 := hr42
                obtain ⟨hr42_0, hr42_1⟩ := hr42
                have hP : RP D cy ad (rS (rA σ 58 F43) 59 n44) H := hP
                refine lv_goto (tgt := 194) hx hb dX12_spell_174 (by decide) ?_
                exact r_retv C ⟨F43, n44⟩ ⟨(v_spell_23 n44 hr42_0 hr42_1), (v_spell_24 σ k0 x1 x3 x5 x7 x27 x28 x30 x32 F43 n44 hpre_0 hpre_1 hpre_2 hpre_3 ex1 tx1 c2 ex3 tx3 c4 ex5 tx5 c6 ex7 tx7 c8 ex27 tx27 tx28 c29 ex30 tx30 c31 ex32 tx32 c33 hr42y hr42_0 hr42_1)⟩ hP hS dX12_spell_194
            · have c31 : x30.toInt = 1 := by have h := z_eq c31; rw [show (1 : Int32).toInt = 1 from by decide +kernel] at h; exact h
              refine lv_aload_n hx hb dX12_spell_135 rfl (lv_at hl 0 rfl) ?_
              refine lv_bipush (v := 102) hx hb dX12_spell_136 (by decide +kernel) ?_
              refine lv_bipush (v := 97) hx hb dX12_spell_138 (by decide +kernel) ?_
              refine lv_bipush (v := 108) hx hb dX12_spell_140 (by decide +kernel) ?_
              refine lv_bipush (v := 115) hx hb dX12_spell_142 (by decide +kernel) ?_
              refine lv_bipush (v := 101) hx hb dX12_spell_144 (by decide +kernel) ?_
              refine r_callVv (As := [.int 102, .int 97, .int 108, .int 115, .int 101]) (rest := []) C hP hS hl.1 ⟨Nat.zero_le _, Nat.zero_le _⟩ (M_buildWord l D cy sz0 sa ad σ s.heap.size (102 : Int32) (97 : Int32) (108 : Int32) (115 : Int32) (101 : Int32) (v_spell_7 σ hpre_2 hpre_3)) (n := 5) ⟨wm_237, wm_226, by decide +kernel⟩ ⟨wm_238, wm_239, wm_10⟩ rfl rfl (lv_room (Nat.le_of_ble_eq_true rfl)) ⟨Nat.le_of_ble_eq_true rfl, Nat.le_of_ble_eq_true rfl⟩ dX12_spell_146 (fun u H locs hr45 hP hS => ?_)
              obtain ⟨F46, n47⟩ := u
              obtain ⟨hr45, hr45y⟩ := hr45
              have hr45y : ∀ s9 : List Int, QB (σ.2.1 58) (σ.1 59) s9 → s9.length ≤ 36 → QB F46 n47 (s9 ++ ([(102 : Int32).toInt, (97 : Int32).toInt, (108 : Int32).toInt, (115 : Int32).toInt] ++ if 0 < (101 : Int32).toInt then [(101 : Int32).toInt] else [])) := hr45y
              have hr45 : 0 ≤ n47.toInt ∧ n47.toInt ≤ 48 := hr45
              obtain ⟨hr45_0, hr45_1⟩ := hr45
              have hP : RP D cy ad (rS (rA σ 58 F46) 59 n47) H := hP
              refine lv_goto (tgt := 194) hx hb dX12_spell_149 (by decide) ?_
              exact r_retv C ⟨F46, n47⟩ ⟨(v_spell_25 n47 hr45_0 hr45_1), (v_spell_26 σ k0 x1 x3 x5 x7 x27 x28 x30 F46 n47 hpre_0 hpre_1 hpre_2 hpre_3 ex1 tx1 c2 ex3 tx3 c4 ex5 tx5 c6 ex7 tx7 c8 ex27 tx27 tx28 c29 ex30 tx30 c31 hr45y hr45_0 hr45_1)⟩ hP hS dX12_spell_194
          · have c29 : x28.toInt = 0 := by have h := z_eq c29; rw [show (0 : Int32).toInt = 0 from by decide +kernel] at h; exact h
            refine lv_aload_n hx hb dX12_spell_109 rfl (lv_at hl 0 rfl) ?_
            refine lv_bipush (v := 116) hx hb dX12_spell_110 (by decide +kernel) ?_
            refine lv_bipush (v := 114) hx hb dX12_spell_112 (by decide +kernel) ?_
            refine lv_bipush (v := 117) hx hb dX12_spell_114 (by decide +kernel) ?_
            refine lv_bipush (v := 101) hx hb dX12_spell_116 (by decide +kernel) ?_
            refine lv_iconst (v := 0) hx hb dX12_spell_118 (by decide +kernel) ?_
            refine r_callVv (As := [.int 116, .int 114, .int 117, .int 101, .int 0]) (rest := []) C hP hS hl.1 ⟨Nat.zero_le _, Nat.zero_le _⟩ (M_buildWord l D cy sz0 sa ad σ s.heap.size (116 : Int32) (114 : Int32) (117 : Int32) (101 : Int32) (0 : Int32) (v_spell_7 σ hpre_2 hpre_3)) (n := 5) ⟨wm_237, wm_226, by decide +kernel⟩ ⟨wm_238, wm_239, wm_10⟩ rfl rfl (lv_room (Nat.le_of_ble_eq_true rfl)) ⟨Nat.le_of_ble_eq_true rfl, Nat.le_of_ble_eq_true rfl⟩ dX12_spell_119 (fun u H locs hr48 hP hS => ?_)
            obtain ⟨F49, n50⟩ := u
            obtain ⟨hr48, hr48y⟩ := hr48
            have hr48y : ∀ s9 : List Int, QB (σ.2.1 58) (σ.1 59) s9 → s9.length ≤ 36 → QB F49 n50 (s9 ++ ([(116 : Int32).toInt, (114 : Int32).toInt, (117 : Int32).toInt, (101 : Int32).toInt] ++ if 0 < (0 : Int32).toInt then [(0 : Int32).toInt] else [])) := hr48y
            have hr48 : 0 ≤ n50.toInt ∧ n50.toInt ≤ 48 := hr48
            obtain ⟨hr48_0, hr48_1⟩ := hr48
            have hP : RP D cy ad (rS (rA σ 58 F49) 59 n50) H := hP
            refine lv_goto (tgt := 194) hx hb dX12_spell_122 (by decide) ?_
            exact r_retv C ⟨F49, n50⟩ ⟨(v_spell_27 n50 hr48_0 hr48_1), (v_spell_28 σ k0 x1 x3 x5 x7 x27 x28 F49 n50 hpre_0 hpre_1 hpre_2 hpre_3 ex1 tx1 c2 ex3 tx3 c4 ex5 tx5 c6 ex7 tx7 c8 ex27 tx27 tx28 c29 hr48y hr48_0 hr48_1)⟩ hP hS dX12_spell_194
      · have c6 : x5.toInt = 3 := by have h := z_eq c6; rw [show (3 : Int32).toInt = 3 from by decide +kernel] at h; exact h
        refine lv_aload_n hx hb dX12_spell_74 rfl (lv_at hl 0 rfl) ?_
        refine lv_aload_n hx hb dX12_spell_75 rfl (lv_at hl 0 rfl) ?_
        refine rg_54 C hP wm_209 dX12_spell_76 ?_
        refine lv_iload_n hx hb dX12_spell_79 rfl (lv_at hl 1 rfl) ?_
        refine ra_54 (f := (σ.2.2.2)) C hP rfl (v_spell_29 σ k0 x1 x3 x5 hpre_0 hpre_1 ex1 tx1 c2 ex3 tx3 c4 ex5 tx5 c6) dX12_spell_80 (fun x51 ex51 => ?_)
        refine lv_d2i hx hb dX12_spell_81 ?_
        refine lv_topi (fun x52 ex52 => ?_)
        refine r_callVv (As := [.int x52]) (rest := []) C hP hS hl.1 ⟨Nat.zero_le _, Nat.zero_le _⟩ (M_buildNumber l D cy sz0 sa ad σ s.heap.size x52 (v_spell_7 σ hpre_2 hpre_3)) (n := 1) ⟨wm_234, wm_222, by decide +kernel⟩ ⟨wm_235, wm_236, wm_10⟩ rfl rfl (lv_room (Nat.le_of_ble_eq_true rfl)) ⟨Nat.le_of_ble_eq_true rfl, Nat.le_of_ble_eq_true rfl⟩ dX12_spell_82 (fun u H locs hr53 hP hS => ?_)
        obtain ⟨F54, n55⟩ := u
        obtain ⟨hr53, hr53y⟩ := hr53
        have hr53y : ∀ s9 : List Int, QB (σ.2.1 58) (σ.1 59) s9 → s9.length ≤ 36 → QB F54 n55 (s9 ++ qDec x52.toInt) := hr53y
        have hr53 : 0 ≤ n55.toInt ∧ n55.toInt ≤ 48 := hr53
        obtain ⟨hr53_0, hr53_1⟩ := hr53
        have hP : RP D cy ad (rS (rA σ 58 F54) 59 n55) H := hP
        refine lv_goto (tgt := 194) hx hb dX12_spell_85 (by decide) ?_
        exact r_retv C ⟨F54, n55⟩ ⟨(v_spell_30 n55 hr53_0 hr53_1), (v_spell_31 σ k0 x1 x3 x5 x51 x52 F54 n55 hpre_0 hpre_1 hpre_2 hpre_3 ex1 tx1 c2 ex3 tx3 c4 ex5 tx5 c6 ex51 ex52 hr53y hr53_0 hr53_1)⟩ hP hS dX12_spell_194
    · have c4 : x3.toInt = 2 := by have h := z_eq c4; rw [show (2 : Int32).toInt = 2 from by decide +kernel] at h; exact h
      refine lv_aload_n hx hb dX12_spell_50 rfl (lv_at hl 0 rfl) ?_
      refine lv_aload_n hx hb dX12_spell_51 rfl (lv_at hl 0 rfl) ?_
      refine rg_52 C hP wm_206 dX12_spell_52 ?_
      refine lv_iload_n hx hb dX12_spell_55 rfl (lv_at hl 1 rfl) ?_
      refine ra_52 (f := (σ.2.2.1 52)) C hP rfl (v_spell_32 σ k0 x1 x3 hpre_0 hpre_1 ex1 tx1 c2 ex3 tx3 c4) dX12_spell_56 (fun x56 ex56 => ?_)
      have tx56 : x56.toInt = ((σ.2.2.1 52) k0.toNatClampNeg).toInt := by rw [ex56]
      refine lv_l2i hx hb dX12_spell_57 rfl ?_
      refine lv_topi (fun x57 ex57 => ?_)
      have tx57 : -2147483648 ≤ x56.toInt → x56.toInt < 2147483648 → x57.toInt = x56.toInt := z_l2i ex57
      refine r_callVv (As := [.int x57]) (rest := []) C hP hS hl.1 ⟨Nat.zero_le _, Nat.zero_le _⟩ (M_buildNumber l D cy sz0 sa ad σ s.heap.size x57 (v_spell_7 σ hpre_2 hpre_3)) (n := 1) ⟨wm_234, wm_222, by decide +kernel⟩ ⟨wm_235, wm_236, wm_10⟩ rfl rfl (lv_room (Nat.le_of_ble_eq_true rfl)) ⟨Nat.le_of_ble_eq_true rfl, Nat.le_of_ble_eq_true rfl⟩ dX12_spell_58 (fun u H locs hr58 hP hS => ?_)
      obtain ⟨F59, n60⟩ := u
      obtain ⟨hr58, hr58y⟩ := hr58
      have hr58y : ∀ s9 : List Int, QB (σ.2.1 58) (σ.1 59) s9 → s9.length ≤ 36 → QB F59 n60 (s9 ++ qDec x57.toInt) := hr58y
      have hr58 : 0 ≤ n60.toInt ∧ n60.toInt ≤ 48 := hr58
      obtain ⟨hr58_0, hr58_1⟩ := hr58
      have hP : RP D cy ad (rS (rA σ 58 F59) 59 n60) H := hP
      refine lv_goto (tgt := 194) hx hb dX12_spell_61 (by decide) ?_
      exact r_retv C ⟨F59, n60⟩ ⟨(v_spell_33 n60 hr58_0 hr58_1), (v_spell_34 σ k0 x1 x3 x56 x57 F59 n60 hpre_0 hpre_1 hpre_2 hpre_3 ex1 tx1 c2 ex3 tx3 c4 ex56 tx56 ex57 tx57 hr58y hr58_0 hr58_1)⟩ hP hS dX12_spell_194
  · have c2 : x1.toInt = 4 := by have h := z_eq c2; rw [show (4 : Int32).toInt = 4 from by decide +kernel] at h; exact h
    refine lv_iconst (v := 0) hx hb dX12_spell_10 (by decide +kernel) ?_
    refine lv_istore_n (lv' := [(2, .int 0), (0, .ref (ad 0)), (1, .int k0)]) hx hb dX12_spell_11 rfl hl (by decide) rfl (fun ls hl => ?_)
    have hP : RP D cy ad (rS (rA σ 58 (σ.2.1 58)) 59 (σ.1 59)) s.heap := RP.cong hP (Eq.trans (b := (σ.1 0)) rfl rfl) (Eq.trans (b := (σ.1 1)) rfl rfl) (Eq.trans (b := (σ.2.1 2)) rfl rfl) (Eq.trans (b := (σ.1 3)) rfl rfl) (Eq.trans (b := (σ.2.1 4)) rfl rfl) (Eq.trans (b := (σ.2.1 5)) rfl rfl) (Eq.trans (b := (σ.2.2.1 6)) rfl rfl) (Eq.trans (b := (σ.2.1 7)) rfl rfl) (Eq.trans (b := (σ.1 8)) rfl rfl) (Eq.trans (b := (σ.1 9)) rfl rfl) (Eq.trans (b := (σ.1 10)) rfl rfl) (Eq.trans (b := (σ.2.1 11)) rfl rfl) (Eq.trans (b := (σ.2.2.1 12)) rfl rfl) (Eq.trans (b := (σ.2.1 13)) rfl rfl) (Eq.trans (b := (σ.1 14)) rfl rfl) (Eq.trans (b := (σ.1 15)) rfl rfl) (Eq.trans (b := (σ.1 16)) rfl rfl) (Eq.trans (b := (σ.1 17)) rfl rfl) (Eq.trans (b := (σ.1 18)) rfl rfl) (Eq.trans (b := (σ.1 19)) rfl rfl) (Eq.trans (b := (σ.2.1 20)) rfl rfl) (Eq.trans (b := (σ.2.1 21)) rfl rfl) (Eq.trans (b := (σ.2.1 22)) rfl rfl) (Eq.trans (b := (σ.2.1 23)) rfl rfl) (Eq.trans (b := (σ.2.1 24)) rfl rfl) (Eq.trans (b := (σ.2.1 25)) rfl rfl) (Eq.trans (b := (σ.2.1 26)) rfl rfl) (Eq.trans (b := (σ.2.1 27)) rfl rfl) (Eq.trans (b := (σ.2.1 28)) rfl rfl) (Eq.trans (b := (σ.1 29)) rfl rfl) (Eq.trans (b := (σ.2.1 30)) rfl rfl) (Eq.trans (b := (σ.2.1 31)) rfl rfl) (Eq.trans (b := (σ.2.1 32)) rfl rfl) (Eq.trans (b := (σ.1 33)) rfl rfl) (Eq.trans (b := (σ.1 34)) rfl rfl) (Eq.trans (b := (σ.1 35)) rfl rfl) (Eq.trans (b := (σ.2.1 36)) rfl rfl) (Eq.trans (b := (σ.2.1 37)) rfl rfl) (Eq.trans (b := (σ.2.1 38)) rfl rfl) (Eq.trans (b := (σ.2.1 39)) rfl rfl) (Eq.trans (b := (σ.2.1 40)) rfl rfl) (Eq.trans (b := (σ.2.1 41)) rfl rfl) (Eq.trans (b := (σ.2.1 42)) rfl rfl) (Eq.trans (b := (σ.2.1 43)) rfl rfl) (Eq.trans (b := (σ.2.1 44)) rfl rfl) (Eq.trans (b := (σ.2.1 45)) rfl rfl) (Eq.trans (b := (σ.2.1 46)) rfl rfl) (Eq.trans (b := (σ.1 47)) rfl rfl) (Eq.trans (b := (σ.2.1 48)) rfl rfl) (Eq.trans (b := (σ.1 49)) rfl rfl) (Eq.trans (b := (σ.2.1 50)) rfl rfl) (Eq.trans (b := (σ.2.1 51)) rfl rfl) (Eq.trans (b := (σ.2.2.1 52)) rfl rfl) (Eq.trans (b := (σ.2.2.1 53)) rfl rfl) (Eq.trans (b := (σ.2.2.2)) rfl rfl) (Eq.trans (b := (σ.1 55)) rfl rfl) (Eq.trans (b := (σ.1 56)) rfl rfl) (Eq.trans (b := (σ.1 57)) rfl rfl) (Eq.trans (b := (σ.2.1 58)) rfl rfl) (Eq.trans (b := (σ.1 59)) rfl rfl)
    exact L_spell_12_1 l D cy sz0 sa ad sz σ k0 x1 C hpre_0 hpre_1 hpre_2 hpre_3 ex1 tx1 c2 ((130 - (0 : Int32).toInt).toNat + 1) (0 : Int32) (σ.2.1 58) (σ.1 59) _ _ _ (Nat.lt_succ_self _) ⟨(v_spell_35 σ hpre_2 hpre_3), (v_spell_36 σ k0 x1 hpre_0 hpre_1 hpre_2 hpre_3 ex1 tx1 c2)⟩ hP hS (lv_sub hl [0, 1, 2] rfl)
