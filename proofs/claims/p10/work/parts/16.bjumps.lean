-- nw@5 @5
theorem v_jumps_1 (σ : RS) (x1 : Int32) (hpre_0 : 1 ≤ (σ.1 55).toInt) (hpre_1 : (σ.1 55).toInt ≤ 60) (ex1 : x1 = (σ.1 55) - (1 : Int32)) : x1.toInt = (σ.1 55).toInt - 1 := by
  have q1 : (1 : Int32).toInt = 1 := by decide +kernel
  have w1 : (1 : Int32).toInt = 1 := by decide +kernel
  rw [ex1, z_sub (by omega) (by omega)]; first | done | omega
-- dead@51 @66
theorem v_jumps_2 (k0 : Int32) (hpre_3 : k0.toInt = 14 ∨ k0.toInt = 32 ∨ k0.toInt = 33 ∨ k0.toInt = 35 ∨ k0.toInt = 36 ∨ k0.toInt = 37) (c2 : k0.toInt = 36) (c3 : k0.toInt = 32) : False := by
  first | assumption | omega | (subst_vars; omega) | trivial
-- dead@57 @66
theorem v_jumps_3 (k0 : Int32) (hpre_3 : k0.toInt = 14 ∨ k0.toInt = 32 ∨ k0.toInt = 33 ∨ k0.toInt = 35 ∨ k0.toInt = 36 ∨ k0.toInt = 37) (c2 : k0.toInt = 36) (c3 : ¬ k0.toInt = 32) (c4 : k0.toInt = 33) : False := by
  first | assumption | omega | (subst_vars; omega) | trivial
-- post @163
theorem v_jumps_4 (σ : RS) (k0 : Int32) (x1 : Int32) (hpre_0 : 1 ≤ (σ.1 55).toInt) (hpre_1 : (σ.1 55).toInt ≤ 60) (hpre_2 : (σ.1 56).toInt = 0) (hpre_3 : k0.toInt = 14 ∨ k0.toInt = 32 ∨ k0.toInt = 33 ∨ k0.toInt = 35 ∨ k0.toInt = 36 ∨ k0.toInt = 37) (ex1 : x1 = (σ.1 55) - (1 : Int32)) (tx1 : x1.toInt = (σ.1 55).toInt - 1) (c2 : k0.toInt = 36) (c3 : ¬ k0.toInt = 32) (c4 : ¬ k0.toInt = 33) (c5 : ¬ k0.toInt = 35) (c6 : ¬ k0.toInt = 37) : 0 ≤ (σ.1 56).toInt ∧ (σ.1 56).toInt ≤ 11 ∧ (k0.toInt = 36 → ¬ (1 : Int32).toInt = 0) ∧ (¬ (1 : Int32).toInt = 0 → (k0.toInt = 35 → (σ.1 55).toInt = (σ.1 55).toInt - 1) ∧ (¬ k0.toInt = 35 → (σ.1 55).toInt = (σ.1 55).toInt)) ∧ ((1 : Int32).toInt = 0 → (k0.toInt = 14 → (σ.1 55).toInt = (σ.1 55).toInt) ∧ (¬ k0.toInt = 14 → (σ.1 55).toInt = (σ.1 55).toInt - 1)) := by
  have q1 : (1 : Int32).toInt = 1 := by decide +kernel
  refine ⟨?_, ?_, ?_, ?_, ?_⟩ <;> first | assumption | omega | (subst_vars; omega) | trivial
-- post2 @163
theorem v_jumps_5 (σ : RS) (k0 : Int32) (x1 : Int32) (hpre_0 : 1 ≤ (σ.1 55).toInt) (hpre_1 : (σ.1 55).toInt ≤ 60) (hpre_2 : (σ.1 56).toInt = 0) (hpre_3 : k0.toInt = 14 ∨ k0.toInt = 32 ∨ k0.toInt = 33 ∨ k0.toInt = 35 ∨ k0.toInt = 36 ∨ k0.toInt = 37) (ex1 : x1 = (σ.1 55) - (1 : Int32)) (tx1 : x1.toInt = (σ.1 55).toInt - 1) (c2 : k0.toInt = 36) (c3 : ¬ k0.toInt = 32) (c4 : ¬ k0.toInt = 33) (c5 : ¬ k0.toInt = 35) (c6 : ¬ k0.toInt = 37) : ∀ v9 : QV, QAT (qH (σ.2.1 36) (σ.2.1 37) (σ.2.1 38) (σ.2.1 39) (σ.2.1 40) (σ.2.1 41) (σ.2.1 42) (σ.2.1 43) (σ.2.1 44) (σ.2.1 45) (σ.2.1 46) (σ.2.1 48)) (σ.1 47).toInt ((σ.2.1 51), (σ.2.2.1 52), (σ.2.2.1 53), (σ.2.2.2)) (((σ.1 55).toInt - 1).toNat) v9 → (σ.1 56).toInt = 0 → (k0.toInt = 14 → (¬ (1 : Int32).toInt = 0 → v9.1 = 0) ∧ ((1 : Int32).toInt = 0 → ¬ v9.1 = 0)) ∧ (k0.toInt = 37 → ((1 : Int32).toInt = 0 → qEmpty v9 = true) ∧ (¬ (1 : Int32).toInt = 0 → qEmpty v9 = false)) ∧ ((k0.toInt = 32 ∨ k0.toInt = 33 ∨ k0.toInt = 35) → (v9.1 = 1 → (σ.1 56).toInt = 0 ∧ ((1 : Int32).toInt = 0 → ¬ v9.2.1 = if k0.toInt = 33 then 1 else 0) ∧ (¬ (1 : Int32).toInt = 0 → v9.2.1 = if k0.toInt = 33 then 1 else 0)) ∧ (¬ v9.1 = 1 → (σ.1 56).toInt = 1)) ∧ ((k0.toInt = 14 ∨ k0.toInt = 36 ∨ k0.toInt = 37) → (σ.1 56).toInt = 0) := by
  have q1 : (1 : Int32).toInt = 1 := by decide +kernel
  intro v9 h9 h0
  have zx1 : x1.toNatClampNeg = ((σ.1 55).toInt - 1).toNat := by rw [clampN x1, tx1]
  try simp only [zx1] at *
  have kd := h9.kd
  have kk := h9.ok.kd
  dsimp only at kd
  have nb : v9.1 = 1 → ((σ.2.2.1 52) ((σ.1 55).toInt - 1).toNat).toInt = v9.2.1 := fun e => (h9.2.2.2.2 (by omega) (by omega)).1
  refine ⟨fun hs => ⟨fun h => by omega, fun h => by omega⟩, fun hs => ⟨fun h => ?_, fun h => ?_⟩, fun hs => ⟨fun h => ⟨by omega, by omega, by omega⟩, fun h => by omega⟩, fun hs => by omega⟩
  · first | exact em.2 (by omega) | (exfalso; omega)
  · first | exact em.1 (by omega) | (exfalso; omega)
-- bool@ret @163
theorem v_jumps_6   : (1 : Int32) = 0 ∨ (1 : Int32) = 1 := by
  have q1 : (1 : Int32).toInt = 1 := by decide +kernel
  first | exact Or.inl rfl | exact Or.inr rfl | exact bool_of (by omega)
-- dead@145 @148
theorem v_jumps_7 (k0 : Int32) (hpre_3 : k0.toInt = 14 ∨ k0.toInt = 32 ∨ k0.toInt = 33 ∨ k0.toInt = 35 ∨ k0.toInt = 36 ∨ k0.toInt = 37) (c2 : k0.toInt = 36) (c3 : ¬ k0.toInt = 32) (c4 : ¬ k0.toInt = 33) (c5 : ¬ k0.toInt = 35) (c6 : k0.toInt = 37) : False := by
  first | assumption | omega | (subst_vars; omega) | trivial
-- dead@63 @66
theorem v_jumps_8 (k0 : Int32) (hpre_3 : k0.toInt = 14 ∨ k0.toInt = 32 ∨ k0.toInt = 33 ∨ k0.toInt = 35 ∨ k0.toInt = 36 ∨ k0.toInt = 37) (c2 : k0.toInt = 36) (c3 : ¬ k0.toInt = 32) (c4 : ¬ k0.toInt = 33) (c5 : k0.toInt = 35) : False := by
  first | assumption | omega | (subst_vars; omega) | trivial
-- in@72 @72
theorem v_jumps_9 (σ : RS) (x1 : Int32) (hpre_0 : 1 ≤ (σ.1 55).toInt) (hpre_1 : (σ.1 55).toInt ≤ 60) (ex1 : x1 = (σ.1 55) - (1 : Int32)) (tx1 : x1.toInt = (σ.1 55).toInt - 1) : vp_in x1 980 := by
  have q1 : (1 : Int32).toInt = 1 := by decide +kernel
  exact vp_in_iff.mpr ⟨by omega, by omega⟩
-- in@93 @93
theorem v_jumps_10 (σ : RS) (x1 : Int32) (x10 : Int32) (hpre_0 : 1 ≤ (σ.1 55).toInt) (hpre_1 : (σ.1 55).toInt ≤ 60) (ex1 : x1 = (σ.1 55) - (1 : Int32)) (tx1 : x1.toInt = (σ.1 55).toInt - 1) (ex10 : x10 = (σ.2.1 51) x1.toNatClampNeg) (tx10 : x10.toInt = ((σ.2.1 51) ((σ.1 55).toInt - 1).toNat).toInt) (c11 : ¬ x10.toInt = 1) : vp_in x1 980 := by
  have q1 : (1 : Int32).toInt = 1 := by decide +kernel
  exact vp_in_iff.mpr ⟨by omega, by omega⟩
-- nw@135 @135
theorem v_jumps_11 (σ : RS) (x1 : Int32) (x10 : Int32) (x12 : Int64) (x14 : Int32) (x17 : Int32) (hpre_0 : 1 ≤ (σ.1 55).toInt) (hpre_1 : (σ.1 55).toInt ≤ 60) (ex1 : x1 = (σ.1 55) - (1 : Int32)) (tx1 : x1.toInt = (σ.1 55).toInt - 1) (ex10 : x10 = (σ.2.1 51) x1.toNatClampNeg) (tx10 : x10.toInt = ((σ.2.1 51) ((σ.1 55).toInt - 1).toNat).toInt) (c11 : ¬ x10.toInt = 1) (ex12 : x12 = (σ.2.2.1 52) x1.toNatClampNeg) (tx12 : x12.toInt = ((σ.2.2.1 52) ((σ.1 55).toInt - 1).toNat).toInt) (tx14 : (x14.toInt = 0 ↔ x12.toInt = 0) ∧ (x14.toInt < 0 ↔ x12.toInt < 0)) (c15 : ¬ x14.toInt = 0) (ex17 : x17 = (σ.1 55) - (1 : Int32)) : x17.toInt = (σ.1 55).toInt - 1 := by
  have q1 : (1 : Int32).toInt = 1 := by decide +kernel
  have w1 : (1 : Int32).toInt = 1 := by decide +kernel
  rw [ex17, z_sub (by omega) (by omega)]; first | done | omega
-- post @163
theorem v_jumps_12 (σ : RS) (k0 : Int32) (x1 : Int32) (x10 : Int32) (x12 : Int64) (x14 : Int32) (x17 : Int32) (hpre_0 : 1 ≤ (σ.1 55).toInt) (hpre_1 : (σ.1 55).toInt ≤ 60) (hpre_3 : k0.toInt = 14 ∨ k0.toInt = 32 ∨ k0.toInt = 33 ∨ k0.toInt = 35 ∨ k0.toInt = 36 ∨ k0.toInt = 37) (ex1 : x1 = (σ.1 55) - (1 : Int32)) (tx1 : x1.toInt = (σ.1 55).toInt - 1) (c2 : ¬ k0.toInt = 36) (c7 : ¬ k0.toInt = 14) (c8 : ¬ k0.toInt = 37) (c9 : k0.toInt = 32) (ex10 : x10 = (σ.2.1 51) x1.toNatClampNeg) (tx10 : x10.toInt = ((σ.2.1 51) ((σ.1 55).toInt - 1).toNat).toInt) (c11 : ¬ x10.toInt = 1) (ex12 : x12 = (σ.2.2.1 52) x1.toNatClampNeg) (tx12 : x12.toInt = ((σ.2.2.1 52) ((σ.1 55).toInt - 1).toNat).toInt) (c13 : ¬ k0.toInt = 33) (tx14 : (x14.toInt = 0 ↔ x12.toInt = 0) ∧ (x14.toInt < 0 ↔ x12.toInt < 0)) (c15 : ¬ x14.toInt = 0) (ex17 : x17 = (σ.1 55) - (1 : Int32)) (tx17 : x17.toInt = (σ.1 55).toInt - 1) : 0 ≤ (1 : Int32).toInt ∧ (1 : Int32).toInt ≤ 11 ∧ (k0.toInt = 36 → ¬ (0 : Int32).toInt = 0) ∧ (¬ (0 : Int32).toInt = 0 → (k0.toInt = 35 → x17.toInt = (σ.1 55).toInt - 1) ∧ (¬ k0.toInt = 35 → x17.toInt = (σ.1 55).toInt)) ∧ ((0 : Int32).toInt = 0 → (k0.toInt = 14 → x17.toInt = (σ.1 55).toInt) ∧ (¬ k0.toInt = 14 → x17.toInt = (σ.1 55).toInt - 1)) := by
  have q0 : (0 : Int32).toInt = 0 := by decide +kernel
  have q1 : (1 : Int32).toInt = 1 := by decide +kernel
  refine ⟨?_, ?_, ?_, ?_, ?_⟩ <;> first | assumption | omega | (subst_vars; omega) | trivial
-- post2 @163
theorem v_jumps_13 (σ : RS) (k0 : Int32) (x1 : Int32) (x10 : Int32) (x12 : Int64) (x14 : Int32) (x17 : Int32) (hpre_0 : 1 ≤ (σ.1 55).toInt) (hpre_1 : (σ.1 55).toInt ≤ 60) (hpre_2 : (σ.1 56).toInt = 0) (hpre_3 : k0.toInt = 14 ∨ k0.toInt = 32 ∨ k0.toInt = 33 ∨ k0.toInt = 35 ∨ k0.toInt = 36 ∨ k0.toInt = 37) (ex1 : x1 = (σ.1 55) - (1 : Int32)) (tx1 : x1.toInt = (σ.1 55).toInt - 1) (c2 : ¬ k0.toInt = 36) (c7 : ¬ k0.toInt = 14) (c8 : ¬ k0.toInt = 37) (c9 : k0.toInt = 32) (ex10 : x10 = (σ.2.1 51) x1.toNatClampNeg) (tx10 : x10.toInt = ((σ.2.1 51) ((σ.1 55).toInt - 1).toNat).toInt) (c11 : ¬ x10.toInt = 1) (ex12 : x12 = (σ.2.2.1 52) x1.toNatClampNeg) (tx12 : x12.toInt = ((σ.2.2.1 52) ((σ.1 55).toInt - 1).toNat).toInt) (c13 : ¬ k0.toInt = 33) (tx14 : (x14.toInt = 0 ↔ x12.toInt = 0) ∧ (x14.toInt < 0 ↔ x12.toInt < 0)) (c15 : ¬ x14.toInt = 0) (ex17 : x17 = (σ.1 55) - (1 : Int32)) (tx17 : x17.toInt = (σ.1 55).toInt - 1) : ∀ v9 : QV, QAT (qH (σ.2.1 36) (σ.2.1 37) (σ.2.1 38) (σ.2.1 39) (σ.2.1 40) (σ.2.1 41) (σ.2.1 42) (σ.2.1 43) (σ.2.1 44) (σ.2.1 45) (σ.2.1 46) (σ.2.1 48)) (σ.1 47).toInt ((σ.2.1 51), (σ.2.2.1 52), (σ.2.2.1 53), (σ.2.2.2)) (((σ.1 55).toInt - 1).toNat) v9 → (σ.1 56).toInt = 0 → (k0.toInt = 14 → (¬ (0 : Int32).toInt = 0 → v9.1 = 0) ∧ ((0 : Int32).toInt = 0 → ¬ v9.1 = 0)) ∧ (k0.toInt = 37 → ((0 : Int32).toInt = 0 → qEmpty v9 = true) ∧ (¬ (0 : Int32).toInt = 0 → qEmpty v9 = false)) ∧ ((k0.toInt = 32 ∨ k0.toInt = 33 ∨ k0.toInt = 35) → (v9.1 = 1 → (1 : Int32).toInt = 0 ∧ ((0 : Int32).toInt = 0 → ¬ v9.2.1 = if k0.toInt = 33 then 1 else 0) ∧ (¬ (0 : Int32).toInt = 0 → v9.2.1 = if k0.toInt = 33 then 1 else 0)) ∧ (¬ v9.1 = 1 → (1 : Int32).toInt = 1)) ∧ ((k0.toInt = 14 ∨ k0.toInt = 36 ∨ k0.toInt = 37) → (1 : Int32).toInt = 0) := by
  have q0 : (0 : Int32).toInt = 0 := by decide +kernel
  have q1 : (1 : Int32).toInt = 1 := by decide +kernel
  intro v9 h9 h0
  have zx1 : x1.toNatClampNeg = ((σ.1 55).toInt - 1).toNat := by rw [clampN x1, tx1]
  try simp only [zx1] at *
  have zx17 : x17.toNatClampNeg = ((σ.1 55).toInt - 1).toNat := by rw [clampN x17, tx17]
  try simp only [zx17] at *
  have kd := h9.kd
  have kk := h9.ok.kd
  dsimp only at kd
  have nb : v9.1 = 1 → ((σ.2.2.1 52) ((σ.1 55).toInt - 1).toNat).toInt = v9.2.1 := fun e => (h9.2.2.2.2 (by omega) (by omega)).1
  refine ⟨fun hs => ⟨fun h => by omega, fun h => by omega⟩, fun hs => ⟨fun h => ?_, fun h => ?_⟩, fun hs => ⟨fun h => ⟨by omega, by omega, by omega⟩, fun h => by omega⟩, fun hs => by omega⟩
  · first | exact em.2 (by omega) | (exfalso; omega)
  · first | exact em.1 (by omega) | (exfalso; omega)
-- bool@ret @163
theorem v_jumps_14   : (0 : Int32) = 0 ∨ (0 : Int32) = 1 := by
  have q0 : (0 : Int32).toInt = 0 := by decide +kernel
  first | exact Or.inl rfl | exact Or.inr rfl | exact bool_of (by omega)
-- dead@127 @134
theorem v_jumps_15 (k0 : Int32) (hpre_3 : k0.toInt = 14 ∨ k0.toInt = 32 ∨ k0.toInt = 33 ∨ k0.toInt = 35 ∨ k0.toInt = 36 ∨ k0.toInt = 37) (c2 : ¬ k0.toInt = 36) (c7 : ¬ k0.toInt = 14) (c8 : ¬ k0.toInt = 37) (c9 : k0.toInt = 32) (c13 : ¬ k0.toInt = 33) (c19 : k0.toInt = 35) : False := by
  first | assumption | omega | (subst_vars; omega) | trivial
-- nw@135 @135
theorem v_jumps_16 (σ : RS) (x1 : Int32) (x10 : Int32) (x12 : Int64) (x14 : Int32) (x20 : Int32) (hpre_0 : 1 ≤ (σ.1 55).toInt) (hpre_1 : (σ.1 55).toInt ≤ 60) (ex1 : x1 = (σ.1 55) - (1 : Int32)) (tx1 : x1.toInt = (σ.1 55).toInt - 1) (ex10 : x10 = (σ.2.1 51) x1.toNatClampNeg) (tx10 : x10.toInt = ((σ.2.1 51) ((σ.1 55).toInt - 1).toNat).toInt) (c11 : ¬ x10.toInt = 1) (ex12 : x12 = (σ.2.2.1 52) x1.toNatClampNeg) (tx12 : x12.toInt = ((σ.2.2.1 52) ((σ.1 55).toInt - 1).toNat).toInt) (tx14 : (x14.toInt = 0 ↔ x12.toInt = 0) ∧ (x14.toInt < 0 ↔ x12.toInt < 0)) (c15 : x14.toInt = 0) (ex20 : x20 = (σ.1 55) - (0 : Int32)) : x20.toInt = (σ.1 55).toInt - 0 := by
  have q0 : (0 : Int32).toInt = 0 := by decide +kernel
  have q1 : (1 : Int32).toInt = 1 := by decide +kernel
  have w1 : (0 : Int32).toInt = 0 := by decide +kernel
  rw [ex20, z_sub (by omega) (by omega)]; first | done | omega
-- post @163
theorem v_jumps_17 (σ : RS) (k0 : Int32) (x1 : Int32) (x10 : Int32) (x12 : Int64) (x14 : Int32) (x20 : Int32) (hpre_0 : 1 ≤ (σ.1 55).toInt) (hpre_1 : (σ.1 55).toInt ≤ 60) (hpre_3 : k0.toInt = 14 ∨ k0.toInt = 32 ∨ k0.toInt = 33 ∨ k0.toInt = 35 ∨ k0.toInt = 36 ∨ k0.toInt = 37) (ex1 : x1 = (σ.1 55) - (1 : Int32)) (tx1 : x1.toInt = (σ.1 55).toInt - 1) (c2 : ¬ k0.toInt = 36) (c7 : ¬ k0.toInt = 14) (c8 : ¬ k0.toInt = 37) (c9 : k0.toInt = 32) (ex10 : x10 = (σ.2.1 51) x1.toNatClampNeg) (tx10 : x10.toInt = ((σ.2.1 51) ((σ.1 55).toInt - 1).toNat).toInt) (c11 : ¬ x10.toInt = 1) (ex12 : x12 = (σ.2.2.1 52) x1.toNatClampNeg) (tx12 : x12.toInt = ((σ.2.2.1 52) ((σ.1 55).toInt - 1).toNat).toInt) (c13 : ¬ k0.toInt = 33) (tx14 : (x14.toInt = 0 ↔ x12.toInt = 0) ∧ (x14.toInt < 0 ↔ x12.toInt < 0)) (c15 : x14.toInt = 0) (c19 : ¬ k0.toInt = 35) (ex20 : x20 = (σ.1 55) - (0 : Int32)) (tx20 : x20.toInt = (σ.1 55).toInt - 0) : 0 ≤ (1 : Int32).toInt ∧ (1 : Int32).toInt ≤ 11 ∧ (k0.toInt = 36 → ¬ (1 : Int32).toInt = 0) ∧ (¬ (1 : Int32).toInt = 0 → (k0.toInt = 35 → x20.toInt = (σ.1 55).toInt - 1) ∧ (¬ k0.toInt = 35 → x20.toInt = (σ.1 55).toInt)) ∧ ((1 : Int32).toInt = 0 → (k0.toInt = 14 → x20.toInt = (σ.1 55).toInt) ∧ (¬ k0.toInt = 14 → x20.toInt = (σ.1 55).toInt - 1)) := by
  have q0 : (0 : Int32).toInt = 0 := by decide +kernel
  have q1 : (1 : Int32).toInt = 1 := by decide +kernel
  refine ⟨?_, ?_, ?_, ?_, ?_⟩ <;> first | assumption | omega | (subst_vars; omega) | trivial
-- post2 @163
theorem v_jumps_18 (σ : RS) (k0 : Int32) (x1 : Int32) (x10 : Int32) (x12 : Int64) (x14 : Int32) (x20 : Int32) (hpre_0 : 1 ≤ (σ.1 55).toInt) (hpre_1 : (σ.1 55).toInt ≤ 60) (hpre_2 : (σ.1 56).toInt = 0) (hpre_3 : k0.toInt = 14 ∨ k0.toInt = 32 ∨ k0.toInt = 33 ∨ k0.toInt = 35 ∨ k0.toInt = 36 ∨ k0.toInt = 37) (ex1 : x1 = (σ.1 55) - (1 : Int32)) (tx1 : x1.toInt = (σ.1 55).toInt - 1) (c2 : ¬ k0.toInt = 36) (c7 : ¬ k0.toInt = 14) (c8 : ¬ k0.toInt = 37) (c9 : k0.toInt = 32) (ex10 : x10 = (σ.2.1 51) x1.toNatClampNeg) (tx10 : x10.toInt = ((σ.2.1 51) ((σ.1 55).toInt - 1).toNat).toInt) (c11 : ¬ x10.toInt = 1) (ex12 : x12 = (σ.2.2.1 52) x1.toNatClampNeg) (tx12 : x12.toInt = ((σ.2.2.1 52) ((σ.1 55).toInt - 1).toNat).toInt) (c13 : ¬ k0.toInt = 33) (tx14 : (x14.toInt = 0 ↔ x12.toInt = 0) ∧ (x14.toInt < 0 ↔ x12.toInt < 0)) (c15 : x14.toInt = 0) (c19 : ¬ k0.toInt = 35) (ex20 : x20 = (σ.1 55) - (0 : Int32)) (tx20 : x20.toInt = (σ.1 55).toInt - 0) : ∀ v9 : QV, QAT (qH (σ.2.1 36) (σ.2.1 37) (σ.2.1 38) (σ.2.1 39) (σ.2.1 40) (σ.2.1 41) (σ.2.1 42) (σ.2.1 43) (σ.2.1 44) (σ.2.1 45) (σ.2.1 46) (σ.2.1 48)) (σ.1 47).toInt ((σ.2.1 51), (σ.2.2.1 52), (σ.2.2.1 53), (σ.2.2.2)) (((σ.1 55).toInt - 1).toNat) v9 → (σ.1 56).toInt = 0 → (k0.toInt = 14 → (¬ (1 : Int32).toInt = 0 → v9.1 = 0) ∧ ((1 : Int32).toInt = 0 → ¬ v9.1 = 0)) ∧ (k0.toInt = 37 → ((1 : Int32).toInt = 0 → qEmpty v9 = true) ∧ (¬ (1 : Int32).toInt = 0 → qEmpty v9 = false)) ∧ ((k0.toInt = 32 ∨ k0.toInt = 33 ∨ k0.toInt = 35) → (v9.1 = 1 → (1 : Int32).toInt = 0 ∧ ((1 : Int32).toInt = 0 → ¬ v9.2.1 = if k0.toInt = 33 then 1 else 0) ∧ (¬ (1 : Int32).toInt = 0 → v9.2.1 = if k0.toInt = 33 then 1 else 0)) ∧ (¬ v9.1 = 1 → (1 : Int32).toInt = 1)) ∧ ((k0.toInt = 14 ∨ k0.toInt = 36 ∨ k0.toInt = 37) → (1 : Int32).toInt = 0) := by
  have q0 : (0 : Int32).toInt = 0 := by decide +kernel
  have q1 : (1 : Int32).toInt = 1 := by decide +kernel
  intro v9 h9 h0
  have zx1 : x1.toNatClampNeg = ((σ.1 55).toInt - 1).toNat := by rw [clampN x1, tx1]
  try simp only [zx1] at *
  have kd := h9.kd
  have kk := h9.ok.kd
  dsimp only at kd
  have nb : v9.1 = 1 → ((σ.2.2.1 52) ((σ.1 55).toInt - 1).toNat).toInt = v9.2.1 := fun e => (h9.2.2.2.2 (by omega) (by omega)).1
  refine ⟨fun hs => ⟨fun h => by omega, fun h => by omega⟩, fun hs => ⟨fun h => ?_, fun h => ?_⟩, fun hs => ⟨fun h => ⟨by omega, by omega, by omega⟩, fun h => by omega⟩, fun hs => by omega⟩
  · first | exact em.2 (by omega) | (exfalso; omega)
  · first | exact em.1 (by omega) | (exfalso; omega)
-- dead@97 @100
theorem v_jumps_19 (k0 : Int32) (hpre_3 : k0.toInt = 14 ∨ k0.toInt = 32 ∨ k0.toInt = 33 ∨ k0.toInt = 35 ∨ k0.toInt = 36 ∨ k0.toInt = 37) (c2 : ¬ k0.toInt = 36) (c7 : ¬ k0.toInt = 14) (c8 : ¬ k0.toInt = 37) (c9 : k0.toInt = 32) (c13 : k0.toInt = 33) : False := by
  first | assumption | omega | (subst_vars; omega) | trivial
-- in@93 @93
theorem v_jumps_20 (σ : RS) (x1 : Int32) (x10 : Int32) (hpre_0 : 1 ≤ (σ.1 55).toInt) (hpre_1 : (σ.1 55).toInt ≤ 60) (ex1 : x1 = (σ.1 55) - (1 : Int32)) (tx1 : x1.toInt = (σ.1 55).toInt - 1) (ex10 : x10 = (σ.2.1 51) x1.toNatClampNeg) (tx10 : x10.toInt = ((σ.2.1 51) ((σ.1 55).toInt - 1).toNat).toInt) (c11 : x10.toInt = 1) : vp_in x1 980 := by
  have q1 : (1 : Int32).toInt = 1 := by decide +kernel
  exact vp_in_iff.mpr ⟨by omega, by omega⟩
-- nw@135 @135
theorem v_jumps_21 (σ : RS) (x1 : Int32) (x10 : Int32) (x21 : Int64) (x23 : Int32) (x26 : Int32) (hpre_0 : 1 ≤ (σ.1 55).toInt) (hpre_1 : (σ.1 55).toInt ≤ 60) (ex1 : x1 = (σ.1 55) - (1 : Int32)) (tx1 : x1.toInt = (σ.1 55).toInt - 1) (ex10 : x10 = (σ.2.1 51) x1.toNatClampNeg) (tx10 : x10.toInt = ((σ.2.1 51) ((σ.1 55).toInt - 1).toNat).toInt) (c11 : x10.toInt = 1) (ex21 : x21 = (σ.2.2.1 52) x1.toNatClampNeg) (tx21 : x21.toInt = ((σ.2.2.1 52) ((σ.1 55).toInt - 1).toNat).toInt) (tx23 : (x23.toInt = 0 ↔ x21.toInt = 0) ∧ (x23.toInt < 0 ↔ x21.toInt < 0)) (c24 : ¬ x23.toInt = 0) (ex26 : x26 = (σ.1 55) - (1 : Int32)) : x26.toInt = (σ.1 55).toInt - 1 := by
  have q1 : (1 : Int32).toInt = 1 := by decide +kernel
  have w1 : (1 : Int32).toInt = 1 := by decide +kernel
  rw [ex26, z_sub (by omega) (by omega)]; first | done | omega
-- post @163
theorem v_jumps_22 (σ : RS) (k0 : Int32) (x1 : Int32) (x10 : Int32) (x21 : Int64) (x23 : Int32) (x26 : Int32) (hpre_0 : 1 ≤ (σ.1 55).toInt) (hpre_1 : (σ.1 55).toInt ≤ 60) (hpre_2 : (σ.1 56).toInt = 0) (hpre_3 : k0.toInt = 14 ∨ k0.toInt = 32 ∨ k0.toInt = 33 ∨ k0.toInt = 35 ∨ k0.toInt = 36 ∨ k0.toInt = 37) (ex1 : x1 = (σ.1 55) - (1 : Int32)) (tx1 : x1.toInt = (σ.1 55).toInt - 1) (c2 : ¬ k0.toInt = 36) (c7 : ¬ k0.toInt = 14) (c8 : ¬ k0.toInt = 37) (c9 : k0.toInt = 32) (ex10 : x10 = (σ.2.1 51) x1.toNatClampNeg) (tx10 : x10.toInt = ((σ.2.1 51) ((σ.1 55).toInt - 1).toNat).toInt) (c11 : x10.toInt = 1) (ex21 : x21 = (σ.2.2.1 52) x1.toNatClampNeg) (tx21 : x21.toInt = ((σ.2.2.1 52) ((σ.1 55).toInt - 1).toNat).toInt) (c22 : ¬ k0.toInt = 33) (tx23 : (x23.toInt = 0 ↔ x21.toInt = 0) ∧ (x23.toInt < 0 ↔ x21.toInt < 0)) (c24 : ¬ x23.toInt = 0) (ex26 : x26 = (σ.1 55) - (1 : Int32)) (tx26 : x26.toInt = (σ.1 55).toInt - 1) : 0 ≤ (σ.1 56).toInt ∧ (σ.1 56).toInt ≤ 11 ∧ (k0.toInt = 36 → ¬ (0 : Int32).toInt = 0) ∧ (¬ (0 : Int32).toInt = 0 → (k0.toInt = 35 → x26.toInt = (σ.1 55).toInt - 1) ∧ (¬ k0.toInt = 35 → x26.toInt = (σ.1 55).toInt)) ∧ ((0 : Int32).toInt = 0 → (k0.toInt = 14 → x26.toInt = (σ.1 55).toInt) ∧ (¬ k0.toInt = 14 → x26.toInt = (σ.1 55).toInt - 1)) := by
  have q0 : (0 : Int32).toInt = 0 := by decide +kernel
  have q1 : (1 : Int32).toInt = 1 := by decide +kernel
  refine ⟨?_, ?_, ?_, ?_, ?_⟩ <;> first | assumption | omega | (subst_vars; omega) | trivial
-- post2 @163
theorem v_jumps_23 (σ : RS) (k0 : Int32) (x1 : Int32) (x10 : Int32) (x21 : Int64) (x23 : Int32) (x26 : Int32) (hpre_0 : 1 ≤ (σ.1 55).toInt) (hpre_1 : (σ.1 55).toInt ≤ 60) (hpre_2 : (σ.1 56).toInt = 0) (hpre_3 : k0.toInt = 14 ∨ k0.toInt = 32 ∨ k0.toInt = 33 ∨ k0.toInt = 35 ∨ k0.toInt = 36 ∨ k0.toInt = 37) (ex1 : x1 = (σ.1 55) - (1 : Int32)) (tx1 : x1.toInt = (σ.1 55).toInt - 1) (c2 : ¬ k0.toInt = 36) (c7 : ¬ k0.toInt = 14) (c8 : ¬ k0.toInt = 37) (c9 : k0.toInt = 32) (ex10 : x10 = (σ.2.1 51) x1.toNatClampNeg) (tx10 : x10.toInt = ((σ.2.1 51) ((σ.1 55).toInt - 1).toNat).toInt) (c11 : x10.toInt = 1) (ex21 : x21 = (σ.2.2.1 52) x1.toNatClampNeg) (tx21 : x21.toInt = ((σ.2.2.1 52) ((σ.1 55).toInt - 1).toNat).toInt) (c22 : ¬ k0.toInt = 33) (tx23 : (x23.toInt = 0 ↔ x21.toInt = 0) ∧ (x23.toInt < 0 ↔ x21.toInt < 0)) (c24 : ¬ x23.toInt = 0) (ex26 : x26 = (σ.1 55) - (1 : Int32)) (tx26 : x26.toInt = (σ.1 55).toInt - 1) : ∀ v9 : QV, QAT (qH (σ.2.1 36) (σ.2.1 37) (σ.2.1 38) (σ.2.1 39) (σ.2.1 40) (σ.2.1 41) (σ.2.1 42) (σ.2.1 43) (σ.2.1 44) (σ.2.1 45) (σ.2.1 46) (σ.2.1 48)) (σ.1 47).toInt ((σ.2.1 51), (σ.2.2.1 52), (σ.2.2.1 53), (σ.2.2.2)) (((σ.1 55).toInt - 1).toNat) v9 → (σ.1 56).toInt = 0 → (k0.toInt = 14 → (¬ (0 : Int32).toInt = 0 → v9.1 = 0) ∧ ((0 : Int32).toInt = 0 → ¬ v9.1 = 0)) ∧ (k0.toInt = 37 → ((0 : Int32).toInt = 0 → qEmpty v9 = true) ∧ (¬ (0 : Int32).toInt = 0 → qEmpty v9 = false)) ∧ ((k0.toInt = 32 ∨ k0.toInt = 33 ∨ k0.toInt = 35) → (v9.1 = 1 → (σ.1 56).toInt = 0 ∧ ((0 : Int32).toInt = 0 → ¬ v9.2.1 = if k0.toInt = 33 then 1 else 0) ∧ (¬ (0 : Int32).toInt = 0 → v9.2.1 = if k0.toInt = 33 then 1 else 0)) ∧ (¬ v9.1 = 1 → (σ.1 56).toInt = 1)) ∧ ((k0.toInt = 14 ∨ k0.toInt = 36 ∨ k0.toInt = 37) → (σ.1 56).toInt = 0) := by
  have q0 : (0 : Int32).toInt = 0 := by decide +kernel
  have q1 : (1 : Int32).toInt = 1 := by decide +kernel
  intro v9 h9 h0
  have zx1 : x1.toNatClampNeg = ((σ.1 55).toInt - 1).toNat := by rw [clampN x1, tx1]
  try simp only [zx1] at *
  have zx26 : x26.toNatClampNeg = ((σ.1 55).toInt - 1).toNat := by rw [clampN x26, tx26]
  try simp only [zx26] at *
  have kd := h9.kd
  have kk := h9.ok.kd
  dsimp only at kd
  have nb : v9.1 = 1 → ((σ.2.2.1 52) ((σ.1 55).toInt - 1).toNat).toInt = v9.2.1 := fun e => (h9.2.2.2.2 (by omega) (by omega)).1
  refine ⟨fun hs => ⟨fun h => by omega, fun h => by omega⟩, fun hs => ⟨fun h => ?_, fun h => ?_⟩, fun hs => ⟨fun h => ⟨by omega, by omega, by omega⟩, fun h => by omega⟩, fun hs => by omega⟩
  · first | exact em.2 (by omega) | (exfalso; omega)
  · first | exact em.1 (by omega) | (exfalso; omega)
-- dead@127 @134
theorem v_jumps_24 (k0 : Int32) (hpre_3 : k0.toInt = 14 ∨ k0.toInt = 32 ∨ k0.toInt = 33 ∨ k0.toInt = 35 ∨ k0.toInt = 36 ∨ k0.toInt = 37) (c2 : ¬ k0.toInt = 36) (c7 : ¬ k0.toInt = 14) (c8 : ¬ k0.toInt = 37) (c9 : k0.toInt = 32) (c22 : ¬ k0.toInt = 33) (c28 : k0.toInt = 35) : False := by
  first | assumption | omega | (subst_vars; omega) | trivial
-- nw@135 @135
theorem v_jumps_25 (σ : RS) (x1 : Int32) (x10 : Int32) (x21 : Int64) (x23 : Int32) (x29 : Int32) (hpre_0 : 1 ≤ (σ.1 55).toInt) (hpre_1 : (σ.1 55).toInt ≤ 60) (ex1 : x1 = (σ.1 55) - (1 : Int32)) (tx1 : x1.toInt = (σ.1 55).toInt - 1) (ex10 : x10 = (σ.2.1 51) x1.toNatClampNeg) (tx10 : x10.toInt = ((σ.2.1 51) ((σ.1 55).toInt - 1).toNat).toInt) (c11 : x10.toInt = 1) (ex21 : x21 = (σ.2.2.1 52) x1.toNatClampNeg) (tx21 : x21.toInt = ((σ.2.2.1 52) ((σ.1 55).toInt - 1).toNat).toInt) (tx23 : (x23.toInt = 0 ↔ x21.toInt = 0) ∧ (x23.toInt < 0 ↔ x21.toInt < 0)) (c24 : x23.toInt = 0) (ex29 : x29 = (σ.1 55) - (0 : Int32)) : x29.toInt = (σ.1 55).toInt - 0 := by
  have q0 : (0 : Int32).toInt = 0 := by decide +kernel
  have q1 : (1 : Int32).toInt = 1 := by decide +kernel
  have w1 : (0 : Int32).toInt = 0 := by decide +kernel
  rw [ex29, z_sub (by omega) (by omega)]; first | done | omega
-- post @163
theorem v_jumps_26 (σ : RS) (k0 : Int32) (x1 : Int32) (x10 : Int32) (x21 : Int64) (x23 : Int32) (x29 : Int32) (hpre_0 : 1 ≤ (σ.1 55).toInt) (hpre_1 : (σ.1 55).toInt ≤ 60) (hpre_2 : (σ.1 56).toInt = 0) (hpre_3 : k0.toInt = 14 ∨ k0.toInt = 32 ∨ k0.toInt = 33 ∨ k0.toInt = 35 ∨ k0.toInt = 36 ∨ k0.toInt = 37) (ex1 : x1 = (σ.1 55) - (1 : Int32)) (tx1 : x1.toInt = (σ.1 55).toInt - 1) (c2 : ¬ k0.toInt = 36) (c7 : ¬ k0.toInt = 14) (c8 : ¬ k0.toInt = 37) (c9 : k0.toInt = 32) (ex10 : x10 = (σ.2.1 51) x1.toNatClampNeg) (tx10 : x10.toInt = ((σ.2.1 51) ((σ.1 55).toInt - 1).toNat).toInt) (c11 : x10.toInt = 1) (ex21 : x21 = (σ.2.2.1 52) x1.toNatClampNeg) (tx21 : x21.toInt = ((σ.2.2.1 52) ((σ.1 55).toInt - 1).toNat).toInt) (c22 : ¬ k0.toInt = 33) (tx23 : (x23.toInt = 0 ↔ x21.toInt = 0) ∧ (x23.toInt < 0 ↔ x21.toInt < 0)) (c24 : x23.toInt = 0) (c28 : ¬ k0.toInt = 35) (ex29 : x29 = (σ.1 55) - (0 : Int32)) (tx29 : x29.toInt = (σ.1 55).toInt - 0) : 0 ≤ (σ.1 56).toInt ∧ (σ.1 56).toInt ≤ 11 ∧ (k0.toInt = 36 → ¬ (1 : Int32).toInt = 0) ∧ (¬ (1 : Int32).toInt = 0 → (k0.toInt = 35 → x29.toInt = (σ.1 55).toInt - 1) ∧ (¬ k0.toInt = 35 → x29.toInt = (σ.1 55).toInt)) ∧ ((1 : Int32).toInt = 0 → (k0.toInt = 14 → x29.toInt = (σ.1 55).toInt) ∧ (¬ k0.toInt = 14 → x29.toInt = (σ.1 55).toInt - 1)) := by
  have q0 : (0 : Int32).toInt = 0 := by decide +kernel
  have q1 : (1 : Int32).toInt = 1 := by decide +kernel
  refine ⟨?_, ?_, ?_, ?_, ?_⟩ <;> first | assumption | omega | (subst_vars; omega) | trivial
-- post2 @163
theorem v_jumps_27 (σ : RS) (k0 : Int32) (x1 : Int32) (x10 : Int32) (x21 : Int64) (x23 : Int32) (x29 : Int32) (hpre_0 : 1 ≤ (σ.1 55).toInt) (hpre_1 : (σ.1 55).toInt ≤ 60) (hpre_2 : (σ.1 56).toInt = 0) (hpre_3 : k0.toInt = 14 ∨ k0.toInt = 32 ∨ k0.toInt = 33 ∨ k0.toInt = 35 ∨ k0.toInt = 36 ∨ k0.toInt = 37) (ex1 : x1 = (σ.1 55) - (1 : Int32)) (tx1 : x1.toInt = (σ.1 55).toInt - 1) (c2 : ¬ k0.toInt = 36) (c7 : ¬ k0.toInt = 14) (c8 : ¬ k0.toInt = 37) (c9 : k0.toInt = 32) (ex10 : x10 = (σ.2.1 51) x1.toNatClampNeg) (tx10 : x10.toInt = ((σ.2.1 51) ((σ.1 55).toInt - 1).toNat).toInt) (c11 : x10.toInt = 1) (ex21 : x21 = (σ.2.2.1 52) x1.toNatClampNeg) (tx21 : x21.toInt = ((σ.2.2.1 52) ((σ.1 55).toInt - 1).toNat).toInt) (c22 : ¬ k0.toInt = 33) (tx23 : (x23.toInt = 0 ↔ x21.toInt = 0) ∧ (x23.toInt < 0 ↔ x21.toInt < 0)) (c24 : x23.toInt = 0) (c28 : ¬ k0.toInt = 35) (ex29 : x29 = (σ.1 55) - (0 : Int32)) (tx29 : x29.toInt = (σ.1 55).toInt - 0) : ∀ v9 : QV, QAT (qH (σ.2.1 36) (σ.2.1 37) (σ.2.1 38) (σ.2.1 39) (σ.2.1 40) (σ.2.1 41) (σ.2.1 42) (σ.2.1 43) (σ.2.1 44) (σ.2.1 45) (σ.2.1 46) (σ.2.1 48)) (σ.1 47).toInt ((σ.2.1 51), (σ.2.2.1 52), (σ.2.2.1 53), (σ.2.2.2)) (((σ.1 55).toInt - 1).toNat) v9 → (σ.1 56).toInt = 0 → (k0.toInt = 14 → (¬ (1 : Int32).toInt = 0 → v9.1 = 0) ∧ ((1 : Int32).toInt = 0 → ¬ v9.1 = 0)) ∧ (k0.toInt = 37 → ((1 : Int32).toInt = 0 → qEmpty v9 = true) ∧ (¬ (1 : Int32).toInt = 0 → qEmpty v9 = false)) ∧ ((k0.toInt = 32 ∨ k0.toInt = 33 ∨ k0.toInt = 35) → (v9.1 = 1 → (σ.1 56).toInt = 0 ∧ ((1 : Int32).toInt = 0 → ¬ v9.2.1 = if k0.toInt = 33 then 1 else 0) ∧ (¬ (1 : Int32).toInt = 0 → v9.2.1 = if k0.toInt = 33 then 1 else 0)) ∧ (¬ v9.1 = 1 → (σ.1 56).toInt = 1)) ∧ ((k0.toInt = 14 ∨ k0.toInt = 36 ∨ k0.toInt = 37) → (σ.1 56).toInt = 0) := by
  have q0 : (0 : Int32).toInt = 0 := by decide +kernel
  have q1 : (1 : Int32).toInt = 1 := by decide +kernel
  intro v9 h9 h0
  have zx1 : x1.toNatClampNeg = ((σ.1 55).toInt - 1).toNat := by rw [clampN x1, tx1]
  try simp only [zx1] at *
  have kd := h9.kd
  have kk := h9.ok.kd
  dsimp only at kd
  have nb : v9.1 = 1 → ((σ.2.2.1 52) ((σ.1 55).toInt - 1).toNat).toInt = v9.2.1 := fun e => (h9.2.2.2.2 (by omega) (by omega)).1
  refine ⟨fun hs => ⟨fun h => by omega, fun h => by omega⟩, fun hs => ⟨fun h => ?_, fun h => ?_⟩, fun hs => ⟨fun h => ⟨by omega, by omega, by omega⟩, fun h => by omega⟩, fun hs => by omega⟩
  · first | exact em.2 (by omega) | (exfalso; omega)
  · first | exact em.1 (by omega) | (exfalso; omega)
-- dead@97 @100
theorem v_jumps_28 (k0 : Int32) (hpre_3 : k0.toInt = 14 ∨ k0.toInt = 32 ∨ k0.toInt = 33 ∨ k0.toInt = 35 ∨ k0.toInt = 36 ∨ k0.toInt = 37) (c2 : ¬ k0.toInt = 36) (c7 : ¬ k0.toInt = 14) (c8 : ¬ k0.toInt = 37) (c9 : k0.toInt = 32) (c22 : k0.toInt = 33) : False := by
  first | assumption | omega | (subst_vars; omega) | trivial
-- in@93 @93
theorem v_jumps_29 (σ : RS) (x1 : Int32) (x31 : Int32) (hpre_0 : 1 ≤ (σ.1 55).toInt) (hpre_1 : (σ.1 55).toInt ≤ 60) (ex1 : x1 = (σ.1 55) - (1 : Int32)) (tx1 : x1.toInt = (σ.1 55).toInt - 1) (ex31 : x31 = (σ.2.1 51) x1.toNatClampNeg) (tx31 : x31.toInt = ((σ.2.1 51) ((σ.1 55).toInt - 1).toNat).toInt) (c32 : ¬ x31.toInt = 1) : vp_in x1 980 := by
  have q1 : (1 : Int32).toInt = 1 := by decide +kernel
  exact vp_in_iff.mpr ⟨by omega, by omega⟩
-- dead@97 @104
theorem v_jumps_30 (k0 : Int32) (hpre_3 : k0.toInt = 14 ∨ k0.toInt = 32 ∨ k0.toInt = 33 ∨ k0.toInt = 35 ∨ k0.toInt = 36 ∨ k0.toInt = 37) (c2 : ¬ k0.toInt = 36) (c7 : ¬ k0.toInt = 14) (c8 : ¬ k0.toInt = 37) (c9 : ¬ k0.toInt = 32) (c30 : k0.toInt = 33) (c34 : ¬ k0.toInt = 33) : False := by
  first | assumption | omega | (subst_vars; omega) | trivial
-- nw@135 @135
theorem v_jumps_31 (σ : RS) (x1 : Int32) (x31 : Int32) (x33 : Int64) (x35 : Int32) (x38 : Int32) (hpre_0 : 1 ≤ (σ.1 55).toInt) (hpre_1 : (σ.1 55).toInt ≤ 60) (ex1 : x1 = (σ.1 55) - (1 : Int32)) (tx1 : x1.toInt = (σ.1 55).toInt - 1) (ex31 : x31 = (σ.2.1 51) x1.toNatClampNeg) (tx31 : x31.toInt = ((σ.2.1 51) ((σ.1 55).toInt - 1).toNat).toInt) (c32 : ¬ x31.toInt = 1) (ex33 : x33 = (σ.2.2.1 52) x1.toNatClampNeg) (tx33 : x33.toInt = ((σ.2.2.1 52) ((σ.1 55).toInt - 1).toNat).toInt) (tx35 : (x35.toInt = 0 ↔ x33.toInt = 1) ∧ (x35.toInt < 0 ↔ x33.toInt < 1)) (c36 : ¬ x35.toInt = 0) (ex38 : x38 = (σ.1 55) - (1 : Int32)) : x38.toInt = (σ.1 55).toInt - 1 := by
  have q1 : (1 : Int32).toInt = 1 := by decide +kernel
  have w1 : (1 : Int32).toInt = 1 := by decide +kernel
  rw [ex38, z_sub (by omega) (by omega)]; first | done | omega
-- post @163
theorem v_jumps_32 (σ : RS) (k0 : Int32) (x1 : Int32) (x31 : Int32) (x33 : Int64) (x35 : Int32) (x38 : Int32) (hpre_0 : 1 ≤ (σ.1 55).toInt) (hpre_1 : (σ.1 55).toInt ≤ 60) (hpre_3 : k0.toInt = 14 ∨ k0.toInt = 32 ∨ k0.toInt = 33 ∨ k0.toInt = 35 ∨ k0.toInt = 36 ∨ k0.toInt = 37) (ex1 : x1 = (σ.1 55) - (1 : Int32)) (tx1 : x1.toInt = (σ.1 55).toInt - 1) (c2 : ¬ k0.toInt = 36) (c7 : ¬ k0.toInt = 14) (c8 : ¬ k0.toInt = 37) (c9 : ¬ k0.toInt = 32) (c30 : k0.toInt = 33) (ex31 : x31 = (σ.2.1 51) x1.toNatClampNeg) (tx31 : x31.toInt = ((σ.2.1 51) ((σ.1 55).toInt - 1).toNat).toInt) (c32 : ¬ x31.toInt = 1) (ex33 : x33 = (σ.2.2.1 52) x1.toNatClampNeg) (tx33 : x33.toInt = ((σ.2.2.1 52) ((σ.1 55).toInt - 1).toNat).toInt) (c34 : k0.toInt = 33) (tx35 : (x35.toInt = 0 ↔ x33.toInt = 1) ∧ (x35.toInt < 0 ↔ x33.toInt < 1)) (c36 : ¬ x35.toInt = 0) (ex38 : x38 = (σ.1 55) - (1 : Int32)) (tx38 : x38.toInt = (σ.1 55).toInt - 1) : 0 ≤ (1 : Int32).toInt ∧ (1 : Int32).toInt ≤ 11 ∧ (k0.toInt = 36 → ¬ (0 : Int32).toInt = 0) ∧ (¬ (0 : Int32).toInt = 0 → (k0.toInt = 35 → x38.toInt = (σ.1 55).toInt - 1) ∧ (¬ k0.toInt = 35 → x38.toInt = (σ.1 55).toInt)) ∧ ((0 : Int32).toInt = 0 → (k0.toInt = 14 → x38.toInt = (σ.1 55).toInt) ∧ (¬ k0.toInt = 14 → x38.toInt = (σ.1 55).toInt - 1)) := by
  have q0 : (0 : Int32).toInt = 0 := by decide +kernel
  have q1 : (1 : Int32).toInt = 1 := by decide +kernel
  refine ⟨?_, ?_, ?_, ?_, ?_⟩ <;> first | assumption | omega | (subst_vars; omega) | trivial
-- post2 @163
theorem v_jumps_33 (σ : RS) (k0 : Int32) (x1 : Int32) (x31 : Int32) (x33 : Int64) (x35 : Int32) (x38 : Int32) (hpre_0 : 1 ≤ (σ.1 55).toInt) (hpre_1 : (σ.1 55).toInt ≤ 60) (hpre_2 : (σ.1 56).toInt = 0) (hpre_3 : k0.toInt = 14 ∨ k0.toInt = 32 ∨ k0.toInt = 33 ∨ k0.toInt = 35 ∨ k0.toInt = 36 ∨ k0.toInt = 37) (ex1 : x1 = (σ.1 55) - (1 : Int32)) (tx1 : x1.toInt = (σ.1 55).toInt - 1) (c2 : ¬ k0.toInt = 36) (c7 : ¬ k0.toInt = 14) (c8 : ¬ k0.toInt = 37) (c9 : ¬ k0.toInt = 32) (c30 : k0.toInt = 33) (ex31 : x31 = (σ.2.1 51) x1.toNatClampNeg) (tx31 : x31.toInt = ((σ.2.1 51) ((σ.1 55).toInt - 1).toNat).toInt) (c32 : ¬ x31.toInt = 1) (ex33 : x33 = (σ.2.2.1 52) x1.toNatClampNeg) (tx33 : x33.toInt = ((σ.2.2.1 52) ((σ.1 55).toInt - 1).toNat).toInt) (c34 : k0.toInt = 33) (tx35 : (x35.toInt = 0 ↔ x33.toInt = 1) ∧ (x35.toInt < 0 ↔ x33.toInt < 1)) (c36 : ¬ x35.toInt = 0) (ex38 : x38 = (σ.1 55) - (1 : Int32)) (tx38 : x38.toInt = (σ.1 55).toInt - 1) : ∀ v9 : QV, QAT (qH (σ.2.1 36) (σ.2.1 37) (σ.2.1 38) (σ.2.1 39) (σ.2.1 40) (σ.2.1 41) (σ.2.1 42) (σ.2.1 43) (σ.2.1 44) (σ.2.1 45) (σ.2.1 46) (σ.2.1 48)) (σ.1 47).toInt ((σ.2.1 51), (σ.2.2.1 52), (σ.2.2.1 53), (σ.2.2.2)) (((σ.1 55).toInt - 1).toNat) v9 → (σ.1 56).toInt = 0 → (k0.toInt = 14 → (¬ (0 : Int32).toInt = 0 → v9.1 = 0) ∧ ((0 : Int32).toInt = 0 → ¬ v9.1 = 0)) ∧ (k0.toInt = 37 → ((0 : Int32).toInt = 0 → qEmpty v9 = true) ∧ (¬ (0 : Int32).toInt = 0 → qEmpty v9 = false)) ∧ ((k0.toInt = 32 ∨ k0.toInt = 33 ∨ k0.toInt = 35) → (v9.1 = 1 → (1 : Int32).toInt = 0 ∧ ((0 : Int32).toInt = 0 → ¬ v9.2.1 = if k0.toInt = 33 then 1 else 0) ∧ (¬ (0 : Int32).toInt = 0 → v9.2.1 = if k0.toInt = 33 then 1 else 0)) ∧ (¬ v9.1 = 1 → (1 : Int32).toInt = 1)) ∧ ((k0.toInt = 14 ∨ k0.toInt = 36 ∨ k0.toInt = 37) → (1 : Int32).toInt = 0) := by
  have q0 : (0 : Int32).toInt = 0 := by decide +kernel
  have q1 : (1 : Int32).toInt = 1 := by decide +kernel
  intro v9 h9 h0
  have zx1 : x1.toNatClampNeg = ((σ.1 55).toInt - 1).toNat := by rw [clampN x1, tx1]
  try simp only [zx1] at *
  have zx38 : x38.toNatClampNeg = ((σ.1 55).toInt - 1).toNat := by rw [clampN x38, tx38]
  try simp only [zx38] at *
  have kd := h9.kd
  have kk := h9.ok.kd
  dsimp only at kd
  have nb : v9.1 = 1 → ((σ.2.2.1 52) ((σ.1 55).toInt - 1).toNat).toInt = v9.2.1 := fun e => (h9.2.2.2.2 (by omega) (by omega)).1
  refine ⟨fun hs => ⟨fun h => by omega, fun h => by omega⟩, fun hs => ⟨fun h => ?_, fun h => ?_⟩, fun hs => ⟨fun h => ⟨by omega, by omega, by omega⟩, fun h => by omega⟩, fun hs => by omega⟩
  · first | exact em.2 (by omega) | (exfalso; omega)
  · first | exact em.1 (by omega) | (exfalso; omega)
-- dead@127 @134
theorem v_jumps_34 (k0 : Int32) (hpre_3 : k0.toInt = 14 ∨ k0.toInt = 32 ∨ k0.toInt = 33 ∨ k0.toInt = 35 ∨ k0.toInt = 36 ∨ k0.toInt = 37) (c2 : ¬ k0.toInt = 36) (c7 : ¬ k0.toInt = 14) (c8 : ¬ k0.toInt = 37) (c9 : ¬ k0.toInt = 32) (c30 : k0.toInt = 33) (c34 : k0.toInt = 33) (c40 : k0.toInt = 35) : False := by
  first | assumption | omega | (subst_vars; omega) | trivial
-- nw@135 @135
theorem v_jumps_35 (σ : RS) (x1 : Int32) (x31 : Int32) (x33 : Int64) (x35 : Int32) (x41 : Int32) (hpre_0 : 1 ≤ (σ.1 55).toInt) (hpre_1 : (σ.1 55).toInt ≤ 60) (ex1 : x1 = (σ.1 55) - (1 : Int32)) (tx1 : x1.toInt = (σ.1 55).toInt - 1) (ex31 : x31 = (σ.2.1 51) x1.toNatClampNeg) (tx31 : x31.toInt = ((σ.2.1 51) ((σ.1 55).toInt - 1).toNat).toInt) (c32 : ¬ x31.toInt = 1) (ex33 : x33 = (σ.2.2.1 52) x1.toNatClampNeg) (tx33 : x33.toInt = ((σ.2.2.1 52) ((σ.1 55).toInt - 1).toNat).toInt) (tx35 : (x35.toInt = 0 ↔ x33.toInt = 1) ∧ (x35.toInt < 0 ↔ x33.toInt < 1)) (c36 : x35.toInt = 0) (ex41 : x41 = (σ.1 55) - (0 : Int32)) : x41.toInt = (σ.1 55).toInt - 0 := by
  have q0 : (0 : Int32).toInt = 0 := by decide +kernel
  have q1 : (1 : Int32).toInt = 1 := by decide +kernel
  have w1 : (0 : Int32).toInt = 0 := by decide +kernel
  rw [ex41, z_sub (by omega) (by omega)]; first | done | omega
-- post @163
theorem v_jumps_36 (σ : RS) (k0 : Int32) (x1 : Int32) (x31 : Int32) (x33 : Int64) (x35 : Int32) (x41 : Int32) (hpre_0 : 1 ≤ (σ.1 55).toInt) (hpre_1 : (σ.1 55).toInt ≤ 60) (hpre_3 : k0.toInt = 14 ∨ k0.toInt = 32 ∨ k0.toInt = 33 ∨ k0.toInt = 35 ∨ k0.toInt = 36 ∨ k0.toInt = 37) (ex1 : x1 = (σ.1 55) - (1 : Int32)) (tx1 : x1.toInt = (σ.1 55).toInt - 1) (c2 : ¬ k0.toInt = 36) (c7 : ¬ k0.toInt = 14) (c8 : ¬ k0.toInt = 37) (c9 : ¬ k0.toInt = 32) (c30 : k0.toInt = 33) (ex31 : x31 = (σ.2.1 51) x1.toNatClampNeg) (tx31 : x31.toInt = ((σ.2.1 51) ((σ.1 55).toInt - 1).toNat).toInt) (c32 : ¬ x31.toInt = 1) (ex33 : x33 = (σ.2.2.1 52) x1.toNatClampNeg) (tx33 : x33.toInt = ((σ.2.2.1 52) ((σ.1 55).toInt - 1).toNat).toInt) (c34 : k0.toInt = 33) (tx35 : (x35.toInt = 0 ↔ x33.toInt = 1) ∧ (x35.toInt < 0 ↔ x33.toInt < 1)) (c36 : x35.toInt = 0) (c40 : ¬ k0.toInt = 35) (ex41 : x41 = (σ.1 55) - (0 : Int32)) (tx41 : x41.toInt = (σ.1 55).toInt - 0) : 0 ≤ (1 : Int32).toInt ∧ (1 : Int32).toInt ≤ 11 ∧ (k0.toInt = 36 → ¬ (1 : Int32).toInt = 0) ∧ (¬ (1 : Int32).toInt = 0 → (k0.toInt = 35 → x41.toInt = (σ.1 55).toInt - 1) ∧ (¬ k0.toInt = 35 → x41.toInt = (σ.1 55).toInt)) ∧ ((1 : Int32).toInt = 0 → (k0.toInt = 14 → x41.toInt = (σ.1 55).toInt) ∧ (¬ k0.toInt = 14 → x41.toInt = (σ.1 55).toInt - 1)) := by
  have q0 : (0 : Int32).toInt = 0 := by decide +kernel
  have q1 : (1 : Int32).toInt = 1 := by decide +kernel
  refine ⟨?_, ?_, ?_, ?_, ?_⟩ <;> first | assumption | omega | (subst_vars; omega) | trivial
-- post2 @163
theorem v_jumps_37 (σ : RS) (k0 : Int32) (x1 : Int32) (x31 : Int32) (x33 : Int64) (x35 : Int32) (x41 : Int32) (hpre_0 : 1 ≤ (σ.1 55).toInt) (hpre_1 : (σ.1 55).toInt ≤ 60) (hpre_2 : (σ.1 56).toInt = 0) (hpre_3 : k0.toInt = 14 ∨ k0.toInt = 32 ∨ k0.toInt = 33 ∨ k0.toInt = 35 ∨ k0.toInt = 36 ∨ k0.toInt = 37) (ex1 : x1 = (σ.1 55) - (1 : Int32)) (tx1 : x1.toInt = (σ.1 55).toInt - 1) (c2 : ¬ k0.toInt = 36) (c7 : ¬ k0.toInt = 14) (c8 : ¬ k0.toInt = 37) (c9 : ¬ k0.toInt = 32) (c30 : k0.toInt = 33) (ex31 : x31 = (σ.2.1 51) x1.toNatClampNeg) (tx31 : x31.toInt = ((σ.2.1 51) ((σ.1 55).toInt - 1).toNat).toInt) (c32 : ¬ x31.toInt = 1) (ex33 : x33 = (σ.2.2.1 52) x1.toNatClampNeg) (tx33 : x33.toInt = ((σ.2.2.1 52) ((σ.1 55).toInt - 1).toNat).toInt) (c34 : k0.toInt = 33) (tx35 : (x35.toInt = 0 ↔ x33.toInt = 1) ∧ (x35.toInt < 0 ↔ x33.toInt < 1)) (c36 : x35.toInt = 0) (c40 : ¬ k0.toInt = 35) (ex41 : x41 = (σ.1 55) - (0 : Int32)) (tx41 : x41.toInt = (σ.1 55).toInt - 0) : ∀ v9 : QV, QAT (qH (σ.2.1 36) (σ.2.1 37) (σ.2.1 38) (σ.2.1 39) (σ.2.1 40) (σ.2.1 41) (σ.2.1 42) (σ.2.1 43) (σ.2.1 44) (σ.2.1 45) (σ.2.1 46) (σ.2.1 48)) (σ.1 47).toInt ((σ.2.1 51), (σ.2.2.1 52), (σ.2.2.1 53), (σ.2.2.2)) (((σ.1 55).toInt - 1).toNat) v9 → (σ.1 56).toInt = 0 → (k0.toInt = 14 → (¬ (1 : Int32).toInt = 0 → v9.1 = 0) ∧ ((1 : Int32).toInt = 0 → ¬ v9.1 = 0)) ∧ (k0.toInt = 37 → ((1 : Int32).toInt = 0 → qEmpty v9 = true) ∧ (¬ (1 : Int32).toInt = 0 → qEmpty v9 = false)) ∧ ((k0.toInt = 32 ∨ k0.toInt = 33 ∨ k0.toInt = 35) → (v9.1 = 1 → (1 : Int32).toInt = 0 ∧ ((1 : Int32).toInt = 0 → ¬ v9.2.1 = if k0.toInt = 33 then 1 else 0) ∧ (¬ (1 : Int32).toInt = 0 → v9.2.1 = if k0.toInt = 33 then 1 else 0)) ∧ (¬ v9.1 = 1 → (1 : Int32).toInt = 1)) ∧ ((k0.toInt = 14 ∨ k0.toInt = 36 ∨ k0.toInt = 37) → (1 : Int32).toInt = 0) := by
  have q0 : (0 : Int32).toInt = 0 := by decide +kernel
  have q1 : (1 : Int32).toInt = 1 := by decide +kernel
  intro v9 h9 h0
  have zx1 : x1.toNatClampNeg = ((σ.1 55).toInt - 1).toNat := by rw [clampN x1, tx1]
  try simp only [zx1] at *
  have kd := h9.kd
  have kk := h9.ok.kd
  dsimp only at kd
  have nb : v9.1 = 1 → ((σ.2.2.1 52) ((σ.1 55).toInt - 1).toNat).toInt = v9.2.1 := fun e => (h9.2.2.2.2 (by omega) (by omega)).1
  refine ⟨fun hs => ⟨fun h => by omega, fun h => by omega⟩, fun hs => ⟨fun h => ?_, fun h => ?_⟩, fun hs => ⟨fun h => ⟨by omega, by omega, by omega⟩, fun h => by omega⟩, fun hs => by omega⟩
  · first | exact em.2 (by omega) | (exfalso; omega)
  · first | exact em.1 (by omega) | (exfalso; omega)
-- in@93 @93
theorem v_jumps_38 (σ : RS) (x1 : Int32) (x31 : Int32) (hpre_0 : 1 ≤ (σ.1 55).toInt) (hpre_1 : (σ.1 55).toInt ≤ 60) (ex1 : x1 = (σ.1 55) - (1 : Int32)) (tx1 : x1.toInt = (σ.1 55).toInt - 1) (ex31 : x31 = (σ.2.1 51) x1.toNatClampNeg) (tx31 : x31.toInt = ((σ.2.1 51) ((σ.1 55).toInt - 1).toNat).toInt) (c32 : x31.toInt = 1) : vp_in x1 980 := by
  have q1 : (1 : Int32).toInt = 1 := by decide +kernel
  exact vp_in_iff.mpr ⟨by omega, by omega⟩
-- dead@97 @104
theorem v_jumps_39 (k0 : Int32) (hpre_3 : k0.toInt = 14 ∨ k0.toInt = 32 ∨ k0.toInt = 33 ∨ k0.toInt = 35 ∨ k0.toInt = 36 ∨ k0.toInt = 37) (c2 : ¬ k0.toInt = 36) (c7 : ¬ k0.toInt = 14) (c8 : ¬ k0.toInt = 37) (c9 : ¬ k0.toInt = 32) (c30 : k0.toInt = 33) (c43 : ¬ k0.toInt = 33) : False := by
  first | assumption | omega | (subst_vars; omega) | trivial
-- nw@135 @135
theorem v_jumps_40 (σ : RS) (x1 : Int32) (x31 : Int32) (x42 : Int64) (x44 : Int32) (x47 : Int32) (hpre_0 : 1 ≤ (σ.1 55).toInt) (hpre_1 : (σ.1 55).toInt ≤ 60) (ex1 : x1 = (σ.1 55) - (1 : Int32)) (tx1 : x1.toInt = (σ.1 55).toInt - 1) (ex31 : x31 = (σ.2.1 51) x1.toNatClampNeg) (tx31 : x31.toInt = ((σ.2.1 51) ((σ.1 55).toInt - 1).toNat).toInt) (c32 : x31.toInt = 1) (ex42 : x42 = (σ.2.2.1 52) x1.toNatClampNeg) (tx42 : x42.toInt = ((σ.2.2.1 52) ((σ.1 55).toInt - 1).toNat).toInt) (tx44 : (x44.toInt = 0 ↔ x42.toInt = 1) ∧ (x44.toInt < 0 ↔ x42.toInt < 1)) (c45 : ¬ x44.toInt = 0) (ex47 : x47 = (σ.1 55) - (1 : Int32)) : x47.toInt = (σ.1 55).toInt - 1 := by
  have q1 : (1 : Int32).toInt = 1 := by decide +kernel
  have w1 : (1 : Int32).toInt = 1 := by decide +kernel
  rw [ex47, z_sub (by omega) (by omega)]; first | done | omega
-- post @163
theorem v_jumps_41 (σ : RS) (k0 : Int32) (x1 : Int32) (x31 : Int32) (x42 : Int64) (x44 : Int32) (x47 : Int32) (hpre_0 : 1 ≤ (σ.1 55).toInt) (hpre_1 : (σ.1 55).toInt ≤ 60) (hpre_2 : (σ.1 56).toInt = 0) (hpre_3 : k0.toInt = 14 ∨ k0.toInt = 32 ∨ k0.toInt = 33 ∨ k0.toInt = 35 ∨ k0.toInt = 36 ∨ k0.toInt = 37) (ex1 : x1 = (σ.1 55) - (1 : Int32)) (tx1 : x1.toInt = (σ.1 55).toInt - 1) (c2 : ¬ k0.toInt = 36) (c7 : ¬ k0.toInt = 14) (c8 : ¬ k0.toInt = 37) (c9 : ¬ k0.toInt = 32) (c30 : k0.toInt = 33) (ex31 : x31 = (σ.2.1 51) x1.toNatClampNeg) (tx31 : x31.toInt = ((σ.2.1 51) ((σ.1 55).toInt - 1).toNat).toInt) (c32 : x31.toInt = 1) (ex42 : x42 = (σ.2.2.1 52) x1.toNatClampNeg) (tx42 : x42.toInt = ((σ.2.2.1 52) ((σ.1 55).toInt - 1).toNat).toInt) (c43 : k0.toInt = 33) (tx44 : (x44.toInt = 0 ↔ x42.toInt = 1) ∧ (x44.toInt < 0 ↔ x42.toInt < 1)) (c45 : ¬ x44.toInt = 0) (ex47 : x47 = (σ.1 55) - (1 : Int32)) (tx47 : x47.toInt = (σ.1 55).toInt - 1) : 0 ≤ (σ.1 56).toInt ∧ (σ.1 56).toInt ≤ 11 ∧ (k0.toInt = 36 → ¬ (0 : Int32).toInt = 0) ∧ (¬ (0 : Int32).toInt = 0 → (k0.toInt = 35 → x47.toInt = (σ.1 55).toInt - 1) ∧ (¬ k0.toInt = 35 → x47.toInt = (σ.1 55).toInt)) ∧ ((0 : Int32).toInt = 0 → (k0.toInt = 14 → x47.toInt = (σ.1 55).toInt) ∧ (¬ k0.toInt = 14 → x47.toInt = (σ.1 55).toInt - 1)) := by
  have q0 : (0 : Int32).toInt = 0 := by decide +kernel
  have q1 : (1 : Int32).toInt = 1 := by decide +kernel
  refine ⟨?_, ?_, ?_, ?_, ?_⟩ <;> first | assumption | omega | (subst_vars; omega) | trivial
-- post2 @163
theorem v_jumps_42 (σ : RS) (k0 : Int32) (x1 : Int32) (x31 : Int32) (x42 : Int64) (x44 : Int32) (x47 : Int32) (hpre_0 : 1 ≤ (σ.1 55).toInt) (hpre_1 : (σ.1 55).toInt ≤ 60) (hpre_2 : (σ.1 56).toInt = 0) (hpre_3 : k0.toInt = 14 ∨ k0.toInt = 32 ∨ k0.toInt = 33 ∨ k0.toInt = 35 ∨ k0.toInt = 36 ∨ k0.toInt = 37) (ex1 : x1 = (σ.1 55) - (1 : Int32)) (tx1 : x1.toInt = (σ.1 55).toInt - 1) (c2 : ¬ k0.toInt = 36) (c7 : ¬ k0.toInt = 14) (c8 : ¬ k0.toInt = 37) (c9 : ¬ k0.toInt = 32) (c30 : k0.toInt = 33) (ex31 : x31 = (σ.2.1 51) x1.toNatClampNeg) (tx31 : x31.toInt = ((σ.2.1 51) ((σ.1 55).toInt - 1).toNat).toInt) (c32 : x31.toInt = 1) (ex42 : x42 = (σ.2.2.1 52) x1.toNatClampNeg) (tx42 : x42.toInt = ((σ.2.2.1 52) ((σ.1 55).toInt - 1).toNat).toInt) (c43 : k0.toInt = 33) (tx44 : (x44.toInt = 0 ↔ x42.toInt = 1) ∧ (x44.toInt < 0 ↔ x42.toInt < 1)) (c45 : ¬ x44.toInt = 0) (ex47 : x47 = (σ.1 55) - (1 : Int32)) (tx47 : x47.toInt = (σ.1 55).toInt - 1) : ∀ v9 : QV, QAT (qH (σ.2.1 36) (σ.2.1 37) (σ.2.1 38) (σ.2.1 39) (σ.2.1 40) (σ.2.1 41) (σ.2.1 42) (σ.2.1 43) (σ.2.1 44) (σ.2.1 45) (σ.2.1 46) (σ.2.1 48)) (σ.1 47).toInt ((σ.2.1 51), (σ.2.2.1 52), (σ.2.2.1 53), (σ.2.2.2)) (((σ.1 55).toInt - 1).toNat) v9 → (σ.1 56).toInt = 0 → (k0.toInt = 14 → (¬ (0 : Int32).toInt = 0 → v9.1 = 0) ∧ ((0 : Int32).toInt = 0 → ¬ v9.1 = 0)) ∧ (k0.toInt = 37 → ((0 : Int32).toInt = 0 → qEmpty v9 = true) ∧ (¬ (0 : Int32).toInt = 0 → qEmpty v9 = false)) ∧ ((k0.toInt = 32 ∨ k0.toInt = 33 ∨ k0.toInt = 35) → (v9.1 = 1 → (σ.1 56).toInt = 0 ∧ ((0 : Int32).toInt = 0 → ¬ v9.2.1 = if k0.toInt = 33 then 1 else 0) ∧ (¬ (0 : Int32).toInt = 0 → v9.2.1 = if k0.toInt = 33 then 1 else 0)) ∧ (¬ v9.1 = 1 → (σ.1 56).toInt = 1)) ∧ ((k0.toInt = 14 ∨ k0.toInt = 36 ∨ k0.toInt = 37) → (σ.1 56).toInt = 0) := by
  have q0 : (0 : Int32).toInt = 0 := by decide +kernel
  have q1 : (1 : Int32).toInt = 1 := by decide +kernel
  intro v9 h9 h0
  have zx1 : x1.toNatClampNeg = ((σ.1 55).toInt - 1).toNat := by rw [clampN x1, tx1]
  try simp only [zx1] at *
  have zx47 : x47.toNatClampNeg = ((σ.1 55).toInt - 1).toNat := by rw [clampN x47, tx47]
  try simp only [zx47] at *
  have kd := h9.kd
  have kk := h9.ok.kd
  dsimp only at kd
  have nb : v9.1 = 1 → ((σ.2.2.1 52) ((σ.1 55).toInt - 1).toNat).toInt = v9.2.1 := fun e => (h9.2.2.2.2 (by omega) (by omega)).1
  refine ⟨fun hs => ⟨fun h => by omega, fun h => by omega⟩, fun hs => ⟨fun h => ?_, fun h => ?_⟩, fun hs => ⟨fun h => ⟨by omega, by omega, by omega⟩, fun h => by omega⟩, fun hs => by omega⟩
  · first | exact em.2 (by omega) | (exfalso; omega)
  · first | exact em.1 (by omega) | (exfalso; omega)
-- dead@127 @134
theorem v_jumps_43 (k0 : Int32) (hpre_3 : k0.toInt = 14 ∨ k0.toInt = 32 ∨ k0.toInt = 33 ∨ k0.toInt = 35 ∨ k0.toInt = 36 ∨ k0.toInt = 37) (c2 : ¬ k0.toInt = 36) (c7 : ¬ k0.toInt = 14) (c8 : ¬ k0.toInt = 37) (c9 : ¬ k0.toInt = 32) (c30 : k0.toInt = 33) (c43 : k0.toInt = 33) (c49 : k0.toInt = 35) : False := by
  first | assumption | omega | (subst_vars; omega) | trivial
-- nw@135 @135
theorem v_jumps_44 (σ : RS) (x1 : Int32) (x31 : Int32) (x42 : Int64) (x44 : Int32) (x50 : Int32) (hpre_0 : 1 ≤ (σ.1 55).toInt) (hpre_1 : (σ.1 55).toInt ≤ 60) (ex1 : x1 = (σ.1 55) - (1 : Int32)) (tx1 : x1.toInt = (σ.1 55).toInt - 1) (ex31 : x31 = (σ.2.1 51) x1.toNatClampNeg) (tx31 : x31.toInt = ((σ.2.1 51) ((σ.1 55).toInt - 1).toNat).toInt) (c32 : x31.toInt = 1) (ex42 : x42 = (σ.2.2.1 52) x1.toNatClampNeg) (tx42 : x42.toInt = ((σ.2.2.1 52) ((σ.1 55).toInt - 1).toNat).toInt) (tx44 : (x44.toInt = 0 ↔ x42.toInt = 1) ∧ (x44.toInt < 0 ↔ x42.toInt < 1)) (c45 : x44.toInt = 0) (ex50 : x50 = (σ.1 55) - (0 : Int32)) : x50.toInt = (σ.1 55).toInt - 0 := by
  have q0 : (0 : Int32).toInt = 0 := by decide +kernel
  have q1 : (1 : Int32).toInt = 1 := by decide +kernel
  have w1 : (0 : Int32).toInt = 0 := by decide +kernel
  rw [ex50, z_sub (by omega) (by omega)]; first | done | omega
-- post @163
theorem v_jumps_45 (σ : RS) (k0 : Int32) (x1 : Int32) (x31 : Int32) (x42 : Int64) (x44 : Int32) (x50 : Int32) (hpre_0 : 1 ≤ (σ.1 55).toInt) (hpre_1 : (σ.1 55).toInt ≤ 60) (hpre_2 : (σ.1 56).toInt = 0) (hpre_3 : k0.toInt = 14 ∨ k0.toInt = 32 ∨ k0.toInt = 33 ∨ k0.toInt = 35 ∨ k0.toInt = 36 ∨ k0.toInt = 37) (ex1 : x1 = (σ.1 55) - (1 : Int32)) (tx1 : x1.toInt = (σ.1 55).toInt - 1) (c2 : ¬ k0.toInt = 36) (c7 : ¬ k0.toInt = 14) (c8 : ¬ k0.toInt = 37) (c9 : ¬ k0.toInt = 32) (c30 : k0.toInt = 33) (ex31 : x31 = (σ.2.1 51) x1.toNatClampNeg) (tx31 : x31.toInt = ((σ.2.1 51) ((σ.1 55).toInt - 1).toNat).toInt) (c32 : x31.toInt = 1) (ex42 : x42 = (σ.2.2.1 52) x1.toNatClampNeg) (tx42 : x42.toInt = ((σ.2.2.1 52) ((σ.1 55).toInt - 1).toNat).toInt) (c43 : k0.toInt = 33) (tx44 : (x44.toInt = 0 ↔ x42.toInt = 1) ∧ (x44.toInt < 0 ↔ x42.toInt < 1)) (c45 : x44.toInt = 0) (c49 : ¬ k0.toInt = 35) (ex50 : x50 = (σ.1 55) - (0 : Int32)) (tx50 : x50.toInt = (σ.1 55).toInt - 0) : 0 ≤ (σ.1 56).toInt ∧ (σ.1 56).toInt ≤ 11 ∧ (k0.toInt = 36 → ¬ (1 : Int32).toInt = 0) ∧ (¬ (1 : Int32).toInt = 0 → (k0.toInt = 35 → x50.toInt = (σ.1 55).toInt - 1) ∧ (¬ k0.toInt = 35 → x50.toInt = (σ.1 55).toInt)) ∧ ((1 : Int32).toInt = 0 → (k0.toInt = 14 → x50.toInt = (σ.1 55).toInt) ∧ (¬ k0.toInt = 14 → x50.toInt = (σ.1 55).toInt - 1)) := by
  have q0 : (0 : Int32).toInt = 0 := by decide +kernel
  have q1 : (1 : Int32).toInt = 1 := by decide +kernel
  refine ⟨?_, ?_, ?_, ?_, ?_⟩ <;> first | assumption | omega | (subst_vars; omega) | trivial
-- post2 @163
theorem v_jumps_46 (σ : RS) (k0 : Int32) (x1 : Int32) (x31 : Int32) (x42 : Int64) (x44 : Int32) (x50 : Int32) (hpre_0 : 1 ≤ (σ.1 55).toInt) (hpre_1 : (σ.1 55).toInt ≤ 60) (hpre_2 : (σ.1 56).toInt = 0) (hpre_3 : k0.toInt = 14 ∨ k0.toInt = 32 ∨ k0.toInt = 33 ∨ k0.toInt = 35 ∨ k0.toInt = 36 ∨ k0.toInt = 37) (ex1 : x1 = (σ.1 55) - (1 : Int32)) (tx1 : x1.toInt = (σ.1 55).toInt - 1) (c2 : ¬ k0.toInt = 36) (c7 : ¬ k0.toInt = 14) (c8 : ¬ k0.toInt = 37) (c9 : ¬ k0.toInt = 32) (c30 : k0.toInt = 33) (ex31 : x31 = (σ.2.1 51) x1.toNatClampNeg) (tx31 : x31.toInt = ((σ.2.1 51) ((σ.1 55).toInt - 1).toNat).toInt) (c32 : x31.toInt = 1) (ex42 : x42 = (σ.2.2.1 52) x1.toNatClampNeg) (tx42 : x42.toInt = ((σ.2.2.1 52) ((σ.1 55).toInt - 1).toNat).toInt) (c43 : k0.toInt = 33) (tx44 : (x44.toInt = 0 ↔ x42.toInt = 1) ∧ (x44.toInt < 0 ↔ x42.toInt < 1)) (c45 : x44.toInt = 0) (c49 : ¬ k0.toInt = 35) (ex50 : x50 = (σ.1 55) - (0 : Int32)) (tx50 : x50.toInt = (σ.1 55).toInt - 0) : ∀ v9 : QV, QAT (qH (σ.2.1 36) (σ.2.1 37) (σ.2.1 38) (σ.2.1 39) (σ.2.1 40) (σ.2.1 41) (σ.2.1 42) (σ.2.1 43) (σ.2.1 44) (σ.2.1 45) (σ.2.1 46) (σ.2.1 48)) (σ.1 47).toInt ((σ.2.1 51), (σ.2.2.1 52), (σ.2.2.1 53), (σ.2.2.2)) (((σ.1 55).toInt - 1).toNat) v9 → (σ.1 56).toInt = 0 → (k0.toInt = 14 → (¬ (1 : Int32).toInt = 0 → v9.1 = 0) ∧ ((1 : Int32).toInt = 0 → ¬ v9.1 = 0)) ∧ (k0.toInt = 37 → ((1 : Int32).toInt = 0 → qEmpty v9 = true) ∧ (¬ (1 : Int32).toInt = 0 → qEmpty v9 = false)) ∧ ((k0.toInt = 32 ∨ k0.toInt = 33 ∨ k0.toInt = 35) → (v9.1 = 1 → (σ.1 56).toInt = 0 ∧ ((1 : Int32).toInt = 0 → ¬ v9.2.1 = if k0.toInt = 33 then 1 else 0) ∧ (¬ (1 : Int32).toInt = 0 → v9.2.1 = if k0.toInt = 33 then 1 else 0)) ∧ (¬ v9.1 = 1 → (σ.1 56).toInt = 1)) ∧ ((k0.toInt = 14 ∨ k0.toInt = 36 ∨ k0.toInt = 37) → (σ.1 56).toInt = 0) := by
  have q0 : (0 : Int32).toInt = 0 := by decide +kernel
  have q1 : (1 : Int32).toInt = 1 := by decide +kernel
  intro v9 h9 h0
  have zx1 : x1.toNatClampNeg = ((σ.1 55).toInt - 1).toNat := by rw [clampN x1, tx1]
  try simp only [zx1] at *
  have kd := h9.kd
  have kk := h9.ok.kd
  dsimp only at kd
  have nb : v9.1 = 1 → ((σ.2.2.1 52) ((σ.1 55).toInt - 1).toNat).toInt = v9.2.1 := fun e => (h9.2.2.2.2 (by omega) (by omega)).1
  refine ⟨fun hs => ⟨fun h => by omega, fun h => by omega⟩, fun hs => ⟨fun h => ?_, fun h => ?_⟩, fun hs => ⟨fun h => ⟨by omega, by omega, by omega⟩, fun h => by omega⟩, fun hs => by omega⟩
  · first | exact em.2 (by omega) | (exfalso; omega)
  · first | exact em.1 (by omega) | (exfalso; omega)
-- post @163
theorem v_jumps_47 (σ : RS) (k0 : Int32) (x1 : Int32) (hpre_0 : 1 ≤ (σ.1 55).toInt) (hpre_1 : (σ.1 55).toInt ≤ 60) (hpre_2 : (σ.1 56).toInt = 0) (hpre_3 : k0.toInt = 14 ∨ k0.toInt = 32 ∨ k0.toInt = 33 ∨ k0.toInt = 35 ∨ k0.toInt = 36 ∨ k0.toInt = 37) (ex1 : x1 = (σ.1 55) - (1 : Int32)) (tx1 : x1.toInt = (σ.1 55).toInt - 1) (c2 : ¬ k0.toInt = 36) (c7 : ¬ k0.toInt = 14) (c8 : ¬ k0.toInt = 37) (c9 : ¬ k0.toInt = 32) (c30 : ¬ k0.toInt = 33) (c51 : ¬ k0.toInt = 35) (c52 : ¬ k0.toInt = 37) : 0 ≤ (σ.1 56).toInt ∧ (σ.1 56).toInt ≤ 11 ∧ (k0.toInt = 36 → ¬ (0 : Int32).toInt = 0) ∧ (¬ (0 : Int32).toInt = 0 → (k0.toInt = 35 → (σ.1 55).toInt = (σ.1 55).toInt - 1) ∧ (¬ k0.toInt = 35 → (σ.1 55).toInt = (σ.1 55).toInt)) ∧ ((0 : Int32).toInt = 0 → (k0.toInt = 14 → (σ.1 55).toInt = (σ.1 55).toInt) ∧ (¬ k0.toInt = 14 → (σ.1 55).toInt = (σ.1 55).toInt - 1)) := by
  have q0 : (0 : Int32).toInt = 0 := by decide +kernel
  have q1 : (1 : Int32).toInt = 1 := by decide +kernel
  refine ⟨?_, ?_, ?_, ?_, ?_⟩ <;> first | assumption | omega | (subst_vars; omega) | trivial
-- post2 @163
theorem v_jumps_48 (σ : RS) (k0 : Int32) (x1 : Int32) (hpre_0 : 1 ≤ (σ.1 55).toInt) (hpre_1 : (σ.1 55).toInt ≤ 60) (hpre_2 : (σ.1 56).toInt = 0) (hpre_3 : k0.toInt = 14 ∨ k0.toInt = 32 ∨ k0.toInt = 33 ∨ k0.toInt = 35 ∨ k0.toInt = 36 ∨ k0.toInt = 37) (ex1 : x1 = (σ.1 55) - (1 : Int32)) (tx1 : x1.toInt = (σ.1 55).toInt - 1) (c2 : ¬ k0.toInt = 36) (c7 : ¬ k0.toInt = 14) (c8 : ¬ k0.toInt = 37) (c9 : ¬ k0.toInt = 32) (c30 : ¬ k0.toInt = 33) (c51 : ¬ k0.toInt = 35) (c52 : ¬ k0.toInt = 37) : ∀ v9 : QV, QAT (qH (σ.2.1 36) (σ.2.1 37) (σ.2.1 38) (σ.2.1 39) (σ.2.1 40) (σ.2.1 41) (σ.2.1 42) (σ.2.1 43) (σ.2.1 44) (σ.2.1 45) (σ.2.1 46) (σ.2.1 48)) (σ.1 47).toInt ((σ.2.1 51), (σ.2.2.1 52), (σ.2.2.1 53), (σ.2.2.2)) (((σ.1 55).toInt - 1).toNat) v9 → (σ.1 56).toInt = 0 → (k0.toInt = 14 → (¬ (0 : Int32).toInt = 0 → v9.1 = 0) ∧ ((0 : Int32).toInt = 0 → ¬ v9.1 = 0)) ∧ (k0.toInt = 37 → ((0 : Int32).toInt = 0 → qEmpty v9 = true) ∧ (¬ (0 : Int32).toInt = 0 → qEmpty v9 = false)) ∧ ((k0.toInt = 32 ∨ k0.toInt = 33 ∨ k0.toInt = 35) → (v9.1 = 1 → (σ.1 56).toInt = 0 ∧ ((0 : Int32).toInt = 0 → ¬ v9.2.1 = if k0.toInt = 33 then 1 else 0) ∧ (¬ (0 : Int32).toInt = 0 → v9.2.1 = if k0.toInt = 33 then 1 else 0)) ∧ (¬ v9.1 = 1 → (σ.1 56).toInt = 1)) ∧ ((k0.toInt = 14 ∨ k0.toInt = 36 ∨ k0.toInt = 37) → (σ.1 56).toInt = 0) := by
  have q0 : (0 : Int32).toInt = 0 := by decide +kernel
  have q1 : (1 : Int32).toInt = 1 := by decide +kernel
  intro v9 h9 h0
  have zx1 : x1.toNatClampNeg = ((σ.1 55).toInt - 1).toNat := by rw [clampN x1, tx1]
  try simp only [zx1] at *
  have kd := h9.kd
  have kk := h9.ok.kd
  dsimp only at kd
  have nb : v9.1 = 1 → ((σ.2.2.1 52) ((σ.1 55).toInt - 1).toNat).toInt = v9.2.1 := fun e => (h9.2.2.2.2 (by omega) (by omega)).1
  refine ⟨fun hs => ⟨fun h => by omega, fun h => by omega⟩, fun hs => ⟨fun h => ?_, fun h => ?_⟩, fun hs => ⟨fun h => ⟨by omega, by omega, by omega⟩, fun h => by omega⟩, fun hs => by omega⟩
  · first | exact em.2 (by omega) | (exfalso; omega)
  · first | exact em.1 (by omega) | (exfalso; omega)
-- dead@145 @148
theorem v_jumps_49 (k0 : Int32) (hpre_3 : k0.toInt = 14 ∨ k0.toInt = 32 ∨ k0.toInt = 33 ∨ k0.toInt = 35 ∨ k0.toInt = 36 ∨ k0.toInt = 37) (c2 : ¬ k0.toInt = 36) (c7 : ¬ k0.toInt = 14) (c8 : ¬ k0.toInt = 37) (c9 : ¬ k0.toInt = 32) (c30 : ¬ k0.toInt = 33) (c51 : ¬ k0.toInt = 35) (c52 : k0.toInt = 37) : False := by
  first | assumption | omega | (subst_vars; omega) | trivial
-- in@93 @93
theorem v_jumps_50 (σ : RS) (x1 : Int32) (x53 : Int32) (hpre_0 : 1 ≤ (σ.1 55).toInt) (hpre_1 : (σ.1 55).toInt ≤ 60) (ex1 : x1 = (σ.1 55) - (1 : Int32)) (tx1 : x1.toInt = (σ.1 55).toInt - 1) (ex53 : x53 = (σ.2.1 51) x1.toNatClampNeg) (tx53 : x53.toInt = ((σ.2.1 51) ((σ.1 55).toInt - 1).toNat).toInt) (c54 : ¬ x53.toInt = 1) : vp_in x1 980 := by
  have q1 : (1 : Int32).toInt = 1 := by decide +kernel
  exact vp_in_iff.mpr ⟨by omega, by omega⟩
-- nw@135 @135
theorem v_jumps_51 (σ : RS) (x1 : Int32) (x53 : Int32) (x55 : Int64) (x57 : Int32) (x60 : Int32) (hpre_0 : 1 ≤ (σ.1 55).toInt) (hpre_1 : (σ.1 55).toInt ≤ 60) (ex1 : x1 = (σ.1 55) - (1 : Int32)) (tx1 : x1.toInt = (σ.1 55).toInt - 1) (ex53 : x53 = (σ.2.1 51) x1.toNatClampNeg) (tx53 : x53.toInt = ((σ.2.1 51) ((σ.1 55).toInt - 1).toNat).toInt) (c54 : ¬ x53.toInt = 1) (ex55 : x55 = (σ.2.2.1 52) x1.toNatClampNeg) (tx55 : x55.toInt = ((σ.2.2.1 52) ((σ.1 55).toInt - 1).toNat).toInt) (tx57 : (x57.toInt = 0 ↔ x55.toInt = 0) ∧ (x57.toInt < 0 ↔ x55.toInt < 0)) (c58 : ¬ x57.toInt = 0) (ex60 : x60 = (σ.1 55) - (1 : Int32)) : x60.toInt = (σ.1 55).toInt - 1 := by
  have q1 : (1 : Int32).toInt = 1 := by decide +kernel
  have w1 : (1 : Int32).toInt = 1 := by decide +kernel
  rw [ex60, z_sub (by omega) (by omega)]; first | done | omega
-- post @163
theorem v_jumps_52 (σ : RS) (k0 : Int32) (x1 : Int32) (x53 : Int32) (x55 : Int64) (x57 : Int32) (x60 : Int32) (hpre_0 : 1 ≤ (σ.1 55).toInt) (hpre_1 : (σ.1 55).toInt ≤ 60) (hpre_3 : k0.toInt = 14 ∨ k0.toInt = 32 ∨ k0.toInt = 33 ∨ k0.toInt = 35 ∨ k0.toInt = 36 ∨ k0.toInt = 37) (ex1 : x1 = (σ.1 55) - (1 : Int32)) (tx1 : x1.toInt = (σ.1 55).toInt - 1) (c2 : ¬ k0.toInt = 36) (c7 : ¬ k0.toInt = 14) (c8 : ¬ k0.toInt = 37) (c9 : ¬ k0.toInt = 32) (c30 : ¬ k0.toInt = 33) (c51 : k0.toInt = 35) (ex53 : x53 = (σ.2.1 51) x1.toNatClampNeg) (tx53 : x53.toInt = ((σ.2.1 51) ((σ.1 55).toInt - 1).toNat).toInt) (c54 : ¬ x53.toInt = 1) (ex55 : x55 = (σ.2.2.1 52) x1.toNatClampNeg) (tx55 : x55.toInt = ((σ.2.2.1 52) ((σ.1 55).toInt - 1).toNat).toInt) (c56 : ¬ k0.toInt = 33) (tx57 : (x57.toInt = 0 ↔ x55.toInt = 0) ∧ (x57.toInt < 0 ↔ x55.toInt < 0)) (c58 : ¬ x57.toInt = 0) (ex60 : x60 = (σ.1 55) - (1 : Int32)) (tx60 : x60.toInt = (σ.1 55).toInt - 1) : 0 ≤ (1 : Int32).toInt ∧ (1 : Int32).toInt ≤ 11 ∧ (k0.toInt = 36 → ¬ (0 : Int32).toInt = 0) ∧ (¬ (0 : Int32).toInt = 0 → (k0.toInt = 35 → x60.toInt = (σ.1 55).toInt - 1) ∧ (¬ k0.toInt = 35 → x60.toInt = (σ.1 55).toInt)) ∧ ((0 : Int32).toInt = 0 → (k0.toInt = 14 → x60.toInt = (σ.1 55).toInt) ∧ (¬ k0.toInt = 14 → x60.toInt = (σ.1 55).toInt - 1)) := by
  have q0 : (0 : Int32).toInt = 0 := by decide +kernel
  have q1 : (1 : Int32).toInt = 1 := by decide +kernel
  refine ⟨?_, ?_, ?_, ?_, ?_⟩ <;> first | assumption | omega | (subst_vars; omega) | trivial
-- post2 @163
theorem v_jumps_53 (σ : RS) (k0 : Int32) (x1 : Int32) (x53 : Int32) (x55 : Int64) (x57 : Int32) (x60 : Int32) (hpre_0 : 1 ≤ (σ.1 55).toInt) (hpre_1 : (σ.1 55).toInt ≤ 60) (hpre_2 : (σ.1 56).toInt = 0) (hpre_3 : k0.toInt = 14 ∨ k0.toInt = 32 ∨ k0.toInt = 33 ∨ k0.toInt = 35 ∨ k0.toInt = 36 ∨ k0.toInt = 37) (ex1 : x1 = (σ.1 55) - (1 : Int32)) (tx1 : x1.toInt = (σ.1 55).toInt - 1) (c2 : ¬ k0.toInt = 36) (c7 : ¬ k0.toInt = 14) (c8 : ¬ k0.toInt = 37) (c9 : ¬ k0.toInt = 32) (c30 : ¬ k0.toInt = 33) (c51 : k0.toInt = 35) (ex53 : x53 = (σ.2.1 51) x1.toNatClampNeg) (tx53 : x53.toInt = ((σ.2.1 51) ((σ.1 55).toInt - 1).toNat).toInt) (c54 : ¬ x53.toInt = 1) (ex55 : x55 = (σ.2.2.1 52) x1.toNatClampNeg) (tx55 : x55.toInt = ((σ.2.2.1 52) ((σ.1 55).toInt - 1).toNat).toInt) (c56 : ¬ k0.toInt = 33) (tx57 : (x57.toInt = 0 ↔ x55.toInt = 0) ∧ (x57.toInt < 0 ↔ x55.toInt < 0)) (c58 : ¬ x57.toInt = 0) (ex60 : x60 = (σ.1 55) - (1 : Int32)) (tx60 : x60.toInt = (σ.1 55).toInt - 1) : ∀ v9 : QV, QAT (qH (σ.2.1 36) (σ.2.1 37) (σ.2.1 38) (σ.2.1 39) (σ.2.1 40) (σ.2.1 41) (σ.2.1 42) (σ.2.1 43) (σ.2.1 44) (σ.2.1 45) (σ.2.1 46) (σ.2.1 48)) (σ.1 47).toInt ((σ.2.1 51), (σ.2.2.1 52), (σ.2.2.1 53), (σ.2.2.2)) (((σ.1 55).toInt - 1).toNat) v9 → (σ.1 56).toInt = 0 → (k0.toInt = 14 → (¬ (0 : Int32).toInt = 0 → v9.1 = 0) ∧ ((0 : Int32).toInt = 0 → ¬ v9.1 = 0)) ∧ (k0.toInt = 37 → ((0 : Int32).toInt = 0 → qEmpty v9 = true) ∧ (¬ (0 : Int32).toInt = 0 → qEmpty v9 = false)) ∧ ((k0.toInt = 32 ∨ k0.toInt = 33 ∨ k0.toInt = 35) → (v9.1 = 1 → (1 : Int32).toInt = 0 ∧ ((0 : Int32).toInt = 0 → ¬ v9.2.1 = if k0.toInt = 33 then 1 else 0) ∧ (¬ (0 : Int32).toInt = 0 → v9.2.1 = if k0.toInt = 33 then 1 else 0)) ∧ (¬ v9.1 = 1 → (1 : Int32).toInt = 1)) ∧ ((k0.toInt = 14 ∨ k0.toInt = 36 ∨ k0.toInt = 37) → (1 : Int32).toInt = 0) := by
  have q0 : (0 : Int32).toInt = 0 := by decide +kernel
  have q1 : (1 : Int32).toInt = 1 := by decide +kernel
  intro v9 h9 h0
  have zx1 : x1.toNatClampNeg = ((σ.1 55).toInt - 1).toNat := by rw [clampN x1, tx1]
  try simp only [zx1] at *
  have zx60 : x60.toNatClampNeg = ((σ.1 55).toInt - 1).toNat := by rw [clampN x60, tx60]
  try simp only [zx60] at *
  have kd := h9.kd
  have kk := h9.ok.kd
  dsimp only at kd
  have nb : v9.1 = 1 → ((σ.2.2.1 52) ((σ.1 55).toInt - 1).toNat).toInt = v9.2.1 := fun e => (h9.2.2.2.2 (by omega) (by omega)).1
  refine ⟨fun hs => ⟨fun h => by omega, fun h => by omega⟩, fun hs => ⟨fun h => ?_, fun h => ?_⟩, fun hs => ⟨fun h => ⟨by omega, by omega, by omega⟩, fun h => by omega⟩, fun hs => by omega⟩
  · first | exact em.2 (by omega) | (exfalso; omega)
  · first | exact em.1 (by omega) | (exfalso; omega)
-- nw@135 @135
theorem v_jumps_54 (σ : RS) (x1 : Int32) (x53 : Int32) (x55 : Int64) (x57 : Int32) (x63 : Int32) (hpre_0 : 1 ≤ (σ.1 55).toInt) (hpre_1 : (σ.1 55).toInt ≤ 60) (ex1 : x1 = (σ.1 55) - (1 : Int32)) (tx1 : x1.toInt = (σ.1 55).toInt - 1) (ex53 : x53 = (σ.2.1 51) x1.toNatClampNeg) (tx53 : x53.toInt = ((σ.2.1 51) ((σ.1 55).toInt - 1).toNat).toInt) (c54 : ¬ x53.toInt = 1) (ex55 : x55 = (σ.2.2.1 52) x1.toNatClampNeg) (tx55 : x55.toInt = ((σ.2.2.1 52) ((σ.1 55).toInt - 1).toNat).toInt) (tx57 : (x57.toInt = 0 ↔ x55.toInt = 0) ∧ (x57.toInt < 0 ↔ x55.toInt < 0)) (c58 : x57.toInt = 0) (ex63 : x63 = (σ.1 55) - (1 : Int32)) : x63.toInt = (σ.1 55).toInt - 1 := by
  have q1 : (1 : Int32).toInt = 1 := by decide +kernel
  have w1 : (1 : Int32).toInt = 1 := by decide +kernel
  rw [ex63, z_sub (by omega) (by omega)]; first | done | omega
-- post @163
theorem v_jumps_55 (σ : RS) (k0 : Int32) (x1 : Int32) (x53 : Int32) (x55 : Int64) (x57 : Int32) (x63 : Int32) (hpre_0 : 1 ≤ (σ.1 55).toInt) (hpre_1 : (σ.1 55).toInt ≤ 60) (hpre_3 : k0.toInt = 14 ∨ k0.toInt = 32 ∨ k0.toInt = 33 ∨ k0.toInt = 35 ∨ k0.toInt = 36 ∨ k0.toInt = 37) (ex1 : x1 = (σ.1 55) - (1 : Int32)) (tx1 : x1.toInt = (σ.1 55).toInt - 1) (c2 : ¬ k0.toInt = 36) (c7 : ¬ k0.toInt = 14) (c8 : ¬ k0.toInt = 37) (c9 : ¬ k0.toInt = 32) (c30 : ¬ k0.toInt = 33) (c51 : k0.toInt = 35) (ex53 : x53 = (σ.2.1 51) x1.toNatClampNeg) (tx53 : x53.toInt = ((σ.2.1 51) ((σ.1 55).toInt - 1).toNat).toInt) (c54 : ¬ x53.toInt = 1) (ex55 : x55 = (σ.2.2.1 52) x1.toNatClampNeg) (tx55 : x55.toInt = ((σ.2.2.1 52) ((σ.1 55).toInt - 1).toNat).toInt) (c56 : ¬ k0.toInt = 33) (tx57 : (x57.toInt = 0 ↔ x55.toInt = 0) ∧ (x57.toInt < 0 ↔ x55.toInt < 0)) (c58 : x57.toInt = 0) (c62 : k0.toInt = 35) (ex63 : x63 = (σ.1 55) - (1 : Int32)) (tx63 : x63.toInt = (σ.1 55).toInt - 1) : 0 ≤ (1 : Int32).toInt ∧ (1 : Int32).toInt ≤ 11 ∧ (k0.toInt = 36 → ¬ (1 : Int32).toInt = 0) ∧ (¬ (1 : Int32).toInt = 0 → (k0.toInt = 35 → x63.toInt = (σ.1 55).toInt - 1) ∧ (¬ k0.toInt = 35 → x63.toInt = (σ.1 55).toInt)) ∧ ((1 : Int32).toInt = 0 → (k0.toInt = 14 → x63.toInt = (σ.1 55).toInt) ∧ (¬ k0.toInt = 14 → x63.toInt = (σ.1 55).toInt - 1)) := by
  have q1 : (1 : Int32).toInt = 1 := by decide +kernel
  refine ⟨?_, ?_, ?_, ?_, ?_⟩ <;> first | assumption | omega | (subst_vars; omega) | trivial
-- post2 @163
theorem v_jumps_56 (σ : RS) (k0 : Int32) (x1 : Int32) (x53 : Int32) (x55 : Int64) (x57 : Int32) (x63 : Int32) (hpre_0 : 1 ≤ (σ.1 55).toInt) (hpre_1 : (σ.1 55).toInt ≤ 60) (hpre_2 : (σ.1 56).toInt = 0) (hpre_3 : k0.toInt = 14 ∨ k0.toInt = 32 ∨ k0.toInt = 33 ∨ k0.toInt = 35 ∨ k0.toInt = 36 ∨ k0.toInt = 37) (ex1 : x1 = (σ.1 55) - (1 : Int32)) (tx1 : x1.toInt = (σ.1 55).toInt - 1) (c2 : ¬ k0.toInt = 36) (c7 : ¬ k0.toInt = 14) (c8 : ¬ k0.toInt = 37) (c9 : ¬ k0.toInt = 32) (c30 : ¬ k0.toInt = 33) (c51 : k0.toInt = 35) (ex53 : x53 = (σ.2.1 51) x1.toNatClampNeg) (tx53 : x53.toInt = ((σ.2.1 51) ((σ.1 55).toInt - 1).toNat).toInt) (c54 : ¬ x53.toInt = 1) (ex55 : x55 = (σ.2.2.1 52) x1.toNatClampNeg) (tx55 : x55.toInt = ((σ.2.2.1 52) ((σ.1 55).toInt - 1).toNat).toInt) (c56 : ¬ k0.toInt = 33) (tx57 : (x57.toInt = 0 ↔ x55.toInt = 0) ∧ (x57.toInt < 0 ↔ x55.toInt < 0)) (c58 : x57.toInt = 0) (c62 : k0.toInt = 35) (ex63 : x63 = (σ.1 55) - (1 : Int32)) (tx63 : x63.toInt = (σ.1 55).toInt - 1) : ∀ v9 : QV, QAT (qH (σ.2.1 36) (σ.2.1 37) (σ.2.1 38) (σ.2.1 39) (σ.2.1 40) (σ.2.1 41) (σ.2.1 42) (σ.2.1 43) (σ.2.1 44) (σ.2.1 45) (σ.2.1 46) (σ.2.1 48)) (σ.1 47).toInt ((σ.2.1 51), (σ.2.2.1 52), (σ.2.2.1 53), (σ.2.2.2)) (((σ.1 55).toInt - 1).toNat) v9 → (σ.1 56).toInt = 0 → (k0.toInt = 14 → (¬ (1 : Int32).toInt = 0 → v9.1 = 0) ∧ ((1 : Int32).toInt = 0 → ¬ v9.1 = 0)) ∧ (k0.toInt = 37 → ((1 : Int32).toInt = 0 → qEmpty v9 = true) ∧ (¬ (1 : Int32).toInt = 0 → qEmpty v9 = false)) ∧ ((k0.toInt = 32 ∨ k0.toInt = 33 ∨ k0.toInt = 35) → (v9.1 = 1 → (1 : Int32).toInt = 0 ∧ ((1 : Int32).toInt = 0 → ¬ v9.2.1 = if k0.toInt = 33 then 1 else 0) ∧ (¬ (1 : Int32).toInt = 0 → v9.2.1 = if k0.toInt = 33 then 1 else 0)) ∧ (¬ v9.1 = 1 → (1 : Int32).toInt = 1)) ∧ ((k0.toInt = 14 ∨ k0.toInt = 36 ∨ k0.toInt = 37) → (1 : Int32).toInt = 0) := by
  have q1 : (1 : Int32).toInt = 1 := by decide +kernel
  intro v9 h9 h0
  have zx1 : x1.toNatClampNeg = ((σ.1 55).toInt - 1).toNat := by rw [clampN x1, tx1]
  try simp only [zx1] at *
  have zx63 : x63.toNatClampNeg = ((σ.1 55).toInt - 1).toNat := by rw [clampN x63, tx63]
  try simp only [zx63] at *
  have kd := h9.kd
  have kk := h9.ok.kd
  dsimp only at kd
  have nb : v9.1 = 1 → ((σ.2.2.1 52) ((σ.1 55).toInt - 1).toNat).toInt = v9.2.1 := fun e => (h9.2.2.2.2 (by omega) (by omega)).1
  refine ⟨fun hs => ⟨fun h => by omega, fun h => by omega⟩, fun hs => ⟨fun h => ?_, fun h => ?_⟩, fun hs => ⟨fun h => ⟨by omega, by omega, by omega⟩, fun h => by omega⟩, fun hs => by omega⟩
  · first | exact em.2 (by omega) | (exfalso; omega)
  · first | exact em.1 (by omega) | (exfalso; omega)
-- dead@127 @130
theorem v_jumps_57 (k0 : Int32) (hpre_3 : k0.toInt = 14 ∨ k0.toInt = 32 ∨ k0.toInt = 33 ∨ k0.toInt = 35 ∨ k0.toInt = 36 ∨ k0.toInt = 37) (c2 : ¬ k0.toInt = 36) (c7 : ¬ k0.toInt = 14) (c8 : ¬ k0.toInt = 37) (c9 : ¬ k0.toInt = 32) (c30 : ¬ k0.toInt = 33) (c51 : k0.toInt = 35) (c56 : ¬ k0.toInt = 33) (c62 : ¬ k0.toInt = 35) : False := by
  first | assumption | omega | (subst_vars; omega) | trivial
-- dead@97 @100
theorem v_jumps_58 (k0 : Int32) (hpre_3 : k0.toInt = 14 ∨ k0.toInt = 32 ∨ k0.toInt = 33 ∨ k0.toInt = 35 ∨ k0.toInt = 36 ∨ k0.toInt = 37) (c2 : ¬ k0.toInt = 36) (c7 : ¬ k0.toInt = 14) (c8 : ¬ k0.toInt = 37) (c9 : ¬ k0.toInt = 32) (c30 : ¬ k0.toInt = 33) (c51 : k0.toInt = 35) (c56 : k0.toInt = 33) : False := by
  first | assumption | omega | (subst_vars; omega) | trivial
-- in@93 @93
theorem v_jumps_59 (σ : RS) (x1 : Int32) (x53 : Int32) (hpre_0 : 1 ≤ (σ.1 55).toInt) (hpre_1 : (σ.1 55).toInt ≤ 60) (ex1 : x1 = (σ.1 55) - (1 : Int32)) (tx1 : x1.toInt = (σ.1 55).toInt - 1) (ex53 : x53 = (σ.2.1 51) x1.toNatClampNeg) (tx53 : x53.toInt = ((σ.2.1 51) ((σ.1 55).toInt - 1).toNat).toInt) (c54 : x53.toInt = 1) : vp_in x1 980 := by
  have q1 : (1 : Int32).toInt = 1 := by decide +kernel
  exact vp_in_iff.mpr ⟨by omega, by omega⟩
-- nw@135 @135
theorem v_jumps_60 (σ : RS) (x1 : Int32) (x53 : Int32) (x64 : Int64) (x66 : Int32) (x69 : Int32) (hpre_0 : 1 ≤ (σ.1 55).toInt) (hpre_1 : (σ.1 55).toInt ≤ 60) (ex1 : x1 = (σ.1 55) - (1 : Int32)) (tx1 : x1.toInt = (σ.1 55).toInt - 1) (ex53 : x53 = (σ.2.1 51) x1.toNatClampNeg) (tx53 : x53.toInt = ((σ.2.1 51) ((σ.1 55).toInt - 1).toNat).toInt) (c54 : x53.toInt = 1) (ex64 : x64 = (σ.2.2.1 52) x1.toNatClampNeg) (tx64 : x64.toInt = ((σ.2.2.1 52) ((σ.1 55).toInt - 1).toNat).toInt) (tx66 : (x66.toInt = 0 ↔ x64.toInt = 0) ∧ (x66.toInt < 0 ↔ x64.toInt < 0)) (c67 : ¬ x66.toInt = 0) (ex69 : x69 = (σ.1 55) - (1 : Int32)) : x69.toInt = (σ.1 55).toInt - 1 := by
  have q1 : (1 : Int32).toInt = 1 := by decide +kernel
  have w1 : (1 : Int32).toInt = 1 := by decide +kernel
  rw [ex69, z_sub (by omega) (by omega)]; first | done | omega
-- post @163
theorem v_jumps_61 (σ : RS) (k0 : Int32) (x1 : Int32) (x53 : Int32) (x64 : Int64) (x66 : Int32) (x69 : Int32) (hpre_0 : 1 ≤ (σ.1 55).toInt) (hpre_1 : (σ.1 55).toInt ≤ 60) (hpre_2 : (σ.1 56).toInt = 0) (hpre_3 : k0.toInt = 14 ∨ k0.toInt = 32 ∨ k0.toInt = 33 ∨ k0.toInt = 35 ∨ k0.toInt = 36 ∨ k0.toInt = 37) (ex1 : x1 = (σ.1 55) - (1 : Int32)) (tx1 : x1.toInt = (σ.1 55).toInt - 1) (c2 : ¬ k0.toInt = 36) (c7 : ¬ k0.toInt = 14) (c8 : ¬ k0.toInt = 37) (c9 : ¬ k0.toInt = 32) (c30 : ¬ k0.toInt = 33) (c51 : k0.toInt = 35) (ex53 : x53 = (σ.2.1 51) x1.toNatClampNeg) (tx53 : x53.toInt = ((σ.2.1 51) ((σ.1 55).toInt - 1).toNat).toInt) (c54 : x53.toInt = 1) (ex64 : x64 = (σ.2.2.1 52) x1.toNatClampNeg) (tx64 : x64.toInt = ((σ.2.2.1 52) ((σ.1 55).toInt - 1).toNat).toInt) (c65 : ¬ k0.toInt = 33) (tx66 : (x66.toInt = 0 ↔ x64.toInt = 0) ∧ (x66.toInt < 0 ↔ x64.toInt < 0)) (c67 : ¬ x66.toInt = 0) (ex69 : x69 = (σ.1 55) - (1 : Int32)) (tx69 : x69.toInt = (σ.1 55).toInt - 1) : 0 ≤ (σ.1 56).toInt ∧ (σ.1 56).toInt ≤ 11 ∧ (k0.toInt = 36 → ¬ (0 : Int32).toInt = 0) ∧ (¬ (0 : Int32).toInt = 0 → (k0.toInt = 35 → x69.toInt = (σ.1 55).toInt - 1) ∧ (¬ k0.toInt = 35 → x69.toInt = (σ.1 55).toInt)) ∧ ((0 : Int32).toInt = 0 → (k0.toInt = 14 → x69.toInt = (σ.1 55).toInt) ∧ (¬ k0.toInt = 14 → x69.toInt = (σ.1 55).toInt - 1)) := by
  have q0 : (0 : Int32).toInt = 0 := by decide +kernel
  have q1 : (1 : Int32).toInt = 1 := by decide +kernel
  refine ⟨?_, ?_, ?_, ?_, ?_⟩ <;> first | assumption | omega | (subst_vars; omega) | trivial
-- post2 @163
theorem v_jumps_62 (σ : RS) (k0 : Int32) (x1 : Int32) (x53 : Int32) (x64 : Int64) (x66 : Int32) (x69 : Int32) (hpre_0 : 1 ≤ (σ.1 55).toInt) (hpre_1 : (σ.1 55).toInt ≤ 60) (hpre_2 : (σ.1 56).toInt = 0) (hpre_3 : k0.toInt = 14 ∨ k0.toInt = 32 ∨ k0.toInt = 33 ∨ k0.toInt = 35 ∨ k0.toInt = 36 ∨ k0.toInt = 37) (ex1 : x1 = (σ.1 55) - (1 : Int32)) (tx1 : x1.toInt = (σ.1 55).toInt - 1) (c2 : ¬ k0.toInt = 36) (c7 : ¬ k0.toInt = 14) (c8 : ¬ k0.toInt = 37) (c9 : ¬ k0.toInt = 32) (c30 : ¬ k0.toInt = 33) (c51 : k0.toInt = 35) (ex53 : x53 = (σ.2.1 51) x1.toNatClampNeg) (tx53 : x53.toInt = ((σ.2.1 51) ((σ.1 55).toInt - 1).toNat).toInt) (c54 : x53.toInt = 1) (ex64 : x64 = (σ.2.2.1 52) x1.toNatClampNeg) (tx64 : x64.toInt = ((σ.2.2.1 52) ((σ.1 55).toInt - 1).toNat).toInt) (c65 : ¬ k0.toInt = 33) (tx66 : (x66.toInt = 0 ↔ x64.toInt = 0) ∧ (x66.toInt < 0 ↔ x64.toInt < 0)) (c67 : ¬ x66.toInt = 0) (ex69 : x69 = (σ.1 55) - (1 : Int32)) (tx69 : x69.toInt = (σ.1 55).toInt - 1) : ∀ v9 : QV, QAT (qH (σ.2.1 36) (σ.2.1 37) (σ.2.1 38) (σ.2.1 39) (σ.2.1 40) (σ.2.1 41) (σ.2.1 42) (σ.2.1 43) (σ.2.1 44) (σ.2.1 45) (σ.2.1 46) (σ.2.1 48)) (σ.1 47).toInt ((σ.2.1 51), (σ.2.2.1 52), (σ.2.2.1 53), (σ.2.2.2)) (((σ.1 55).toInt - 1).toNat) v9 → (σ.1 56).toInt = 0 → (k0.toInt = 14 → (¬ (0 : Int32).toInt = 0 → v9.1 = 0) ∧ ((0 : Int32).toInt = 0 → ¬ v9.1 = 0)) ∧ (k0.toInt = 37 → ((0 : Int32).toInt = 0 → qEmpty v9 = true) ∧ (¬ (0 : Int32).toInt = 0 → qEmpty v9 = false)) ∧ ((k0.toInt = 32 ∨ k0.toInt = 33 ∨ k0.toInt = 35) → (v9.1 = 1 → (σ.1 56).toInt = 0 ∧ ((0 : Int32).toInt = 0 → ¬ v9.2.1 = if k0.toInt = 33 then 1 else 0) ∧ (¬ (0 : Int32).toInt = 0 → v9.2.1 = if k0.toInt = 33 then 1 else 0)) ∧ (¬ v9.1 = 1 → (σ.1 56).toInt = 1)) ∧ ((k0.toInt = 14 ∨ k0.toInt = 36 ∨ k0.toInt = 37) → (σ.1 56).toInt = 0) := by
  have q0 : (0 : Int32).toInt = 0 := by decide +kernel
  have q1 : (1 : Int32).toInt = 1 := by decide +kernel
  intro v9 h9 h0
  have zx1 : x1.toNatClampNeg = ((σ.1 55).toInt - 1).toNat := by rw [clampN x1, tx1]
  try simp only [zx1] at *
  have zx69 : x69.toNatClampNeg = ((σ.1 55).toInt - 1).toNat := by rw [clampN x69, tx69]
  try simp only [zx69] at *
  have kd := h9.kd
  have kk := h9.ok.kd
  dsimp only at kd
  have nb : v9.1 = 1 → ((σ.2.2.1 52) ((σ.1 55).toInt - 1).toNat).toInt = v9.2.1 := fun e => (h9.2.2.2.2 (by omega) (by omega)).1
  refine ⟨fun hs => ⟨fun h => by omega, fun h => by omega⟩, fun hs => ⟨fun h => ?_, fun h => ?_⟩, fun hs => ⟨fun h => ⟨by omega, by omega, by omega⟩, fun h => by omega⟩, fun hs => by omega⟩
  · first | exact em.2 (by omega) | (exfalso; omega)
  · first | exact em.1 (by omega) | (exfalso; omega)
-- nw@135 @135
theorem v_jumps_63 (σ : RS) (x1 : Int32) (x53 : Int32) (x64 : Int64) (x66 : Int32) (x72 : Int32) (hpre_0 : 1 ≤ (σ.1 55).toInt) (hpre_1 : (σ.1 55).toInt ≤ 60) (ex1 : x1 = (σ.1 55) - (1 : Int32)) (tx1 : x1.toInt = (σ.1 55).toInt - 1) (ex53 : x53 = (σ.2.1 51) x1.toNatClampNeg) (tx53 : x53.toInt = ((σ.2.1 51) ((σ.1 55).toInt - 1).toNat).toInt) (c54 : x53.toInt = 1) (ex64 : x64 = (σ.2.2.1 52) x1.toNatClampNeg) (tx64 : x64.toInt = ((σ.2.2.1 52) ((σ.1 55).toInt - 1).toNat).toInt) (tx66 : (x66.toInt = 0 ↔ x64.toInt = 0) ∧ (x66.toInt < 0 ↔ x64.toInt < 0)) (c67 : x66.toInt = 0) (ex72 : x72 = (σ.1 55) - (1 : Int32)) : x72.toInt = (σ.1 55).toInt - 1 := by
  have q1 : (1 : Int32).toInt = 1 := by decide +kernel
  have w1 : (1 : Int32).toInt = 1 := by decide +kernel
  rw [ex72, z_sub (by omega) (by omega)]; first | done | omega
-- post @163
theorem v_jumps_64 (σ : RS) (k0 : Int32) (x1 : Int32) (x53 : Int32) (x64 : Int64) (x66 : Int32) (x72 : Int32) (hpre_0 : 1 ≤ (σ.1 55).toInt) (hpre_1 : (σ.1 55).toInt ≤ 60) (hpre_2 : (σ.1 56).toInt = 0) (hpre_3 : k0.toInt = 14 ∨ k0.toInt = 32 ∨ k0.toInt = 33 ∨ k0.toInt = 35 ∨ k0.toInt = 36 ∨ k0.toInt = 37) (ex1 : x1 = (σ.1 55) - (1 : Int32)) (tx1 : x1.toInt = (σ.1 55).toInt - 1) (c2 : ¬ k0.toInt = 36) (c7 : ¬ k0.toInt = 14) (c8 : ¬ k0.toInt = 37) (c9 : ¬ k0.toInt = 32) (c30 : ¬ k0.toInt = 33) (c51 : k0.toInt = 35) (ex53 : x53 = (σ.2.1 51) x1.toNatClampNeg) (tx53 : x53.toInt = ((σ.2.1 51) ((σ.1 55).toInt - 1).toNat).toInt) (c54 : x53.toInt = 1) (ex64 : x64 = (σ.2.2.1 52) x1.toNatClampNeg) (tx64 : x64.toInt = ((σ.2.2.1 52) ((σ.1 55).toInt - 1).toNat).toInt) (c65 : ¬ k0.toInt = 33) (tx66 : (x66.toInt = 0 ↔ x64.toInt = 0) ∧ (x66.toInt < 0 ↔ x64.toInt < 0)) (c67 : x66.toInt = 0) (c71 : k0.toInt = 35) (ex72 : x72 = (σ.1 55) - (1 : Int32)) (tx72 : x72.toInt = (σ.1 55).toInt - 1) : 0 ≤ (σ.1 56).toInt ∧ (σ.1 56).toInt ≤ 11 ∧ (k0.toInt = 36 → ¬ (1 : Int32).toInt = 0) ∧ (¬ (1 : Int32).toInt = 0 → (k0.toInt = 35 → x72.toInt = (σ.1 55).toInt - 1) ∧ (¬ k0.toInt = 35 → x72.toInt = (σ.1 55).toInt)) ∧ ((1 : Int32).toInt = 0 → (k0.toInt = 14 → x72.toInt = (σ.1 55).toInt) ∧ (¬ k0.toInt = 14 → x72.toInt = (σ.1 55).toInt - 1)) := by
  have q1 : (1 : Int32).toInt = 1 := by decide +kernel
  refine ⟨?_, ?_, ?_, ?_, ?_⟩ <;> first | assumption | omega | (subst_vars; omega) | trivial
-- post2 @163
theorem v_jumps_65 (σ : RS) (k0 : Int32) (x1 : Int32) (x53 : Int32) (x64 : Int64) (x66 : Int32) (x72 : Int32) (hpre_0 : 1 ≤ (σ.1 55).toInt) (hpre_1 : (σ.1 55).toInt ≤ 60) (hpre_2 : (σ.1 56).toInt = 0) (hpre_3 : k0.toInt = 14 ∨ k0.toInt = 32 ∨ k0.toInt = 33 ∨ k0.toInt = 35 ∨ k0.toInt = 36 ∨ k0.toInt = 37) (ex1 : x1 = (σ.1 55) - (1 : Int32)) (tx1 : x1.toInt = (σ.1 55).toInt - 1) (c2 : ¬ k0.toInt = 36) (c7 : ¬ k0.toInt = 14) (c8 : ¬ k0.toInt = 37) (c9 : ¬ k0.toInt = 32) (c30 : ¬ k0.toInt = 33) (c51 : k0.toInt = 35) (ex53 : x53 = (σ.2.1 51) x1.toNatClampNeg) (tx53 : x53.toInt = ((σ.2.1 51) ((σ.1 55).toInt - 1).toNat).toInt) (c54 : x53.toInt = 1) (ex64 : x64 = (σ.2.2.1 52) x1.toNatClampNeg) (tx64 : x64.toInt = ((σ.2.2.1 52) ((σ.1 55).toInt - 1).toNat).toInt) (c65 : ¬ k0.toInt = 33) (tx66 : (x66.toInt = 0 ↔ x64.toInt = 0) ∧ (x66.toInt < 0 ↔ x64.toInt < 0)) (c67 : x66.toInt = 0) (c71 : k0.toInt = 35) (ex72 : x72 = (σ.1 55) - (1 : Int32)) (tx72 : x72.toInt = (σ.1 55).toInt - 1) : ∀ v9 : QV, QAT (qH (σ.2.1 36) (σ.2.1 37) (σ.2.1 38) (σ.2.1 39) (σ.2.1 40) (σ.2.1 41) (σ.2.1 42) (σ.2.1 43) (σ.2.1 44) (σ.2.1 45) (σ.2.1 46) (σ.2.1 48)) (σ.1 47).toInt ((σ.2.1 51), (σ.2.2.1 52), (σ.2.2.1 53), (σ.2.2.2)) (((σ.1 55).toInt - 1).toNat) v9 → (σ.1 56).toInt = 0 → (k0.toInt = 14 → (¬ (1 : Int32).toInt = 0 → v9.1 = 0) ∧ ((1 : Int32).toInt = 0 → ¬ v9.1 = 0)) ∧ (k0.toInt = 37 → ((1 : Int32).toInt = 0 → qEmpty v9 = true) ∧ (¬ (1 : Int32).toInt = 0 → qEmpty v9 = false)) ∧ ((k0.toInt = 32 ∨ k0.toInt = 33 ∨ k0.toInt = 35) → (v9.1 = 1 → (σ.1 56).toInt = 0 ∧ ((1 : Int32).toInt = 0 → ¬ v9.2.1 = if k0.toInt = 33 then 1 else 0) ∧ (¬ (1 : Int32).toInt = 0 → v9.2.1 = if k0.toInt = 33 then 1 else 0)) ∧ (¬ v9.1 = 1 → (σ.1 56).toInt = 1)) ∧ ((k0.toInt = 14 ∨ k0.toInt = 36 ∨ k0.toInt = 37) → (σ.1 56).toInt = 0) := by
  have q1 : (1 : Int32).toInt = 1 := by decide +kernel
  intro v9 h9 h0
  have zx1 : x1.toNatClampNeg = ((σ.1 55).toInt - 1).toNat := by rw [clampN x1, tx1]
  try simp only [zx1] at *
  have zx72 : x72.toNatClampNeg = ((σ.1 55).toInt - 1).toNat := by rw [clampN x72, tx72]
  try simp only [zx72] at *
  have kd := h9.kd
  have kk := h9.ok.kd
  dsimp only at kd
  have nb : v9.1 = 1 → ((σ.2.2.1 52) ((σ.1 55).toInt - 1).toNat).toInt = v9.2.1 := fun e => (h9.2.2.2.2 (by omega) (by omega)).1
  refine ⟨fun hs => ⟨fun h => by omega, fun h => by omega⟩, fun hs => ⟨fun h => ?_, fun h => ?_⟩, fun hs => ⟨fun h => ⟨by omega, by omega, by omega⟩, fun h => by omega⟩, fun hs => by omega⟩
  · first | exact em.2 (by omega) | (exfalso; omega)
  · first | exact em.1 (by omega) | (exfalso; omega)
-- dead@127 @130
theorem v_jumps_66 (k0 : Int32) (hpre_3 : k0.toInt = 14 ∨ k0.toInt = 32 ∨ k0.toInt = 33 ∨ k0.toInt = 35 ∨ k0.toInt = 36 ∨ k0.toInt = 37) (c2 : ¬ k0.toInt = 36) (c7 : ¬ k0.toInt = 14) (c8 : ¬ k0.toInt = 37) (c9 : ¬ k0.toInt = 32) (c30 : ¬ k0.toInt = 33) (c51 : k0.toInt = 35) (c65 : ¬ k0.toInt = 33) (c71 : ¬ k0.toInt = 35) : False := by
  first | assumption | omega | (subst_vars; omega) | trivial
-- dead@97 @100
theorem v_jumps_67 (k0 : Int32) (hpre_3 : k0.toInt = 14 ∨ k0.toInt = 32 ∨ k0.toInt = 33 ∨ k0.toInt = 35 ∨ k0.toInt = 36 ∨ k0.toInt = 37) (c2 : ¬ k0.toInt = 36) (c7 : ¬ k0.toInt = 14) (c8 : ¬ k0.toInt = 37) (c9 : ¬ k0.toInt = 32) (c30 : ¬ k0.toInt = 33) (c51 : k0.toInt = 35) (c65 : k0.toInt = 33) : False := by
  first | assumption | omega | (subst_vars; omega) | trivial
-- pre:empty@36 @36
theorem v_jumps_68 (σ : RS) (x1 : Int32) (hpre_0 : 1 ≤ (σ.1 55).toInt) (hpre_1 : (σ.1 55).toInt ≤ 60) (ex1 : x1 = (σ.1 55) - (1 : Int32)) (tx1 : x1.toInt = (σ.1 55).toInt - 1) : 0 ≤ x1.toInt ∧ x1.toInt < 980 := by
  have q1 : (1 : Int32).toInt = 1 := by decide +kernel
  refine ⟨?_, ?_⟩ <;> first | assumption | omega | (subst_vars; omega) | trivial
-- dead@51 @66
theorem v_jumps_69 (k0 : Int32) (hpre_3 : k0.toInt = 14 ∨ k0.toInt = 32 ∨ k0.toInt = 33 ∨ k0.toInt = 35 ∨ k0.toInt = 36 ∨ k0.toInt = 37) (c2 : ¬ k0.toInt = 36) (c7 : ¬ k0.toInt = 14) (c8 : k0.toInt = 37) (c75 : k0.toInt = 32) : False := by
  first | assumption | omega | (subst_vars; omega) | trivial
-- dead@57 @66
theorem v_jumps_70 (k0 : Int32) (hpre_3 : k0.toInt = 14 ∨ k0.toInt = 32 ∨ k0.toInt = 33 ∨ k0.toInt = 35 ∨ k0.toInt = 36 ∨ k0.toInt = 37) (c2 : ¬ k0.toInt = 36) (c7 : ¬ k0.toInt = 14) (c8 : k0.toInt = 37) (c75 : ¬ k0.toInt = 32) (c76 : k0.toInt = 33) : False := by
  first | assumption | omega | (subst_vars; omega) | trivial
-- dead@145 @162
theorem v_jumps_71 (k0 : Int32) (hpre_3 : k0.toInt = 14 ∨ k0.toInt = 32 ∨ k0.toInt = 33 ∨ k0.toInt = 35 ∨ k0.toInt = 36 ∨ k0.toInt = 37) (c2 : ¬ k0.toInt = 36) (c7 : ¬ k0.toInt = 14) (c8 : k0.toInt = 37) (c75 : ¬ k0.toInt = 32) (c76 : ¬ k0.toInt = 33) (c77 : ¬ k0.toInt = 35) (c78 : ¬ k0.toInt = 37) : False := by
  first | assumption | omega | (subst_vars; omega) | trivial
-- nw@158 @158
theorem v_jumps_72 (σ : RS) (x1 : Int32) (x80 : Int32) (hpre_0 : 1 ≤ (σ.1 55).toInt) (hpre_1 : (σ.1 55).toInt ≤ 60) (ex1 : x1 = (σ.1 55) - (1 : Int32)) (tx1 : x1.toInt = (σ.1 55).toInt - 1) (ex80 : x80 = (σ.1 55) - (1 : Int32)) : x80.toInt = (σ.1 55).toInt - 1 := by
  have q1 : (1 : Int32).toInt = 1 := by decide +kernel
  have w1 : (1 : Int32).toInt = 1 := by decide +kernel
  rw [ex80, z_sub (by omega) (by omega)]; first | done | omega
-- post @163
theorem v_jumps_73 (σ : RS) (k0 : Int32) (x1 : Int32) (x80 : Int32) (hpre_0 : 1 ≤ (σ.1 55).toInt) (hpre_1 : (σ.1 55).toInt ≤ 60) (hpre_2 : (σ.1 56).toInt = 0) (hpre_3 : k0.toInt = 14 ∨ k0.toInt = 32 ∨ k0.toInt = 33 ∨ k0.toInt = 35 ∨ k0.toInt = 36 ∨ k0.toInt = 37) (ex1 : x1 = (σ.1 55) - (1 : Int32)) (tx1 : x1.toInt = (σ.1 55).toInt - 1) (c2 : ¬ k0.toInt = 36) (c7 : ¬ k0.toInt = 14) (c8 : k0.toInt = 37) (c75 : ¬ k0.toInt = 32) (c76 : ¬ k0.toInt = 33) (c77 : ¬ k0.toInt = 35) (c78 : k0.toInt = 37) (ex80 : x80 = (σ.1 55) - (1 : Int32)) (tx80 : x80.toInt = (σ.1 55).toInt - 1) : 0 ≤ (σ.1 56).toInt ∧ (σ.1 56).toInt ≤ 11 ∧ (k0.toInt = 36 → ¬ (0 : Int32).toInt = 0) ∧ (¬ (0 : Int32).toInt = 0 → (k0.toInt = 35 → x80.toInt = (σ.1 55).toInt - 1) ∧ (¬ k0.toInt = 35 → x80.toInt = (σ.1 55).toInt)) ∧ ((0 : Int32).toInt = 0 → (k0.toInt = 14 → x80.toInt = (σ.1 55).toInt) ∧ (¬ k0.toInt = 14 → x80.toInt = (σ.1 55).toInt - 1)) := by
  have q0 : (0 : Int32).toInt = 0 := by decide +kernel
  have q1 : (1 : Int32).toInt = 1 := by decide +kernel
  refine ⟨?_, ?_, ?_, ?_, ?_⟩ <;> first | assumption | omega | (subst_vars; omega) | trivial
-- post2 @163
theorem v_jumps_74 (σ : RS) (k0 : Int32) (x1 : Int32) (r73 : Int32) (x80 : Int32) (hpre_0 : 1 ≤ (σ.1 55).toInt) (hpre_1 : (σ.1 55).toInt ≤ 60) (hpre_2 : (σ.1 56).toInt = 0) (hpre_3 : k0.toInt = 14 ∨ k0.toInt = 32 ∨ k0.toInt = 33 ∨ k0.toInt = 35 ∨ k0.toInt = 36 ∨ k0.toInt = 37) (ex1 : x1 = (σ.1 55) - (1 : Int32)) (tx1 : x1.toInt = (σ.1 55).toInt - 1) (c2 : ¬ k0.toInt = 36) (c7 : ¬ k0.toInt = 14) (c8 : k0.toInt = 37) (hr73y : ∀ v9 : QV, QAT (qH (σ.2.1 36) (σ.2.1 37) (σ.2.1 38) (σ.2.1 39) (σ.2.1 40) (σ.2.1 41) (σ.2.1 42) (σ.2.1 43) (σ.2.1 44) (σ.2.1 45) (σ.2.1 46) (σ.2.1 48)) (σ.1 47).toInt ((σ.2.1 51), (σ.2.2.1 52), (σ.2.2.1 53), (σ.2.2.2)) x1.toNatClampNeg v9 → (r73.toInt = 0 → qEmpty v9 = false) ∧ (¬ r73.toInt = 0 → qEmpty v9 = true)) (hr73 : r73.toInt = 0 ∨ r73.toInt = 1) (c74 : ¬ r73.toInt = 0) (c75 : ¬ k0.toInt = 32) (c76 : ¬ k0.toInt = 33) (c77 : ¬ k0.toInt = 35) (c78 : k0.toInt = 37) (ex80 : x80 = (σ.1 55) - (1 : Int32)) (tx80 : x80.toInt = (σ.1 55).toInt - 1) : ∀ v9 : QV, QAT (qH (σ.2.1 36) (σ.2.1 37) (σ.2.1 38) (σ.2.1 39) (σ.2.1 40) (σ.2.1 41) (σ.2.1 42) (σ.2.1 43) (σ.2.1 44) (σ.2.1 45) (σ.2.1 46) (σ.2.1 48)) (σ.1 47).toInt ((σ.2.1 51), (σ.2.2.1 52), (σ.2.2.1 53), (σ.2.2.2)) (((σ.1 55).toInt - 1).toNat) v9 → (σ.1 56).toInt = 0 → (k0.toInt = 14 → (¬ (0 : Int32).toInt = 0 → v9.1 = 0) ∧ ((0 : Int32).toInt = 0 → ¬ v9.1 = 0)) ∧ (k0.toInt = 37 → ((0 : Int32).toInt = 0 → qEmpty v9 = true) ∧ (¬ (0 : Int32).toInt = 0 → qEmpty v9 = false)) ∧ ((k0.toInt = 32 ∨ k0.toInt = 33 ∨ k0.toInt = 35) → (v9.1 = 1 → (σ.1 56).toInt = 0 ∧ ((0 : Int32).toInt = 0 → ¬ v9.2.1 = if k0.toInt = 33 then 1 else 0) ∧ (¬ (0 : Int32).toInt = 0 → v9.2.1 = if k0.toInt = 33 then 1 else 0)) ∧ (¬ v9.1 = 1 → (σ.1 56).toInt = 1)) ∧ ((k0.toInt = 14 ∨ k0.toInt = 36 ∨ k0.toInt = 37) → (σ.1 56).toInt = 0) := by
  have q0 : (0 : Int32).toInt = 0 := by decide +kernel
  have q1 : (1 : Int32).toInt = 1 := by decide +kernel
  intro v9 h9 h0
  have zx1 : x1.toNatClampNeg = ((σ.1 55).toInt - 1).toNat := by rw [clampN x1, tx1]
  try simp only [zx1] at *
  have zx80 : x80.toNatClampNeg = ((σ.1 55).toInt - 1).toNat := by rw [clampN x80, tx80]
  try simp only [zx80] at *
  have kd := h9.kd
  have kk := h9.ok.kd
  dsimp only at kd
  have em := hr73y v9 h9
  have nb : v9.1 = 1 → ((σ.2.2.1 52) ((σ.1 55).toInt - 1).toNat).toInt = v9.2.1 := fun e => (h9.2.2.2.2 (by omega) (by omega)).1
  refine ⟨fun hs => ⟨fun h => by omega, fun h => by omega⟩, fun hs => ⟨fun h => ?_, fun h => ?_⟩, fun hs => ⟨fun h => ⟨by omega, by omega, by omega⟩, fun h => by omega⟩, fun hs => by omega⟩
  · first | exact em.2 (by omega) | (exfalso; omega)
  · first | exact em.1 (by omega) | (exfalso; omega)
-- dead@63 @66
theorem v_jumps_75 (k0 : Int32) (hpre_3 : k0.toInt = 14 ∨ k0.toInt = 32 ∨ k0.toInt = 33 ∨ k0.toInt = 35 ∨ k0.toInt = 36 ∨ k0.toInt = 37) (c2 : ¬ k0.toInt = 36) (c7 : ¬ k0.toInt = 14) (c8 : k0.toInt = 37) (c75 : ¬ k0.toInt = 32) (c76 : ¬ k0.toInt = 33) (c77 : k0.toInt = 35) : False := by
  first | assumption | omega | (subst_vars; omega) | trivial
-- dead@51 @66
theorem v_jumps_76 (k0 : Int32) (hpre_3 : k0.toInt = 14 ∨ k0.toInt = 32 ∨ k0.toInt = 33 ∨ k0.toInt = 35 ∨ k0.toInt = 36 ∨ k0.toInt = 37) (c2 : ¬ k0.toInt = 36) (c7 : ¬ k0.toInt = 14) (c8 : k0.toInt = 37) (c81 : k0.toInt = 32) : False := by
  first | assumption | omega | (subst_vars; omega) | trivial
-- dead@57 @66
theorem v_jumps_77 (k0 : Int32) (hpre_3 : k0.toInt = 14 ∨ k0.toInt = 32 ∨ k0.toInt = 33 ∨ k0.toInt = 35 ∨ k0.toInt = 36 ∨ k0.toInt = 37) (c2 : ¬ k0.toInt = 36) (c7 : ¬ k0.toInt = 14) (c8 : k0.toInt = 37) (c81 : ¬ k0.toInt = 32) (c82 : k0.toInt = 33) : False := by
  first | assumption | omega | (subst_vars; omega) | trivial
-- dead@145 @162
theorem v_jumps_78 (k0 : Int32) (hpre_3 : k0.toInt = 14 ∨ k0.toInt = 32 ∨ k0.toInt = 33 ∨ k0.toInt = 35 ∨ k0.toInt = 36 ∨ k0.toInt = 37) (c2 : ¬ k0.toInt = 36) (c7 : ¬ k0.toInt = 14) (c8 : k0.toInt = 37) (c81 : ¬ k0.toInt = 32) (c82 : ¬ k0.toInt = 33) (c83 : ¬ k0.toInt = 35) (c84 : ¬ k0.toInt = 37) : False := by
  first | assumption | omega | (subst_vars; omega) | trivial
-- post @163
theorem v_jumps_79 (σ : RS) (k0 : Int32) (x1 : Int32) (hpre_0 : 1 ≤ (σ.1 55).toInt) (hpre_1 : (σ.1 55).toInt ≤ 60) (hpre_2 : (σ.1 56).toInt = 0) (hpre_3 : k0.toInt = 14 ∨ k0.toInt = 32 ∨ k0.toInt = 33 ∨ k0.toInt = 35 ∨ k0.toInt = 36 ∨ k0.toInt = 37) (ex1 : x1 = (σ.1 55) - (1 : Int32)) (tx1 : x1.toInt = (σ.1 55).toInt - 1) (c2 : ¬ k0.toInt = 36) (c7 : ¬ k0.toInt = 14) (c8 : k0.toInt = 37) (c81 : ¬ k0.toInt = 32) (c82 : ¬ k0.toInt = 33) (c83 : ¬ k0.toInt = 35) (c84 : k0.toInt = 37) : 0 ≤ (σ.1 56).toInt ∧ (σ.1 56).toInt ≤ 11 ∧ (k0.toInt = 36 → ¬ (1 : Int32).toInt = 0) ∧ (¬ (1 : Int32).toInt = 0 → (k0.toInt = 35 → (σ.1 55).toInt = (σ.1 55).toInt - 1) ∧ (¬ k0.toInt = 35 → (σ.1 55).toInt = (σ.1 55).toInt)) ∧ ((1 : Int32).toInt = 0 → (k0.toInt = 14 → (σ.1 55).toInt = (σ.1 55).toInt) ∧ (¬ k0.toInt = 14 → (σ.1 55).toInt = (σ.1 55).toInt - 1)) := by
  have q1 : (1 : Int32).toInt = 1 := by decide +kernel
  refine ⟨?_, ?_, ?_, ?_, ?_⟩ <;> first | assumption | omega | (subst_vars; omega) | trivial
-- post2 @163
theorem v_jumps_80 (σ : RS) (k0 : Int32) (x1 : Int32) (r73 : Int32) (hpre_0 : 1 ≤ (σ.1 55).toInt) (hpre_1 : (σ.1 55).toInt ≤ 60) (hpre_2 : (σ.1 56).toInt = 0) (hpre_3 : k0.toInt = 14 ∨ k0.toInt = 32 ∨ k0.toInt = 33 ∨ k0.toInt = 35 ∨ k0.toInt = 36 ∨ k0.toInt = 37) (ex1 : x1 = (σ.1 55) - (1 : Int32)) (tx1 : x1.toInt = (σ.1 55).toInt - 1) (c2 : ¬ k0.toInt = 36) (c7 : ¬ k0.toInt = 14) (c8 : k0.toInt = 37) (hr73y : ∀ v9 : QV, QAT (qH (σ.2.1 36) (σ.2.1 37) (σ.2.1 38) (σ.2.1 39) (σ.2.1 40) (σ.2.1 41) (σ.2.1 42) (σ.2.1 43) (σ.2.1 44) (σ.2.1 45) (σ.2.1 46) (σ.2.1 48)) (σ.1 47).toInt ((σ.2.1 51), (σ.2.2.1 52), (σ.2.2.1 53), (σ.2.2.2)) x1.toNatClampNeg v9 → (r73.toInt = 0 → qEmpty v9 = false) ∧ (¬ r73.toInt = 0 → qEmpty v9 = true)) (hr73 : r73.toInt = 0 ∨ r73.toInt = 1) (c74 : r73.toInt = 0) (c81 : ¬ k0.toInt = 32) (c82 : ¬ k0.toInt = 33) (c83 : ¬ k0.toInt = 35) (c84 : k0.toInt = 37) : ∀ v9 : QV, QAT (qH (σ.2.1 36) (σ.2.1 37) (σ.2.1 38) (σ.2.1 39) (σ.2.1 40) (σ.2.1 41) (σ.2.1 42) (σ.2.1 43) (σ.2.1 44) (σ.2.1 45) (σ.2.1 46) (σ.2.1 48)) (σ.1 47).toInt ((σ.2.1 51), (σ.2.2.1 52), (σ.2.2.1 53), (σ.2.2.2)) (((σ.1 55).toInt - 1).toNat) v9 → (σ.1 56).toInt = 0 → (k0.toInt = 14 → (¬ (1 : Int32).toInt = 0 → v9.1 = 0) ∧ ((1 : Int32).toInt = 0 → ¬ v9.1 = 0)) ∧ (k0.toInt = 37 → ((1 : Int32).toInt = 0 → qEmpty v9 = true) ∧ (¬ (1 : Int32).toInt = 0 → qEmpty v9 = false)) ∧ ((k0.toInt = 32 ∨ k0.toInt = 33 ∨ k0.toInt = 35) → (v9.1 = 1 → (σ.1 56).toInt = 0 ∧ ((1 : Int32).toInt = 0 → ¬ v9.2.1 = if k0.toInt = 33 then 1 else 0) ∧ (¬ (1 : Int32).toInt = 0 → v9.2.1 = if k0.toInt = 33 then 1 else 0)) ∧ (¬ v9.1 = 1 → (σ.1 56).toInt = 1)) ∧ ((k0.toInt = 14 ∨ k0.toInt = 36 ∨ k0.toInt = 37) → (σ.1 56).toInt = 0) := by
  have q1 : (1 : Int32).toInt = 1 := by decide +kernel
  intro v9 h9 h0
  have zx1 : x1.toNatClampNeg = ((σ.1 55).toInt - 1).toNat := by rw [clampN x1, tx1]
  try simp only [zx1] at *
  have kd := h9.kd
  have kk := h9.ok.kd
  dsimp only at kd
  have em := hr73y v9 h9
  have nb : v9.1 = 1 → ((σ.2.2.1 52) ((σ.1 55).toInt - 1).toNat).toInt = v9.2.1 := fun e => (h9.2.2.2.2 (by omega) (by omega)).1
  refine ⟨fun hs => ⟨fun h => by omega, fun h => by omega⟩, fun hs => ⟨fun h => ?_, fun h => ?_⟩, fun hs => ⟨fun h => ⟨by omega, by omega, by omega⟩, fun h => by omega⟩, fun hs => by omega⟩
  · first | exact em.2 (by omega) | (exfalso; omega)
  · first | exact em.1 (by omega) | (exfalso; omega)
-- dead@63 @66
theorem v_jumps_81 (k0 : Int32) (hpre_3 : k0.toInt = 14 ∨ k0.toInt = 32 ∨ k0.toInt = 33 ∨ k0.toInt = 35 ∨ k0.toInt = 36 ∨ k0.toInt = 37) (c2 : ¬ k0.toInt = 36) (c7 : ¬ k0.toInt = 14) (c8 : k0.toInt = 37) (c81 : ¬ k0.toInt = 32) (c82 : ¬ k0.toInt = 33) (c83 : k0.toInt = 35) : False := by
  first | assumption | omega | (subst_vars; omega) | trivial
-- dead@51 @66
theorem v_jumps_82 (k0 : Int32) (hpre_3 : k0.toInt = 14 ∨ k0.toInt = 32 ∨ k0.toInt = 33 ∨ k0.toInt = 35 ∨ k0.toInt = 36 ∨ k0.toInt = 37) (c2 : ¬ k0.toInt = 36) (c7 : k0.toInt = 14) (c88 : k0.toInt = 32) : False := by
  first | assumption | omega | (subst_vars; omega) | trivial
-- dead@57 @66
theorem v_jumps_83 (k0 : Int32) (hpre_3 : k0.toInt = 14 ∨ k0.toInt = 32 ∨ k0.toInt = 33 ∨ k0.toInt = 35 ∨ k0.toInt = 36 ∨ k0.toInt = 37) (c2 : ¬ k0.toInt = 36) (c7 : k0.toInt = 14) (c88 : ¬ k0.toInt = 32) (c89 : k0.toInt = 33) : False := by
  first | assumption | omega | (subst_vars; omega) | trivial
-- post @163
theorem v_jumps_84 (σ : RS) (k0 : Int32) (x1 : Int32) (x86 : Int32) (hpre_0 : 1 ≤ (σ.1 55).toInt) (hpre_1 : (σ.1 55).toInt ≤ 60) (hpre_2 : (σ.1 56).toInt = 0) (hpre_3 : k0.toInt = 14 ∨ k0.toInt = 32 ∨ k0.toInt = 33 ∨ k0.toInt = 35 ∨ k0.toInt = 36 ∨ k0.toInt = 37) (ex1 : x1 = (σ.1 55) - (1 : Int32)) (tx1 : x1.toInt = (σ.1 55).toInt - 1) (c2 : ¬ k0.toInt = 36) (c7 : k0.toInt = 14) (ex86 : x86 = (σ.2.1 51) x1.toNatClampNeg) (tx86 : x86.toInt = ((σ.2.1 51) ((σ.1 55).toInt - 1).toNat).toInt) (c87 : x86.toInt = 0) (c88 : ¬ k0.toInt = 32) (c89 : ¬ k0.toInt = 33) (c90 : ¬ k0.toInt = 35) (c91 : ¬ k0.toInt = 37) : 0 ≤ (σ.1 56).toInt ∧ (σ.1 56).toInt ≤ 11 ∧ (k0.toInt = 36 → ¬ (1 : Int32).toInt = 0) ∧ (¬ (1 : Int32).toInt = 0 → (k0.toInt = 35 → (σ.1 55).toInt = (σ.1 55).toInt - 1) ∧ (¬ k0.toInt = 35 → (σ.1 55).toInt = (σ.1 55).toInt)) ∧ ((1 : Int32).toInt = 0 → (k0.toInt = 14 → (σ.1 55).toInt = (σ.1 55).toInt) ∧ (¬ k0.toInt = 14 → (σ.1 55).toInt = (σ.1 55).toInt - 1)) := by
  have q1 : (1 : Int32).toInt = 1 := by decide +kernel
  refine ⟨?_, ?_, ?_, ?_, ?_⟩ <;> first | assumption | omega | (subst_vars; omega) | trivial
-- post2 @163
theorem v_jumps_85 (σ : RS) (k0 : Int32) (x1 : Int32) (x86 : Int32) (hpre_0 : 1 ≤ (σ.1 55).toInt) (hpre_1 : (σ.1 55).toInt ≤ 60) (hpre_2 : (σ.1 56).toInt = 0) (hpre_3 : k0.toInt = 14 ∨ k0.toInt = 32 ∨ k0.toInt = 33 ∨ k0.toInt = 35 ∨ k0.toInt = 36 ∨ k0.toInt = 37) (ex1 : x1 = (σ.1 55) - (1 : Int32)) (tx1 : x1.toInt = (σ.1 55).toInt - 1) (c2 : ¬ k0.toInt = 36) (c7 : k0.toInt = 14) (ex86 : x86 = (σ.2.1 51) x1.toNatClampNeg) (tx86 : x86.toInt = ((σ.2.1 51) ((σ.1 55).toInt - 1).toNat).toInt) (c87 : x86.toInt = 0) (c88 : ¬ k0.toInt = 32) (c89 : ¬ k0.toInt = 33) (c90 : ¬ k0.toInt = 35) (c91 : ¬ k0.toInt = 37) : ∀ v9 : QV, QAT (qH (σ.2.1 36) (σ.2.1 37) (σ.2.1 38) (σ.2.1 39) (σ.2.1 40) (σ.2.1 41) (σ.2.1 42) (σ.2.1 43) (σ.2.1 44) (σ.2.1 45) (σ.2.1 46) (σ.2.1 48)) (σ.1 47).toInt ((σ.2.1 51), (σ.2.2.1 52), (σ.2.2.1 53), (σ.2.2.2)) (((σ.1 55).toInt - 1).toNat) v9 → (σ.1 56).toInt = 0 → (k0.toInt = 14 → (¬ (1 : Int32).toInt = 0 → v9.1 = 0) ∧ ((1 : Int32).toInt = 0 → ¬ v9.1 = 0)) ∧ (k0.toInt = 37 → ((1 : Int32).toInt = 0 → qEmpty v9 = true) ∧ (¬ (1 : Int32).toInt = 0 → qEmpty v9 = false)) ∧ ((k0.toInt = 32 ∨ k0.toInt = 33 ∨ k0.toInt = 35) → (v9.1 = 1 → (σ.1 56).toInt = 0 ∧ ((1 : Int32).toInt = 0 → ¬ v9.2.1 = if k0.toInt = 33 then 1 else 0) ∧ (¬ (1 : Int32).toInt = 0 → v9.2.1 = if k0.toInt = 33 then 1 else 0)) ∧ (¬ v9.1 = 1 → (σ.1 56).toInt = 1)) ∧ ((k0.toInt = 14 ∨ k0.toInt = 36 ∨ k0.toInt = 37) → (σ.1 56).toInt = 0) := by
  have q1 : (1 : Int32).toInt = 1 := by decide +kernel
  intro v9 h9 h0
  have zx1 : x1.toNatClampNeg = ((σ.1 55).toInt - 1).toNat := by rw [clampN x1, tx1]
  try simp only [zx1] at *
  have kd := h9.kd
  have kk := h9.ok.kd
  dsimp only at kd
  have nb : v9.1 = 1 → ((σ.2.2.1 52) ((σ.1 55).toInt - 1).toNat).toInt = v9.2.1 := fun e => (h9.2.2.2.2 (by omega) (by omega)).1
  refine ⟨fun hs => ⟨fun h => by omega, fun h => by omega⟩, fun hs => ⟨fun h => ?_, fun h => ?_⟩, fun hs => ⟨fun h => ⟨by omega, by omega, by omega⟩, fun h => by omega⟩, fun hs => by omega⟩
  · first | exact em.2 (by omega) | (exfalso; omega)
  · first | exact em.1 (by omega) | (exfalso; omega)
-- dead@145 @148
theorem v_jumps_86 (k0 : Int32) (hpre_3 : k0.toInt = 14 ∨ k0.toInt = 32 ∨ k0.toInt = 33 ∨ k0.toInt = 35 ∨ k0.toInt = 36 ∨ k0.toInt = 37) (c2 : ¬ k0.toInt = 36) (c7 : k0.toInt = 14) (c88 : ¬ k0.toInt = 32) (c89 : ¬ k0.toInt = 33) (c90 : ¬ k0.toInt = 35) (c91 : k0.toInt = 37) : False := by
  first | assumption | omega | (subst_vars; omega) | trivial
-- dead@63 @66
theorem v_jumps_87 (k0 : Int32) (hpre_3 : k0.toInt = 14 ∨ k0.toInt = 32 ∨ k0.toInt = 33 ∨ k0.toInt = 35 ∨ k0.toInt = 36 ∨ k0.toInt = 37) (c2 : ¬ k0.toInt = 36) (c7 : k0.toInt = 14) (c88 : ¬ k0.toInt = 32) (c89 : ¬ k0.toInt = 33) (c90 : k0.toInt = 35) : False := by
  first | assumption | omega | (subst_vars; omega) | trivial
-- dead@51 @66
theorem v_jumps_88 (k0 : Int32) (hpre_3 : k0.toInt = 14 ∨ k0.toInt = 32 ∨ k0.toInt = 33 ∨ k0.toInt = 35 ∨ k0.toInt = 36 ∨ k0.toInt = 37) (c2 : ¬ k0.toInt = 36) (c7 : k0.toInt = 14) (c92 : ¬ k0.toInt = 37) (c93 : k0.toInt = 32) : False := by
  first | assumption | omega | (subst_vars; omega) | trivial
-- dead@57 @66
theorem v_jumps_89 (k0 : Int32) (hpre_3 : k0.toInt = 14 ∨ k0.toInt = 32 ∨ k0.toInt = 33 ∨ k0.toInt = 35 ∨ k0.toInt = 36 ∨ k0.toInt = 37) (c2 : ¬ k0.toInt = 36) (c7 : k0.toInt = 14) (c92 : ¬ k0.toInt = 37) (c93 : ¬ k0.toInt = 32) (c94 : k0.toInt = 33) : False := by
  first | assumption | omega | (subst_vars; omega) | trivial
-- post @163
theorem v_jumps_90 (σ : RS) (k0 : Int32) (x1 : Int32) (x86 : Int32) (hpre_0 : 1 ≤ (σ.1 55).toInt) (hpre_1 : (σ.1 55).toInt ≤ 60) (hpre_2 : (σ.1 56).toInt = 0) (hpre_3 : k0.toInt = 14 ∨ k0.toInt = 32 ∨ k0.toInt = 33 ∨ k0.toInt = 35 ∨ k0.toInt = 36 ∨ k0.toInt = 37) (ex1 : x1 = (σ.1 55) - (1 : Int32)) (tx1 : x1.toInt = (σ.1 55).toInt - 1) (c2 : ¬ k0.toInt = 36) (c7 : k0.toInt = 14) (ex86 : x86 = (σ.2.1 51) x1.toNatClampNeg) (tx86 : x86.toInt = ((σ.2.1 51) ((σ.1 55).toInt - 1).toNat).toInt) (c87 : ¬ x86.toInt = 0) (c92 : ¬ k0.toInt = 37) (c93 : ¬ k0.toInt = 32) (c94 : ¬ k0.toInt = 33) (c95 : ¬ k0.toInt = 35) (c96 : ¬ k0.toInt = 37) : 0 ≤ (σ.1 56).toInt ∧ (σ.1 56).toInt ≤ 11 ∧ (k0.toInt = 36 → ¬ (0 : Int32).toInt = 0) ∧ (¬ (0 : Int32).toInt = 0 → (k0.toInt = 35 → (σ.1 55).toInt = (σ.1 55).toInt - 1) ∧ (¬ k0.toInt = 35 → (σ.1 55).toInt = (σ.1 55).toInt)) ∧ ((0 : Int32).toInt = 0 → (k0.toInt = 14 → (σ.1 55).toInt = (σ.1 55).toInt) ∧ (¬ k0.toInt = 14 → (σ.1 55).toInt = (σ.1 55).toInt - 1)) := by
  have q0 : (0 : Int32).toInt = 0 := by decide +kernel
  have q1 : (1 : Int32).toInt = 1 := by decide +kernel
  refine ⟨?_, ?_, ?_, ?_, ?_⟩ <;> first | assumption | omega | (subst_vars; omega) | trivial
-- post2 @163
theorem v_jumps_91 (σ : RS) (k0 : Int32) (x1 : Int32) (x86 : Int32) (hpre_0 : 1 ≤ (σ.1 55).toInt) (hpre_1 : (σ.1 55).toInt ≤ 60) (hpre_2 : (σ.1 56).toInt = 0) (hpre_3 : k0.toInt = 14 ∨ k0.toInt = 32 ∨ k0.toInt = 33 ∨ k0.toInt = 35 ∨ k0.toInt = 36 ∨ k0.toInt = 37) (ex1 : x1 = (σ.1 55) - (1 : Int32)) (tx1 : x1.toInt = (σ.1 55).toInt - 1) (c2 : ¬ k0.toInt = 36) (c7 : k0.toInt = 14) (ex86 : x86 = (σ.2.1 51) x1.toNatClampNeg) (tx86 : x86.toInt = ((σ.2.1 51) ((σ.1 55).toInt - 1).toNat).toInt) (c87 : ¬ x86.toInt = 0) (c92 : ¬ k0.toInt = 37) (c93 : ¬ k0.toInt = 32) (c94 : ¬ k0.toInt = 33) (c95 : ¬ k0.toInt = 35) (c96 : ¬ k0.toInt = 37) : ∀ v9 : QV, QAT (qH (σ.2.1 36) (σ.2.1 37) (σ.2.1 38) (σ.2.1 39) (σ.2.1 40) (σ.2.1 41) (σ.2.1 42) (σ.2.1 43) (σ.2.1 44) (σ.2.1 45) (σ.2.1 46) (σ.2.1 48)) (σ.1 47).toInt ((σ.2.1 51), (σ.2.2.1 52), (σ.2.2.1 53), (σ.2.2.2)) (((σ.1 55).toInt - 1).toNat) v9 → (σ.1 56).toInt = 0 → (k0.toInt = 14 → (¬ (0 : Int32).toInt = 0 → v9.1 = 0) ∧ ((0 : Int32).toInt = 0 → ¬ v9.1 = 0)) ∧ (k0.toInt = 37 → ((0 : Int32).toInt = 0 → qEmpty v9 = true) ∧ (¬ (0 : Int32).toInt = 0 → qEmpty v9 = false)) ∧ ((k0.toInt = 32 ∨ k0.toInt = 33 ∨ k0.toInt = 35) → (v9.1 = 1 → (σ.1 56).toInt = 0 ∧ ((0 : Int32).toInt = 0 → ¬ v9.2.1 = if k0.toInt = 33 then 1 else 0) ∧ (¬ (0 : Int32).toInt = 0 → v9.2.1 = if k0.toInt = 33 then 1 else 0)) ∧ (¬ v9.1 = 1 → (σ.1 56).toInt = 1)) ∧ ((k0.toInt = 14 ∨ k0.toInt = 36 ∨ k0.toInt = 37) → (σ.1 56).toInt = 0) := by
  have q0 : (0 : Int32).toInt = 0 := by decide +kernel
  have q1 : (1 : Int32).toInt = 1 := by decide +kernel
  intro v9 h9 h0
  have zx1 : x1.toNatClampNeg = ((σ.1 55).toInt - 1).toNat := by rw [clampN x1, tx1]
  try simp only [zx1] at *
  have kd := h9.kd
  have kk := h9.ok.kd
  dsimp only at kd
  have nb : v9.1 = 1 → ((σ.2.2.1 52) ((σ.1 55).toInt - 1).toNat).toInt = v9.2.1 := fun e => (h9.2.2.2.2 (by omega) (by omega)).1
  refine ⟨fun hs => ⟨fun h => by omega, fun h => by omega⟩, fun hs => ⟨fun h => ?_, fun h => ?_⟩, fun hs => ⟨fun h => ⟨by omega, by omega, by omega⟩, fun h => by omega⟩, fun hs => by omega⟩
  · first | exact em.2 (by omega) | (exfalso; omega)
  · first | exact em.1 (by omega) | (exfalso; omega)
-- dead@145 @148
theorem v_jumps_92 (k0 : Int32) (hpre_3 : k0.toInt = 14 ∨ k0.toInt = 32 ∨ k0.toInt = 33 ∨ k0.toInt = 35 ∨ k0.toInt = 36 ∨ k0.toInt = 37) (c2 : ¬ k0.toInt = 36) (c7 : k0.toInt = 14) (c92 : ¬ k0.toInt = 37) (c93 : ¬ k0.toInt = 32) (c94 : ¬ k0.toInt = 33) (c95 : ¬ k0.toInt = 35) (c96 : k0.toInt = 37) : False := by
  first | assumption | omega | (subst_vars; omega) | trivial
-- dead@63 @66
theorem v_jumps_93 (k0 : Int32) (hpre_3 : k0.toInt = 14 ∨ k0.toInt = 32 ∨ k0.toInt = 33 ∨ k0.toInt = 35 ∨ k0.toInt = 36 ∨ k0.toInt = 37) (c2 : ¬ k0.toInt = 36) (c7 : k0.toInt = 14) (c92 : ¬ k0.toInt = 37) (c93 : ¬ k0.toInt = 32) (c94 : ¬ k0.toInt = 33) (c95 : k0.toInt = 35) : False := by
  first | assumption | omega | (subst_vars; omega) | trivial
-- dead@31 @34
theorem v_jumps_94 (k0 : Int32) (hpre_3 : k0.toInt = 14 ∨ k0.toInt = 32 ∨ k0.toInt = 33 ∨ k0.toInt = 35 ∨ k0.toInt = 36 ∨ k0.toInt = 37) (c2 : ¬ k0.toInt = 36) (c7 : k0.toInt = 14) (c92 : k0.toInt = 37) : False := by
  first | assumption | omega | (subst_vars; omega) | trivial
set_option maxHeartbeats 4000000 in
set_option maxRecDepth 100000 in
theorem M_jumps (l : Launch) (D : va_G) (cy : Nat → ClassId) (sz0 : Nat) (sa : Nat → Nat) (ad : Nat → Nat) (σ : RS) (sz : Nat) (k0 : Int32) (hpre : 1 ≤ (σ.1 55).toInt ∧ (σ.1 55).toInt ≤ 60 ∧ (σ.1 56).toInt = 0 ∧ (k0.toInt = 14 ∨ k0.toInt = 32 ∨ k0.toInt = 33 ∨ k0.toInt = 35 ∨ k0.toInt = 36 ∨ k0.toInt = 37)) : Met l yX12_jumps (Cond.code yX12_jumps cX12_jumps 4 (some .boolean) :: GWm) ({ frames := 2, cells := 0, slots := 0, locals := 42 }) (PcR D cy sz0 sa ad [.ref (ad 0), .int k0] σ sz) (va_Qi (fun (r : Int32) (u : Int32 × Int32) => (0 ≤ u.2.toInt ∧ u.2.toInt ≤ 11 ∧ (k0.toInt = 36 → ¬ r.toInt = 0) ∧ (¬ r.toInt = 0 → (k0.toInt = 35 → u.1.toInt = (σ.1 55).toInt - 1) ∧ (¬ k0.toInt = 35 → u.1.toInt = (σ.1 55).toInt)) ∧ (r.toInt = 0 → (k0.toInt = 14 → u.1.toInt = (σ.1 55).toInt) ∧ (¬ k0.toInt = 14 → u.1.toInt = (σ.1 55).toInt - 1))) ∧ (∀ v9 : QV, QAT (qH (σ.2.1 36) (σ.2.1 37) (σ.2.1 38) (σ.2.1 39) (σ.2.1 40) (σ.2.1 41) (σ.2.1 42) (σ.2.1 43) (σ.2.1 44) (σ.2.1 45) (σ.2.1 46) (σ.2.1 48)) (σ.1 47).toInt ((σ.2.1 51), (σ.2.2.1 52), (σ.2.2.1 53), (σ.2.2.2)) (((σ.1 55).toInt - 1).toNat) v9 → (σ.1 56).toInt = 0 → (k0.toInt = 14 → (¬ r.toInt = 0 → v9.1 = 0) ∧ (r.toInt = 0 → ¬ v9.1 = 0)) ∧ (k0.toInt = 37 → (r.toInt = 0 → qEmpty v9 = true) ∧ (¬ r.toInt = 0 → qEmpty v9 = false)) ∧ ((k0.toInt = 32 ∨ k0.toInt = 33 ∨ k0.toInt = 35) → (v9.1 = 1 → u.2.toInt = 0 ∧ (r.toInt = 0 → ¬ v9.2.1 = if k0.toInt = 33 then 1 else 0) ∧ (¬ r.toInt = 0 → v9.2.1 = if k0.toInt = 33 then 1 else 0)) ∧ (¬ v9.1 = 1 → u.2.toInt = 1)) ∧ ((k0.toInt = 14 ∨ k0.toInt = 36 ∨ k0.toInt = 37) → u.2.toInt = 0))) (fun (u : Int32 × Int32) (t : State) => RP D cy ad (rS (rS σ 55 u.1) 56 u.2) t.heap) (AR cy ad sz)) 0 0 (AR cy ad sz) := by
  refine RM_of (loc0 := [(0, .ref (ad 0)), (1, .int k0)]) (by decide) rfl rfl (Nat.le_of_ble_eq_true rfl) ?_
  intro p e s m below meth c ls hsz C hP hS hl
  have hx := C.1
  have hb := C.2.1
  have hown := C.2.2.2.2.1
  have hw := C.2.2.2.2.2.1
  clear hsz
  obtain ⟨hpre_0, hpre_1, hpre_2, hpre_3⟩ := hpre
  refine lv_aload_n hx hb dX12_jumps_0 rfl (lv_at hl 0 rfl) ?_
  refine rg_55 (v := (σ.1 55)) C hP rfl wm_212 dX12_jumps_1 ?_
  refine lv_iconst (v := 1) hx hb dX12_jumps_4 (by decide +kernel) ?_
  refine lv_isub hx hb dX12_jumps_5 ?_
  refine lv_topi (fun x1 ex1 => ?_)
  have tx1 : x1.toInt = (σ.1 55).toInt - 1 := (v_jumps_1 σ x1 hpre_0 hpre_1 ex1)
  refine lv_istore_n (lv' := [(2, .int x1), (0, .ref (ad 0)), (1, .int k0)]) hx hb dX12_jumps_6 rfl hl (by decide) rfl (fun ls hl => ?_)
  refine lv_iload_n hx hb dX12_jumps_7 rfl (lv_at hl 2 rfl) ?_
  refine lv_bipush (v := 36) hx hb dX12_jumps_8 (by decide +kernel) ?_
  refine lv_icmp_eq (tgt := 42) hx hb dX12_jumps_10 (by decide) (fun c2 => ?_) (fun c2 => ?_)
  · have c2 : k0.toInt = 36 := by have h := z_eq c2; rw [show (36 : Int32).toInt = 36 from by decide +kernel] at h; exact h
    refine lv_iconst (v := 1) hx hb dX12_jumps_42 (by decide +kernel) ?_
    refine lv_goto (tgt := 47) hx hb dX12_jumps_43 (by decide) ?_
    refine lv_istore_n (lv' := [(3, .int 1), (2, .int x1), (0, .ref (ad 0)), (1, .int k0)]) hx hb dX12_jumps_47 rfl hl (by decide) rfl (fun ls hl => ?_)
    refine lv_iload_n hx hb dX12_jumps_48 rfl (lv_at hl 3 rfl) ?_
    refine lv_bipush (v := 32) hx hb dX12_jumps_49 (by decide +kernel) ?_
    refine lv_icmp_eq (tgt := 66) hx hb dX12_jumps_51 (by decide) (fun c3 => ?_) (fun c3 => ?_)
    · have c3 : k0.toInt = 32 := by have h := z_eq c3; rw [show (32 : Int32).toInt = 32 from by decide +kernel] at h; exact h
      exact absurd (v_jumps_2 k0 hpre_3 c2 c3) id
    · have c3 : ¬ k0.toInt = 32 := by have h := z_ne c3; rw [show (32 : Int32).toInt = 32 from by decide +kernel] at h; exact h
      refine lv_iload_n hx hb dX12_jumps_54 rfl (lv_at hl 3 rfl) ?_
      refine lv_bipush (v := 33) hx hb dX12_jumps_55 (by decide +kernel) ?_
      refine lv_icmp_eq (tgt := 66) hx hb dX12_jumps_57 (by decide) (fun c4 => ?_) (fun c4 => ?_)
      · have c4 : k0.toInt = 33 := by have h := z_eq c4; rw [show (33 : Int32).toInt = 33 from by decide +kernel] at h; exact h
        exact absurd (v_jumps_3 k0 hpre_3 c2 c3 c4) id
      · have c4 : ¬ k0.toInt = 33 := by have h := z_ne c4; rw [show (33 : Int32).toInt = 33 from by decide +kernel] at h; exact h
        refine lv_iload_n hx hb dX12_jumps_60 rfl (lv_at hl 3 rfl) ?_
        refine lv_bipush (v := 35) hx hb dX12_jumps_61 (by decide +kernel) ?_
        refine lv_icmp_ne (tgt := 142) hx hb dX12_jumps_63 (by decide) (fun c5 => ?_) (fun c5 => ?_)
        · have c5 : ¬ k0.toInt = 35 := by have h := z_ne c5; rw [show (35 : Int32).toInt = 35 from by decide +kernel] at h; exact h
          refine lv_iload_n hx hb dX12_jumps_142 rfl (lv_at hl 3 rfl) ?_
          refine lv_bipush (v := 37) hx hb dX12_jumps_143 (by decide +kernel) ?_
          refine lv_icmp_ne (tgt := 162) hx hb dX12_jumps_145 (by decide) (fun c6 => ?_) (fun c6 => ?_)
          · have c6 : ¬ k0.toInt = 37 := by have h := z_ne c6; rw [show (37 : Int32).toInt = 37 from by decide +kernel] at h; exact h
            refine lv_iload_n hx hb dX12_jumps_162 rfl (lv_at hl 0 rfl) ?_
            have hP : RP D cy ad (rS (rS σ 55 (σ.1 55)) 56 (σ.1 56)) s.heap := RP.cong hP (Eq.trans (b := (σ.1 0)) rfl rfl) (Eq.trans (b := (σ.1 1)) rfl rfl) (Eq.trans (b := (σ.2.1 2)) rfl rfl) (Eq.trans (b := (σ.1 3)) rfl rfl) (Eq.trans (b := (σ.2.1 4)) rfl rfl) (Eq.trans (b := (σ.2.1 5)) rfl rfl) (Eq.trans (b := (σ.2.2.1 6)) rfl rfl) (Eq.trans (b := (σ.2.1 7)) rfl rfl) (Eq.trans (b := (σ.1 8)) rfl rfl) (Eq.trans (b := (σ.1 9)) rfl rfl) (Eq.trans (b := (σ.1 10)) rfl rfl) (Eq.trans (b := (σ.2.1 11)) rfl rfl) (Eq.trans (b := (σ.2.2.1 12)) rfl rfl) (Eq.trans (b := (σ.2.1 13)) rfl rfl) (Eq.trans (b := (σ.1 14)) rfl rfl) (Eq.trans (b := (σ.1 15)) rfl rfl) (Eq.trans (b := (σ.1 16)) rfl rfl) (Eq.trans (b := (σ.1 17)) rfl rfl) (Eq.trans (b := (σ.1 18)) rfl rfl) (Eq.trans (b := (σ.1 19)) rfl rfl) (Eq.trans (b := (σ.2.1 20)) rfl rfl) (Eq.trans (b := (σ.2.1 21)) rfl rfl) (Eq.trans (b := (σ.2.1 22)) rfl rfl) (Eq.trans (b := (σ.2.1 23)) rfl rfl) (Eq.trans (b := (σ.2.1 24)) rfl rfl) (Eq.trans (b := (σ.2.1 25)) rfl rfl) (Eq.trans (b := (σ.2.1 26)) rfl rfl) (Eq.trans (b := (σ.2.1 27)) rfl rfl) (Eq.trans (b := (σ.2.1 28)) rfl rfl) (Eq.trans (b := (σ.1 29)) rfl rfl) (Eq.trans (b := (σ.2.1 30)) rfl rfl) (Eq.trans (b := (σ.2.1 31)) rfl rfl) (Eq.trans (b := (σ.2.1 32)) rfl rfl) (Eq.trans (b := (σ.1 33)) rfl rfl) (Eq.trans (b := (σ.1 34)) rfl rfl) (Eq.trans (b := (σ.1 35)) rfl rfl) (Eq.trans (b := (σ.2.1 36)) rfl rfl) (Eq.trans (b := (σ.2.1 37)) rfl rfl) (Eq.trans (b := (σ.2.1 38)) rfl rfl) (Eq.trans (b := (σ.2.1 39)) rfl rfl) (Eq.trans (b := (σ.2.1 40)) rfl rfl) (Eq.trans (b := (σ.2.1 41)) rfl rfl) (Eq.trans (b := (σ.2.1 42)) rfl rfl) (Eq.trans (b := (σ.2.1 43)) rfl rfl) (Eq.trans (b := (σ.2.1 44)) rfl rfl) (Eq.trans (b := (σ.2.1 45)) rfl rfl) (Eq.trans (b := (σ.2.1 46)) rfl rfl) (Eq.trans (b := (σ.1 47)) rfl rfl) (Eq.trans (b := (σ.2.1 48)) rfl rfl) (Eq.trans (b := (σ.1 49)) rfl rfl) (Eq.trans (b := (σ.2.1 50)) rfl rfl) (Eq.trans (b := (σ.2.1 51)) rfl rfl) (Eq.trans (b := (σ.2.2.1 52)) rfl rfl) (Eq.trans (b := (σ.2.2.1 53)) rfl rfl) (Eq.trans (b := (σ.2.2.2)) rfl rfl) (Eq.trans (b := (σ.1 55)) rfl rfl) (Eq.trans (b := (σ.1 56)) rfl rfl) (Eq.trans (b := (σ.1 57)) rfl rfl) (Eq.trans (b := (σ.2.1 58)) rfl rfl) (Eq.trans (b := (σ.1 59)) rfl rfl)
            exact r_retz C ⟨(σ.1 55), (σ.1 56)⟩ (v_jumps_6  ) ⟨(v_jumps_4 σ k0 x1 hpre_0 hpre_1 hpre_2 hpre_3 ex1 tx1 c2 c3 c4 c5 c6), (v_jumps_5 σ k0 x1 hpre_0 hpre_1 hpre_2 hpre_3 ex1 tx1 c2 c3 c4 c5 c6)⟩ hP hS dX12_jumps_163
          · have c6 : k0.toInt = 37 := by have h := z_eq c6; rw [show (37 : Int32).toInt = 37 from by decide +kernel] at h; exact h
            exact absurd (v_jumps_7 k0 hpre_3 c2 c3 c4 c5 c6) id
        · have c5 : k0.toInt = 35 := by have h := z_eq c5; rw [show (35 : Int32).toInt = 35 from by decide +kernel] at h; exact h
          exact absurd (v_jumps_8 k0 hpre_3 c2 c3 c4 c5) id
  · have c2 : ¬ k0.toInt = 36 := by have h := z_ne c2; rw [show (36 : Int32).toInt = 36 from by decide +kernel] at h; exact h
    refine lv_iload_n hx hb dX12_jumps_13 rfl (lv_at hl 2 rfl) ?_
    refine lv_bipush (v := 14) hx hb dX12_jumps_14 (by decide +kernel) ?_
    refine lv_icmp_ne (tgt := 28) hx hb dX12_jumps_16 (by decide) (fun c7 => ?_) (fun c7 => ?_)
    · have c7 : ¬ k0.toInt = 14 := by have h := z_ne c7; rw [show (14 : Int32).toInt = 14 from by decide +kernel] at h; exact h
      refine lv_iload_n hx hb dX12_jumps_28 rfl (lv_at hl 2 rfl) ?_
      refine lv_bipush (v := 37) hx hb dX12_jumps_29 (by decide +kernel) ?_
      refine lv_icmp_ne (tgt := 46) hx hb dX12_jumps_31 (by decide) (fun c8 => ?_) (fun c8 => ?_)
      · have c8 : ¬ k0.toInt = 37 := by have h := z_ne c8; rw [show (37 : Int32).toInt = 37 from by decide +kernel] at h; exact h
        refine lv_iconst (v := 0) hx hb dX12_jumps_46 (by decide +kernel) ?_
        refine lv_istore_n (lv' := [(3, .int 0), (2, .int x1), (0, .ref (ad 0)), (1, .int k0)]) hx hb dX12_jumps_47 rfl hl (by decide) rfl (fun ls hl => ?_)
        refine lv_iload_n hx hb dX12_jumps_48 rfl (lv_at hl 3 rfl) ?_
        refine lv_bipush (v := 32) hx hb dX12_jumps_49 (by decide +kernel) ?_
        refine lv_icmp_eq (tgt := 66) hx hb dX12_jumps_51 (by decide) (fun c9 => ?_) (fun c9 => ?_)
        · have c9 : k0.toInt = 32 := by have h := z_eq c9; rw [show (32 : Int32).toInt = 32 from by decide +kernel] at h; exact h
          refine lv_aload_n hx hb dX12_jumps_66 rfl (lv_at hl 2 rfl) ?_
          refine lv_aload_n hx hb dX12_jumps_67 rfl (lv_at hl 2 rfl) ?_
          refine rg_51 C hP wm_205 dX12_jumps_68 ?_
          refine lv_iload_n hx hb dX12_jumps_71 rfl (lv_at hl 1 rfl) ?_
          refine ra_51 (f := (σ.2.1 51)) C hP rfl (v_jumps_9 σ x1 hpre_0 hpre_1 ex1 tx1) dX12_jumps_72 (fun x10 ex10 => ?_)
          have tx10 : x10.toInt = ((σ.2.1 51) ((σ.1 55).toInt - 1).toNat).toInt := by rw [ex10, clampN, tx1]
          refine lv_iconst (v := 1) hx hb dX12_jumps_73 (by decide +kernel) ?_
          refine lv_icmp_ne (tgt := 84) hx hb dX12_jumps_74 (by decide) (fun c11 => ?_) (fun c11 => ?_)
          · have c11 : ¬ x10.toInt = 1 := by have h := z_ne c11; rw [show (1 : Int32).toInt = 1 from by decide +kernel] at h; exact h
            refine lv_iconst (v := 1) hx hb dX12_jumps_84 (by decide +kernel) ?_
            refine rp_56 C hP hS wm_242 dX12_jumps_85 (fun H locs hP hS => ?_)
            refine lv_aload_n hx hb dX12_jumps_88 rfl (lv_at hl 2 rfl) ?_
            refine rg_52 C hP wm_206 dX12_jumps_89 ?_
            refine lv_iload_n hx hb dX12_jumps_92 rfl (lv_at hl 1 rfl) ?_
            refine ra_52 (f := (σ.2.2.1 52)) C hP rfl (v_jumps_10 σ x1 x10 hpre_0 hpre_1 ex1 tx1 ex10 tx10 c11) dX12_jumps_93 (fun x12 ex12 => ?_)
            have tx12 : x12.toInt = ((σ.2.2.1 52) ((σ.1 55).toInt - 1).toNat).toInt := by rw [ex12, clampN, tx1]
            refine lv_iload_n hx hb dX12_jumps_94 rfl (lv_at hl 3 rfl) ?_
            refine lv_bipush (v := 33) hx hb dX12_jumps_95 (by decide +kernel) ?_
            refine lv_icmp_ne (tgt := 104) hx hb dX12_jumps_97 (by decide) (fun c13 => ?_) (fun c13 => ?_)
            · have c13 : ¬ k0.toInt = 33 := by have h := z_ne c13; rw [show (33 : Int32).toInt = 33 from by decide +kernel] at h; exact h
              refine lv_lconst (v := 0) hx hb dX12_jumps_104 rfl ?_
              refine W.lcmp hx hb dX12_jumps_105 ?_
              refine lv_topi (fun x14 ex14 => ?_)
              have tx14 : (x14.toInt = 0 ↔ x12.toInt = 0) ∧ (x14.toInt < 0 ↔ x12.toInt < 0) := z_lcmp ex14 rfl (by decide +kernel)
              refine lv_if_ne (tgt := 113) hx hb dX12_jumps_106 (by decide) (fun c15 => ?_) (fun c15 => ?_)
              · have c15 : ¬ x14.toInt = 0 := by have h := z_ne c15; rw [show (0 : Int32).toInt = 0 from by decide +kernel] at h; exact h
                refine lv_iconst (v := 0) hx hb dX12_jumps_113 (by decide +kernel) ?_
                refine lv_istore_n (lv' := [(3, .int 0), (2, .int x1), (0, .ref (ad 0)), (1, .int k0)]) hx hb dX12_jumps_114 rfl hl (by decide) rfl (fun ls hl => ?_)
                refine lv_aload_n hx hb dX12_jumps_115 rfl (lv_at hl 2 rfl) ?_
                refine lv_dup hx hb dX12_jumps_116 rfl ?_
                refine rg_55 (v := (σ.1 55)) C hP rfl wm_212 dX12_jumps_117 ?_
                refine lv_iload_n hx hb dX12_jumps_120 rfl (lv_at hl 0 rfl) ?_
                refine lv_if_eq (tgt := 134) hx hb dX12_jumps_121 (by decide) (fun _ => ?_) (fun c16 => absurd (by decide +kernel) c16)
                refine lv_iconst (v := 1) hx hb dX12_jumps_134 (by decide +kernel) ?_
                refine lv_isub hx hb dX12_jumps_135 ?_
                refine lv_topi (fun x17 ex17 => ?_)
                have tx17 : x17.toInt = (σ.1 55).toInt - 1 := (v_jumps_11 σ x1 x10 x12 x14 x17 hpre_0 hpre_1 ex1 tx1 ex10 tx10 c11 ex12 tx12 tx14 c15 ex17)
                refine rp_55 C hP hS wm_212 dX12_jumps_136 (fun H locs hP hS => ?_)
                refine lv_goto (tgt := 162) hx hb dX12_jumps_139 (by decide) ?_
                refine lv_iload_n hx hb dX12_jumps_162 rfl (lv_at hl 0 rfl) ?_
                have hP : RP D cy ad (rS (rS σ 55 x17) 56 (1 : Int32)) H := RP.cong hP (Eq.trans (b := (σ.1 0)) rfl rfl) (Eq.trans (b := (σ.1 1)) rfl rfl) (Eq.trans (b := (σ.2.1 2)) rfl rfl) (Eq.trans (b := (σ.1 3)) rfl rfl) (Eq.trans (b := (σ.2.1 4)) rfl rfl) (Eq.trans (b := (σ.2.1 5)) rfl rfl) (Eq.trans (b := (σ.2.2.1 6)) rfl rfl) (Eq.trans (b := (σ.2.1 7)) rfl rfl) (Eq.trans (b := (σ.1 8)) rfl rfl) (Eq.trans (b := (σ.1 9)) rfl rfl) (Eq.trans (b := (σ.1 10)) rfl rfl) (Eq.trans (b := (σ.2.1 11)) rfl rfl) (Eq.trans (b := (σ.2.2.1 12)) rfl rfl) (Eq.trans (b := (σ.2.1 13)) rfl rfl) (Eq.trans (b := (σ.1 14)) rfl rfl) (Eq.trans (b := (σ.1 15)) rfl rfl) (Eq.trans (b := (σ.1 16)) rfl rfl) (Eq.trans (b := (σ.1 17)) rfl rfl) (Eq.trans (b := (σ.1 18)) rfl rfl) (Eq.trans (b := (σ.1 19)) rfl rfl) (Eq.trans (b := (σ.2.1 20)) rfl rfl) (Eq.trans (b := (σ.2.1 21)) rfl rfl) (Eq.trans (b := (σ.2.1 22)) rfl rfl) (Eq.trans (b := (σ.2.1 23)) rfl rfl) (Eq.trans (b := (σ.2.1 24)) rfl rfl) (Eq.trans (b := (σ.2.1 25)) rfl rfl) (Eq.trans (b := (σ.2.1 26)) rfl rfl) (Eq.trans (b := (σ.2.1 27)) rfl rfl) (Eq.trans (b := (σ.2.1 28)) rfl rfl) (Eq.trans (b := (σ.1 29)) rfl rfl) (Eq.trans (b := (σ.2.1 30)) rfl rfl) (Eq.trans (b := (σ.2.1 31)) rfl rfl) (Eq.trans (b := (σ.2.1 32)) rfl rfl) (Eq.trans (b := (σ.1 33)) rfl rfl) (Eq.trans (b := (σ.1 34)) rfl rfl) (Eq.trans (b := (σ.1 35)) rfl rfl) (Eq.trans (b := (σ.2.1 36)) rfl rfl) (Eq.trans (b := (σ.2.1 37)) rfl rfl) (Eq.trans (b := (σ.2.1 38)) rfl rfl) (Eq.trans (b := (σ.2.1 39)) rfl rfl) (Eq.trans (b := (σ.2.1 40)) rfl rfl) (Eq.trans (b := (σ.2.1 41)) rfl rfl) (Eq.trans (b := (σ.2.1 42)) rfl rfl) (Eq.trans (b := (σ.2.1 43)) rfl rfl) (Eq.trans (b := (σ.2.1 44)) rfl rfl) (Eq.trans (b := (σ.2.1 45)) rfl rfl) (Eq.trans (b := (σ.2.1 46)) rfl rfl) (Eq.trans (b := (σ.1 47)) rfl rfl) (Eq.trans (b := (σ.2.1 48)) rfl rfl) (Eq.trans (b := (σ.1 49)) rfl rfl) (Eq.trans (b := (σ.2.1 50)) rfl rfl) (Eq.trans (b := (σ.2.1 51)) rfl rfl) (Eq.trans (b := (σ.2.2.1 52)) rfl rfl) (Eq.trans (b := (σ.2.2.1 53)) rfl rfl) (Eq.trans (b := (σ.2.2.2)) rfl rfl) (Eq.trans (b := x17) rfl rfl) (Eq.trans (b := (1 : Int32)) rfl rfl) (Eq.trans (b := (σ.1 57)) rfl rfl) (Eq.trans (b := (σ.2.1 58)) rfl rfl) (Eq.trans (b := (σ.1 59)) rfl rfl)
                exact r_retz C ⟨x17, (1 : Int32)⟩ (v_jumps_14  ) ⟨(v_jumps_12 σ k0 x1 x10 x12 x14 x17 hpre_0 hpre_1 hpre_3 ex1 tx1 c2 c7 c8 c9 ex10 tx10 c11 ex12 tx12 c13 tx14 c15 ex17 tx17), (v_jumps_13 σ k0 x1 x10 x12 x14 x17 hpre_0 hpre_1 hpre_2 hpre_3 ex1 tx1 c2 c7 c8 c9 ex10 tx10 c11 ex12 tx12 c13 tx14 c15 ex17 tx17)⟩ hP hS dX12_jumps_163
              · have c15 : x14.toInt = 0 := by have h := z_eq c15; rw [show (0 : Int32).toInt = 0 from by decide +kernel] at h; exact h
                refine lv_iconst (v := 1) hx hb dX12_jumps_109 (by decide +kernel) ?_
                refine lv_goto (tgt := 114) hx hb dX12_jumps_110 (by decide) ?_
                refine lv_istore_n (lv' := [(3, .int 1), (2, .int x1), (0, .ref (ad 0)), (1, .int k0)]) hx hb dX12_jumps_114 rfl hl (by decide) rfl (fun ls hl => ?_)
                refine lv_aload_n hx hb dX12_jumps_115 rfl (lv_at hl 2 rfl) ?_
                refine lv_dup hx hb dX12_jumps_116 rfl ?_
                refine rg_55 (v := (σ.1 55)) C hP rfl wm_212 dX12_jumps_117 ?_
                refine lv_iload_n hx hb dX12_jumps_120 rfl (lv_at hl 0 rfl) ?_
                refine lv_if_eq (tgt := 134) hx hb dX12_jumps_121 (by decide) (fun c18 => absurd c18 (by decide +kernel)) (fun _ => ?_)
                refine lv_iload_n hx hb dX12_jumps_124 rfl (lv_at hl 3 rfl) ?_
                refine lv_bipush (v := 35) hx hb dX12_jumps_125 (by decide +kernel) ?_
                refine lv_icmp_eq (tgt := 134) hx hb dX12_jumps_127 (by decide) (fun c19 => ?_) (fun c19 => ?_)
                · have c19 : k0.toInt = 35 := by have h := z_eq c19; rw [show (35 : Int32).toInt = 35 from by decide +kernel] at h; exact h
                  exact absurd (v_jumps_15 k0 hpre_3 c2 c7 c8 c9 c13 c19) id
                · have c19 : ¬ k0.toInt = 35 := by have h := z_ne c19; rw [show (35 : Int32).toInt = 35 from by decide +kernel] at h; exact h
                  refine lv_iconst (v := 0) hx hb dX12_jumps_130 (by decide +kernel) ?_
                  refine lv_goto (tgt := 135) hx hb dX12_jumps_131 (by decide) ?_
                  refine lv_isub hx hb dX12_jumps_135 ?_
                  refine lv_topi (fun x20 ex20 => ?_)
                  have tx20 : x20.toInt = (σ.1 55).toInt - 0 := (v_jumps_16 σ x1 x10 x12 x14 x20 hpre_0 hpre_1 ex1 tx1 ex10 tx10 c11 ex12 tx12 tx14 c15 ex20)
                  refine rp_55 C hP hS wm_212 dX12_jumps_136 (fun H locs hP hS => ?_)
                  refine lv_goto (tgt := 162) hx hb dX12_jumps_139 (by decide) ?_
                  refine lv_iload_n hx hb dX12_jumps_162 rfl (lv_at hl 0 rfl) ?_
                  have hP : RP D cy ad (rS (rS σ 55 x20) 56 (1 : Int32)) H := RP.cong hP (Eq.trans (b := (σ.1 0)) rfl rfl) (Eq.trans (b := (σ.1 1)) rfl rfl) (Eq.trans (b := (σ.2.1 2)) rfl rfl) (Eq.trans (b := (σ.1 3)) rfl rfl) (Eq.trans (b := (σ.2.1 4)) rfl rfl) (Eq.trans (b := (σ.2.1 5)) rfl rfl) (Eq.trans (b := (σ.2.2.1 6)) rfl rfl) (Eq.trans (b := (σ.2.1 7)) rfl rfl) (Eq.trans (b := (σ.1 8)) rfl rfl) (Eq.trans (b := (σ.1 9)) rfl rfl) (Eq.trans (b := (σ.1 10)) rfl rfl) (Eq.trans (b := (σ.2.1 11)) rfl rfl) (Eq.trans (b := (σ.2.2.1 12)) rfl rfl) (Eq.trans (b := (σ.2.1 13)) rfl rfl) (Eq.trans (b := (σ.1 14)) rfl rfl) (Eq.trans (b := (σ.1 15)) rfl rfl) (Eq.trans (b := (σ.1 16)) rfl rfl) (Eq.trans (b := (σ.1 17)) rfl rfl) (Eq.trans (b := (σ.1 18)) rfl rfl) (Eq.trans (b := (σ.1 19)) rfl rfl) (Eq.trans (b := (σ.2.1 20)) rfl rfl) (Eq.trans (b := (σ.2.1 21)) rfl rfl) (Eq.trans (b := (σ.2.1 22)) rfl rfl) (Eq.trans (b := (σ.2.1 23)) rfl rfl) (Eq.trans (b := (σ.2.1 24)) rfl rfl) (Eq.trans (b := (σ.2.1 25)) rfl rfl) (Eq.trans (b := (σ.2.1 26)) rfl rfl) (Eq.trans (b := (σ.2.1 27)) rfl rfl) (Eq.trans (b := (σ.2.1 28)) rfl rfl) (Eq.trans (b := (σ.1 29)) rfl rfl) (Eq.trans (b := (σ.2.1 30)) rfl rfl) (Eq.trans (b := (σ.2.1 31)) rfl rfl) (Eq.trans (b := (σ.2.1 32)) rfl rfl) (Eq.trans (b := (σ.1 33)) rfl rfl) (Eq.trans (b := (σ.1 34)) rfl rfl) (Eq.trans (b := (σ.1 35)) rfl rfl) (Eq.trans (b := (σ.2.1 36)) rfl rfl) (Eq.trans (b := (σ.2.1 37)) rfl rfl) (Eq.trans (b := (σ.2.1 38)) rfl rfl) (Eq.trans (b := (σ.2.1 39)) rfl rfl) (Eq.trans (b := (σ.2.1 40)) rfl rfl) (Eq.trans (b := (σ.2.1 41)) rfl rfl) (Eq.trans (b := (σ.2.1 42)) rfl rfl) (Eq.trans (b := (σ.2.1 43)) rfl rfl) (Eq.trans (b := (σ.2.1 44)) rfl rfl) (Eq.trans (b := (σ.2.1 45)) rfl rfl) (Eq.trans (b := (σ.2.1 46)) rfl rfl) (Eq.trans (b := (σ.1 47)) rfl rfl) (Eq.trans (b := (σ.2.1 48)) rfl rfl) (Eq.trans (b := (σ.1 49)) rfl rfl) (Eq.trans (b := (σ.2.1 50)) rfl rfl) (Eq.trans (b := (σ.2.1 51)) rfl rfl) (Eq.trans (b := (σ.2.2.1 52)) rfl rfl) (Eq.trans (b := (σ.2.2.1 53)) rfl rfl) (Eq.trans (b := (σ.2.2.2)) rfl rfl) (Eq.trans (b := x20) rfl rfl) (Eq.trans (b := (1 : Int32)) rfl rfl) (Eq.trans (b := (σ.1 57)) rfl rfl) (Eq.trans (b := (σ.2.1 58)) rfl rfl) (Eq.trans (b := (σ.1 59)) rfl rfl)
                  exact r_retz C ⟨x20, (1 : Int32)⟩ (v_jumps_6  ) ⟨(v_jumps_17 σ k0 x1 x10 x12 x14 x20 hpre_0 hpre_1 hpre_3 ex1 tx1 c2 c7 c8 c9 ex10 tx10 c11 ex12 tx12 c13 tx14 c15 c19 ex20 tx20), (v_jumps_18 σ k0 x1 x10 x12 x14 x20 hpre_0 hpre_1 hpre_2 hpre_3 ex1 tx1 c2 c7 c8 c9 ex10 tx10 c11 ex12 tx12 c13 tx14 c15 c19 ex20 tx20)⟩ hP hS dX12_jumps_163
            · have c13 : k0.toInt = 33 := by have h := z_eq c13; rw [show (33 : Int32).toInt = 33 from by decide +kernel] at h; exact h
              exact absurd (v_jumps_19 k0 hpre_3 c2 c7 c8 c9 c13) id
          · have c11 : x10.toInt = 1 := by have h := z_eq c11; rw [show (1 : Int32).toInt = 1 from by decide +kernel] at h; exact h
            refine lv_aload_n hx hb dX12_jumps_77 rfl (lv_at hl 2 rfl) ?_
            refine rg_56 (v := (σ.1 56)) C hP rfl wm_242 dX12_jumps_78 ?_
            refine lv_goto (tgt := 85) hx hb dX12_jumps_81 (by decide) ?_
            refine rp_56 C hP hS wm_242 dX12_jumps_85 (fun H locs hP hS => ?_)
            refine lv_aload_n hx hb dX12_jumps_88 rfl (lv_at hl 2 rfl) ?_
            refine rg_52 C hP wm_206 dX12_jumps_89 ?_
            refine lv_iload_n hx hb dX12_jumps_92 rfl (lv_at hl 1 rfl) ?_
            refine ra_52 (f := (σ.2.2.1 52)) C hP rfl (v_jumps_20 σ x1 x10 hpre_0 hpre_1 ex1 tx1 ex10 tx10 c11) dX12_jumps_93 (fun x21 ex21 => ?_)
            have tx21 : x21.toInt = ((σ.2.2.1 52) ((σ.1 55).toInt - 1).toNat).toInt := by rw [ex21, clampN, tx1]
            refine lv_iload_n hx hb dX12_jumps_94 rfl (lv_at hl 3 rfl) ?_
            refine lv_bipush (v := 33) hx hb dX12_jumps_95 (by decide +kernel) ?_
            refine lv_icmp_ne (tgt := 104) hx hb dX12_jumps_97 (by decide) (fun c22 => ?_) (fun c22 => ?_)
            · have c22 : ¬ k0.toInt = 33 := by have h := z_ne c22; rw [show (33 : Int32).toInt = 33 from by decide +kernel] at h; exact h
              refine lv_lconst (v := 0) hx hb dX12_jumps_104 rfl ?_
              refine W.lcmp hx hb dX12_jumps_105 ?_
              refine lv_topi (fun x23 ex23 => ?_)
              have tx23 : (x23.toInt = 0 ↔ x21.toInt = 0) ∧ (x23.toInt < 0 ↔ x21.toInt < 0) := z_lcmp ex23 rfl (by decide +kernel)
              refine lv_if_ne (tgt := 113) hx hb dX12_jumps_106 (by decide) (fun c24 => ?_) (fun c24 => ?_)
              · have c24 : ¬ x23.toInt = 0 := by have h := z_ne c24; rw [show (0 : Int32).toInt = 0 from by decide +kernel] at h; exact h
                refine lv_iconst (v := 0) hx hb dX12_jumps_113 (by decide +kernel) ?_
                refine lv_istore_n (lv' := [(3, .int 0), (2, .int x1), (0, .ref (ad 0)), (1, .int k0)]) hx hb dX12_jumps_114 rfl hl (by decide) rfl (fun ls hl => ?_)
                refine lv_aload_n hx hb dX12_jumps_115 rfl (lv_at hl 2 rfl) ?_
                refine lv_dup hx hb dX12_jumps_116 rfl ?_
                refine rg_55 (v := (σ.1 55)) C hP rfl wm_212 dX12_jumps_117 ?_
                refine lv_iload_n hx hb dX12_jumps_120 rfl (lv_at hl 0 rfl) ?_
                refine lv_if_eq (tgt := 134) hx hb dX12_jumps_121 (by decide) (fun _ => ?_) (fun c25 => absurd (by decide +kernel) c25)
                refine lv_iconst (v := 1) hx hb dX12_jumps_134 (by decide +kernel) ?_
                refine lv_isub hx hb dX12_jumps_135 ?_
                refine lv_topi (fun x26 ex26 => ?_)
                have tx26 : x26.toInt = (σ.1 55).toInt - 1 := (v_jumps_21 σ x1 x10 x21 x23 x26 hpre_0 hpre_1 ex1 tx1 ex10 tx10 c11 ex21 tx21 tx23 c24 ex26)
                refine rp_55 C hP hS wm_212 dX12_jumps_136 (fun H locs hP hS => ?_)
                refine lv_goto (tgt := 162) hx hb dX12_jumps_139 (by decide) ?_
                refine lv_iload_n hx hb dX12_jumps_162 rfl (lv_at hl 0 rfl) ?_
                have hP : RP D cy ad (rS (rS σ 55 x26) 56 (σ.1 56)) H := RP.cong hP (Eq.trans (b := (σ.1 0)) rfl rfl) (Eq.trans (b := (σ.1 1)) rfl rfl) (Eq.trans (b := (σ.2.1 2)) rfl rfl) (Eq.trans (b := (σ.1 3)) rfl rfl) (Eq.trans (b := (σ.2.1 4)) rfl rfl) (Eq.trans (b := (σ.2.1 5)) rfl rfl) (Eq.trans (b := (σ.2.2.1 6)) rfl rfl) (Eq.trans (b := (σ.2.1 7)) rfl rfl) (Eq.trans (b := (σ.1 8)) rfl rfl) (Eq.trans (b := (σ.1 9)) rfl rfl) (Eq.trans (b := (σ.1 10)) rfl rfl) (Eq.trans (b := (σ.2.1 11)) rfl rfl) (Eq.trans (b := (σ.2.2.1 12)) rfl rfl) (Eq.trans (b := (σ.2.1 13)) rfl rfl) (Eq.trans (b := (σ.1 14)) rfl rfl) (Eq.trans (b := (σ.1 15)) rfl rfl) (Eq.trans (b := (σ.1 16)) rfl rfl) (Eq.trans (b := (σ.1 17)) rfl rfl) (Eq.trans (b := (σ.1 18)) rfl rfl) (Eq.trans (b := (σ.1 19)) rfl rfl) (Eq.trans (b := (σ.2.1 20)) rfl rfl) (Eq.trans (b := (σ.2.1 21)) rfl rfl) (Eq.trans (b := (σ.2.1 22)) rfl rfl) (Eq.trans (b := (σ.2.1 23)) rfl rfl) (Eq.trans (b := (σ.2.1 24)) rfl rfl) (Eq.trans (b := (σ.2.1 25)) rfl rfl) (Eq.trans (b := (σ.2.1 26)) rfl rfl) (Eq.trans (b := (σ.2.1 27)) rfl rfl) (Eq.trans (b := (σ.2.1 28)) rfl rfl) (Eq.trans (b := (σ.1 29)) rfl rfl) (Eq.trans (b := (σ.2.1 30)) rfl rfl) (Eq.trans (b := (σ.2.1 31)) rfl rfl) (Eq.trans (b := (σ.2.1 32)) rfl rfl) (Eq.trans (b := (σ.1 33)) rfl rfl) (Eq.trans (b := (σ.1 34)) rfl rfl) (Eq.trans (b := (σ.1 35)) rfl rfl) (Eq.trans (b := (σ.2.1 36)) rfl rfl) (Eq.trans (b := (σ.2.1 37)) rfl rfl) (Eq.trans (b := (σ.2.1 38)) rfl rfl) (Eq.trans (b := (σ.2.1 39)) rfl rfl) (Eq.trans (b := (σ.2.1 40)) rfl rfl) (Eq.trans (b := (σ.2.1 41)) rfl rfl) (Eq.trans (b := (σ.2.1 42)) rfl rfl) (Eq.trans (b := (σ.2.1 43)) rfl rfl) (Eq.trans (b := (σ.2.1 44)) rfl rfl) (Eq.trans (b := (σ.2.1 45)) rfl rfl) (Eq.trans (b := (σ.2.1 46)) rfl rfl) (Eq.trans (b := (σ.1 47)) rfl rfl) (Eq.trans (b := (σ.2.1 48)) rfl rfl) (Eq.trans (b := (σ.1 49)) rfl rfl) (Eq.trans (b := (σ.2.1 50)) rfl rfl) (Eq.trans (b := (σ.2.1 51)) rfl rfl) (Eq.trans (b := (σ.2.2.1 52)) rfl rfl) (Eq.trans (b := (σ.2.2.1 53)) rfl rfl) (Eq.trans (b := (σ.2.2.2)) rfl rfl) (Eq.trans (b := x26) rfl rfl) (Eq.trans (b := (σ.1 56)) rfl rfl) (Eq.trans (b := (σ.1 57)) rfl rfl) (Eq.trans (b := (σ.2.1 58)) rfl rfl) (Eq.trans (b := (σ.1 59)) rfl rfl)
                exact r_retz C ⟨x26, (σ.1 56)⟩ (v_jumps_14  ) ⟨(v_jumps_22 σ k0 x1 x10 x21 x23 x26 hpre_0 hpre_1 hpre_2 hpre_3 ex1 tx1 c2 c7 c8 c9 ex10 tx10 c11 ex21 tx21 c22 tx23 c24 ex26 tx26), (v_jumps_23 σ k0 x1 x10 x21 x23 x26 hpre_0 hpre_1 hpre_2 hpre_3 ex1 tx1 c2 c7 c8 c9 ex10 tx10 c11 ex21 tx21 c22 tx23 c24 ex26 tx26)⟩ hP hS dX12_jumps_163
              · have c24 : x23.toInt = 0 := by have h := z_eq c24; rw [show (0 : Int32).toInt = 0 from by decide +kernel] at h; exact h
                refine lv_iconst (v := 1) hx hb dX12_jumps_109 (by decide +kernel) ?_
                refine lv_goto (tgt := 114) hx hb dX12_jumps_110 (by decide) ?_
                refine lv_istore_n (lv' := [(3, .int 1), (2, .int x1), (0, .ref (ad 0)), (1, .int k0)]) hx hb dX12_jumps_114 rfl hl (by decide) rfl (fun ls hl => ?_)
                refine lv_aload_n hx hb dX12_jumps_115 rfl (lv_at hl 2 rfl) ?_
                refine lv_dup hx hb dX12_jumps_116 rfl ?_
                refine rg_55 (v := (σ.1 55)) C hP rfl wm_212 dX12_jumps_117 ?_
                refine lv_iload_n hx hb dX12_jumps_120 rfl (lv_at hl 0 rfl) ?_
                refine lv_if_eq (tgt := 134) hx hb dX12_jumps_121 (by decide) (fun c27 => absurd c27 (by decide +kernel)) (fun _ => ?_)
                refine lv_iload_n hx hb dX12_jumps_124 rfl (lv_at hl 3 rfl) ?_
                refine lv_bipush (v := 35) hx hb dX12_jumps_125 (by decide +kernel) ?_
                refine lv_icmp_eq (tgt := 134) hx hb dX12_jumps_127 (by decide) (fun c28 => ?_) (fun c28 => ?_)
                · have c28 : k0.toInt = 35 := by have h := z_eq c28; rw [show (35 : Int32).toInt = 35 from by decide +kernel] at h; exact h
                  exact absurd (v_jumps_24 k0 hpre_3 c2 c7 c8 c9 c22 c28) id
                · have c28 : ¬ k0.toInt = 35 := by have h := z_ne c28; rw [show (35 : Int32).toInt = 35 from by decide +kernel] at h; exact h
                  refine lv_iconst (v := 0) hx hb dX12_jumps_130 (by decide +kernel) ?_
                  refine lv_goto (tgt := 135) hx hb dX12_jumps_131 (by decide) ?_
                  refine lv_isub hx hb dX12_jumps_135 ?_
                  refine lv_topi (fun x29 ex29 => ?_)
                  have tx29 : x29.toInt = (σ.1 55).toInt - 0 := (v_jumps_25 σ x1 x10 x21 x23 x29 hpre_0 hpre_1 ex1 tx1 ex10 tx10 c11 ex21 tx21 tx23 c24 ex29)
                  refine rp_55 C hP hS wm_212 dX12_jumps_136 (fun H locs hP hS => ?_)
                  refine lv_goto (tgt := 162) hx hb dX12_jumps_139 (by decide) ?_
                  refine lv_iload_n hx hb dX12_jumps_162 rfl (lv_at hl 0 rfl) ?_
                  have hP : RP D cy ad (rS (rS σ 55 x29) 56 (σ.1 56)) H := RP.cong hP (Eq.trans (b := (σ.1 0)) rfl rfl) (Eq.trans (b := (σ.1 1)) rfl rfl) (Eq.trans (b := (σ.2.1 2)) rfl rfl) (Eq.trans (b := (σ.1 3)) rfl rfl) (Eq.trans (b := (σ.2.1 4)) rfl rfl) (Eq.trans (b := (σ.2.1 5)) rfl rfl) (Eq.trans (b := (σ.2.2.1 6)) rfl rfl) (Eq.trans (b := (σ.2.1 7)) rfl rfl) (Eq.trans (b := (σ.1 8)) rfl rfl) (Eq.trans (b := (σ.1 9)) rfl rfl) (Eq.trans (b := (σ.1 10)) rfl rfl) (Eq.trans (b := (σ.2.1 11)) rfl rfl) (Eq.trans (b := (σ.2.2.1 12)) rfl rfl) (Eq.trans (b := (σ.2.1 13)) rfl rfl) (Eq.trans (b := (σ.1 14)) rfl rfl) (Eq.trans (b := (σ.1 15)) rfl rfl) (Eq.trans (b := (σ.1 16)) rfl rfl) (Eq.trans (b := (σ.1 17)) rfl rfl) (Eq.trans (b := (σ.1 18)) rfl rfl) (Eq.trans (b := (σ.1 19)) rfl rfl) (Eq.trans (b := (σ.2.1 20)) rfl rfl) (Eq.trans (b := (σ.2.1 21)) rfl rfl) (Eq.trans (b := (σ.2.1 22)) rfl rfl) (Eq.trans (b := (σ.2.1 23)) rfl rfl) (Eq.trans (b := (σ.2.1 24)) rfl rfl) (Eq.trans (b := (σ.2.1 25)) rfl rfl) (Eq.trans (b := (σ.2.1 26)) rfl rfl) (Eq.trans (b := (σ.2.1 27)) rfl rfl) (Eq.trans (b := (σ.2.1 28)) rfl rfl) (Eq.trans (b := (σ.1 29)) rfl rfl) (Eq.trans (b := (σ.2.1 30)) rfl rfl) (Eq.trans (b := (σ.2.1 31)) rfl rfl) (Eq.trans (b := (σ.2.1 32)) rfl rfl) (Eq.trans (b := (σ.1 33)) rfl rfl) (Eq.trans (b := (σ.1 34)) rfl rfl) (Eq.trans (b := (σ.1 35)) rfl rfl) (Eq.trans (b := (σ.2.1 36)) rfl rfl) (Eq.trans (b := (σ.2.1 37)) rfl rfl) (Eq.trans (b := (σ.2.1 38)) rfl rfl) (Eq.trans (b := (σ.2.1 39)) rfl rfl) (Eq.trans (b := (σ.2.1 40)) rfl rfl) (Eq.trans (b := (σ.2.1 41)) rfl rfl) (Eq.trans (b := (σ.2.1 42)) rfl rfl) (Eq.trans (b := (σ.2.1 43)) rfl rfl) (Eq.trans (b := (σ.2.1 44)) rfl rfl) (Eq.trans (b := (σ.2.1 45)) rfl rfl) (Eq.trans (b := (σ.2.1 46)) rfl rfl) (Eq.trans (b := (σ.1 47)) rfl rfl) (Eq.trans (b := (σ.2.1 48)) rfl rfl) (Eq.trans (b := (σ.1 49)) rfl rfl) (Eq.trans (b := (σ.2.1 50)) rfl rfl) (Eq.trans (b := (σ.2.1 51)) rfl rfl) (Eq.trans (b := (σ.2.2.1 52)) rfl rfl) (Eq.trans (b := (σ.2.2.1 53)) rfl rfl) (Eq.trans (b := (σ.2.2.2)) rfl rfl) (Eq.trans (b := x29) rfl rfl) (Eq.trans (b := (σ.1 56)) rfl rfl) (Eq.trans (b := (σ.1 57)) rfl rfl) (Eq.trans (b := (σ.2.1 58)) rfl rfl) (Eq.trans (b := (σ.1 59)) rfl rfl)
                  exact r_retz C ⟨x29, (σ.1 56)⟩ (v_jumps_6  ) ⟨(v_jumps_26 σ k0 x1 x10 x21 x23 x29 hpre_0 hpre_1 hpre_2 hpre_3 ex1 tx1 c2 c7 c8 c9 ex10 tx10 c11 ex21 tx21 c22 tx23 c24 c28 ex29 tx29), (v_jumps_27 σ k0 x1 x10 x21 x23 x29 hpre_0 hpre_1 hpre_2 hpre_3 ex1 tx1 c2 c7 c8 c9 ex10 tx10 c11 ex21 tx21 c22 tx23 c24 c28 ex29 tx29)⟩ hP hS dX12_jumps_163
            · have c22 : k0.toInt = 33 := by have h := z_eq c22; rw [show (33 : Int32).toInt = 33 from by decide +kernel] at h; exact h
              exact absurd (v_jumps_28 k0 hpre_3 c2 c7 c8 c9 c22) id
        · have c9 : ¬ k0.toInt = 32 := by have h := z_ne c9; rw [show (32 : Int32).toInt = 32 from by decide +kernel] at h; exact h
          refine lv_iload_n hx hb dX12_jumps_54 rfl (lv_at hl 3 rfl) ?_
          refine lv_bipush (v := 33) hx hb dX12_jumps_55 (by decide +kernel) ?_
          refine lv_icmp_eq (tgt := 66) hx hb dX12_jumps_57 (by decide) (fun c30 => ?_) (fun c30 => ?_)
          · have c30 : k0.toInt = 33 := by have h := z_eq c30; rw [show (33 : Int32).toInt = 33 from by decide +kernel] at h; exact h
            refine lv_aload_n hx hb dX12_jumps_66 rfl (lv_at hl 2 rfl) ?_
            refine lv_aload_n hx hb dX12_jumps_67 rfl (lv_at hl 2 rfl) ?_
            refine rg_51 C hP wm_205 dX12_jumps_68 ?_
            refine lv_iload_n hx hb dX12_jumps_71 rfl (lv_at hl 1 rfl) ?_
            refine ra_51 (f := (σ.2.1 51)) C hP rfl (v_jumps_9 σ x1 hpre_0 hpre_1 ex1 tx1) dX12_jumps_72 (fun x31 ex31 => ?_)
            have tx31 : x31.toInt = ((σ.2.1 51) ((σ.1 55).toInt - 1).toNat).toInt := by rw [ex31, clampN, tx1]
            refine lv_iconst (v := 1) hx hb dX12_jumps_73 (by decide +kernel) ?_
            refine lv_icmp_ne (tgt := 84) hx hb dX12_jumps_74 (by decide) (fun c32 => ?_) (fun c32 => ?_)
            · have c32 : ¬ x31.toInt = 1 := by have h := z_ne c32; rw [show (1 : Int32).toInt = 1 from by decide +kernel] at h; exact h
              refine lv_iconst (v := 1) hx hb dX12_jumps_84 (by decide +kernel) ?_
              refine rp_56 C hP hS wm_242 dX12_jumps_85 (fun H locs hP hS => ?_)
              refine lv_aload_n hx hb dX12_jumps_88 rfl (lv_at hl 2 rfl) ?_
              refine rg_52 C hP wm_206 dX12_jumps_89 ?_
              refine lv_iload_n hx hb dX12_jumps_92 rfl (lv_at hl 1 rfl) ?_
              refine ra_52 (f := (σ.2.2.1 52)) C hP rfl (v_jumps_29 σ x1 x31 hpre_0 hpre_1 ex1 tx1 ex31 tx31 c32) dX12_jumps_93 (fun x33 ex33 => ?_)
              have tx33 : x33.toInt = ((σ.2.2.1 52) ((σ.1 55).toInt - 1).toNat).toInt := by rw [ex33, clampN, tx1]
              refine lv_iload_n hx hb dX12_jumps_94 rfl (lv_at hl 3 rfl) ?_
              refine lv_bipush (v := 33) hx hb dX12_jumps_95 (by decide +kernel) ?_
              refine lv_icmp_ne (tgt := 104) hx hb dX12_jumps_97 (by decide) (fun c34 => ?_) (fun c34 => ?_)
              · have c34 : ¬ k0.toInt = 33 := by have h := z_ne c34; rw [show (33 : Int32).toInt = 33 from by decide +kernel] at h; exact h
                exact absurd (v_jumps_30 k0 hpre_3 c2 c7 c8 c9 c30 c34) id
              · have c34 : k0.toInt = 33 := by have h := z_eq c34; rw [show (33 : Int32).toInt = 33 from by decide +kernel] at h; exact h
                refine lv_lconst (v := 1) hx hb dX12_jumps_100 rfl ?_
                refine lv_goto (tgt := 105) hx hb dX12_jumps_101 (by decide) ?_
                refine W.lcmp hx hb dX12_jumps_105 ?_
                refine lv_topi (fun x35 ex35 => ?_)
                have tx35 : (x35.toInt = 0 ↔ x33.toInt = 1) ∧ (x35.toInt < 0 ↔ x33.toInt < 1) := z_lcmp ex35 rfl (by decide +kernel)
                refine lv_if_ne (tgt := 113) hx hb dX12_jumps_106 (by decide) (fun c36 => ?_) (fun c36 => ?_)
                · have c36 : ¬ x35.toInt = 0 := by have h := z_ne c36; rw [show (0 : Int32).toInt = 0 from by decide +kernel] at h; exact h
                  refine lv_iconst (v := 0) hx hb dX12_jumps_113 (by decide +kernel) ?_
                  refine lv_istore_n (lv' := [(3, .int 0), (2, .int x1), (0, .ref (ad 0)), (1, .int k0)]) hx hb dX12_jumps_114 rfl hl (by decide) rfl (fun ls hl => ?_)
                  refine lv_aload_n hx hb dX12_jumps_115 rfl (lv_at hl 2 rfl) ?_
                  refine lv_dup hx hb dX12_jumps_116 rfl ?_
                  refine rg_55 (v := (σ.1 55)) C hP rfl wm_212 dX12_jumps_117 ?_
                  refine lv_iload_n hx hb dX12_jumps_120 rfl (lv_at hl 0 rfl) ?_
                  refine lv_if_eq (tgt := 134) hx hb dX12_jumps_121 (by decide) (fun _ => ?_) (fun c37 => absurd (by decide +kernel) c37)
                  refine lv_iconst (v := 1) hx hb dX12_jumps_134 (by decide +kernel) ?_
                  refine lv_isub hx hb dX12_jumps_135 ?_
                  refine lv_topi (fun x38 ex38 => ?_)
                  have tx38 : x38.toInt = (σ.1 55).toInt - 1 := (v_jumps_31 σ x1 x31 x33 x35 x38 hpre_0 hpre_1 ex1 tx1 ex31 tx31 c32 ex33 tx33 tx35 c36 ex38)
                  refine rp_55 C hP hS wm_212 dX12_jumps_136 (fun H locs hP hS => ?_)
                  refine lv_goto (tgt := 162) hx hb dX12_jumps_139 (by decide) ?_
                  refine lv_iload_n hx hb dX12_jumps_162 rfl (lv_at hl 0 rfl) ?_
                  have hP : RP D cy ad (rS (rS σ 55 x38) 56 (1 : Int32)) H := RP.cong hP (Eq.trans (b := (σ.1 0)) rfl rfl) (Eq.trans (b := (σ.1 1)) rfl rfl) (Eq.trans (b := (σ.2.1 2)) rfl rfl) (Eq.trans (b := (σ.1 3)) rfl rfl) (Eq.trans (b := (σ.2.1 4)) rfl rfl) (Eq.trans (b := (σ.2.1 5)) rfl rfl) (Eq.trans (b := (σ.2.2.1 6)) rfl rfl) (Eq.trans (b := (σ.2.1 7)) rfl rfl) (Eq.trans (b := (σ.1 8)) rfl rfl) (Eq.trans (b := (σ.1 9)) rfl rfl) (Eq.trans (b := (σ.1 10)) rfl rfl) (Eq.trans (b := (σ.2.1 11)) rfl rfl) (Eq.trans (b := (σ.2.2.1 12)) rfl rfl) (Eq.trans (b := (σ.2.1 13)) rfl rfl) (Eq.trans (b := (σ.1 14)) rfl rfl) (Eq.trans (b := (σ.1 15)) rfl rfl) (Eq.trans (b := (σ.1 16)) rfl rfl) (Eq.trans (b := (σ.1 17)) rfl rfl) (Eq.trans (b := (σ.1 18)) rfl rfl) (Eq.trans (b := (σ.1 19)) rfl rfl) (Eq.trans (b := (σ.2.1 20)) rfl rfl) (Eq.trans (b := (σ.2.1 21)) rfl rfl) (Eq.trans (b := (σ.2.1 22)) rfl rfl) (Eq.trans (b := (σ.2.1 23)) rfl rfl) (Eq.trans (b := (σ.2.1 24)) rfl rfl) (Eq.trans (b := (σ.2.1 25)) rfl rfl) (Eq.trans (b := (σ.2.1 26)) rfl rfl) (Eq.trans (b := (σ.2.1 27)) rfl rfl) (Eq.trans (b := (σ.2.1 28)) rfl rfl) (Eq.trans (b := (σ.1 29)) rfl rfl) (Eq.trans (b := (σ.2.1 30)) rfl rfl) (Eq.trans (b := (σ.2.1 31)) rfl rfl) (Eq.trans (b := (σ.2.1 32)) rfl rfl) (Eq.trans (b := (σ.1 33)) rfl rfl) (Eq.trans (b := (σ.1 34)) rfl rfl) (Eq.trans (b := (σ.1 35)) rfl rfl) (Eq.trans (b := (σ.2.1 36)) rfl rfl) (Eq.trans (b := (σ.2.1 37)) rfl rfl) (Eq.trans (b := (σ.2.1 38)) rfl rfl) (Eq.trans (b := (σ.2.1 39)) rfl rfl) (Eq.trans (b := (σ.2.1 40)) rfl rfl) (Eq.trans (b := (σ.2.1 41)) rfl rfl) (Eq.trans (b := (σ.2.1 42)) rfl rfl) (Eq.trans (b := (σ.2.1 43)) rfl rfl) (Eq.trans (b := (σ.2.1 44)) rfl rfl) (Eq.trans (b := (σ.2.1 45)) rfl rfl) (Eq.trans (b := (σ.2.1 46)) rfl rfl) (Eq.trans (b := (σ.1 47)) rfl rfl) (Eq.trans (b := (σ.2.1 48)) rfl rfl) (Eq.trans (b := (σ.1 49)) rfl rfl) (Eq.trans (b := (σ.2.1 50)) rfl rfl) (Eq.trans (b := (σ.2.1 51)) rfl rfl) (Eq.trans (b := (σ.2.2.1 52)) rfl rfl) (Eq.trans (b := (σ.2.2.1 53)) rfl rfl) (Eq.trans (b := (σ.2.2.2)) rfl rfl) (Eq.trans (b := x38) rfl rfl) (Eq.trans (b := (1 : Int32)) rfl rfl) (Eq.trans (b := (σ.1 57)) rfl rfl) (Eq.trans (b := (σ.2.1 58)) rfl rfl) (Eq.trans (b := (σ.1 59)) rfl rfl)
                  exact r_retz C ⟨x38, (1 : Int32)⟩ (v_jumps_14  ) ⟨(v_jumps_32 σ k0 x1 x31 x33 x35 x38 hpre_0 hpre_1 hpre_3 ex1 tx1 c2 c7 c8 c9 c30 ex31 tx31 c32 ex33 tx33 c34 tx35 c36 ex38 tx38), (v_jumps_33 σ k0 x1 x31 x33 x35 x38 hpre_0 hpre_1 hpre_2 hpre_3 ex1 tx1 c2 c7 c8 c9 c30 ex31 tx31 c32 ex33 tx33 c34 tx35 c36 ex38 tx38)⟩ hP hS dX12_jumps_163
                · have c36 : x35.toInt = 0 := by have h := z_eq c36; rw [show (0 : Int32).toInt = 0 from by decide +kernel] at h; exact h
                  refine lv_iconst (v := 1) hx hb dX12_jumps_109 (by decide +kernel) ?_
                  refine lv_goto (tgt := 114) hx hb dX12_jumps_110 (by decide) ?_
                  refine lv_istore_n (lv' := [(3, .int 1), (2, .int x1), (0, .ref (ad 0)), (1, .int k0)]) hx hb dX12_jumps_114 rfl hl (by decide) rfl (fun ls hl => ?_)
                  refine lv_aload_n hx hb dX12_jumps_115 rfl (lv_at hl 2 rfl) ?_
                  refine lv_dup hx hb dX12_jumps_116 rfl ?_
                  refine rg_55 (v := (σ.1 55)) C hP rfl wm_212 dX12_jumps_117 ?_
                  refine lv_iload_n hx hb dX12_jumps_120 rfl (lv_at hl 0 rfl) ?_
                  refine lv_if_eq (tgt := 134) hx hb dX12_jumps_121 (by decide) (fun c39 => absurd c39 (by decide +kernel)) (fun _ => ?_)
                  refine lv_iload_n hx hb dX12_jumps_124 rfl (lv_at hl 3 rfl) ?_
                  refine lv_bipush (v := 35) hx hb dX12_jumps_125 (by decide +kernel) ?_
                  refine lv_icmp_eq (tgt := 134) hx hb dX12_jumps_127 (by decide) (fun c40 => ?_) (fun c40 => ?_)
                  · have c40 : k0.toInt = 35 := by have h := z_eq c40; rw [show (35 : Int32).toInt = 35 from by decide +kernel] at h; exact h
                    exact absurd (v_jumps_34 k0 hpre_3 c2 c7 c8 c9 c30 c34 c40) id
                  · have c40 : ¬ k0.toInt = 35 := by have h := z_ne c40; rw [show (35 : Int32).toInt = 35 from by decide +kernel] at h; exact h
                    refine lv_iconst (v := 0) hx hb dX12_jumps_130 (by decide +kernel) ?_
                    refine lv_goto (tgt := 135) hx hb dX12_jumps_131 (by decide) ?_
                    refine lv_isub hx hb dX12_jumps_135 ?_
                    refine lv_topi (fun x41 ex41 => ?_)
                    have tx41 : x41.toInt = (σ.1 55).toInt - 0 := (v_jumps_35 σ x1 x31 x33 x35 x41 hpre_0 hpre_1 ex1 tx1 ex31 tx31 c32 ex33 tx33 tx35 c36 ex41)
                    refine rp_55 C hP hS wm_212 dX12_jumps_136 (fun H locs hP hS => ?_)
                    refine lv_goto (tgt := 162) hx hb dX12_jumps_139 (by decide) ?_
                    refine lv_iload_n hx hb dX12_jumps_162 rfl (lv_at hl 0 rfl) ?_
                    have hP : RP D cy ad (rS (rS σ 55 x41) 56 (1 : Int32)) H := RP.cong hP (Eq.trans (b := (σ.1 0)) rfl rfl) (Eq.trans (b := (σ.1 1)) rfl rfl) (Eq.trans (b := (σ.2.1 2)) rfl rfl) (Eq.trans (b := (σ.1 3)) rfl rfl) (Eq.trans (b := (σ.2.1 4)) rfl rfl) (Eq.trans (b := (σ.2.1 5)) rfl rfl) (Eq.trans (b := (σ.2.2.1 6)) rfl rfl) (Eq.trans (b := (σ.2.1 7)) rfl rfl) (Eq.trans (b := (σ.1 8)) rfl rfl) (Eq.trans (b := (σ.1 9)) rfl rfl) (Eq.trans (b := (σ.1 10)) rfl rfl) (Eq.trans (b := (σ.2.1 11)) rfl rfl) (Eq.trans (b := (σ.2.2.1 12)) rfl rfl) (Eq.trans (b := (σ.2.1 13)) rfl rfl) (Eq.trans (b := (σ.1 14)) rfl rfl) (Eq.trans (b := (σ.1 15)) rfl rfl) (Eq.trans (b := (σ.1 16)) rfl rfl) (Eq.trans (b := (σ.1 17)) rfl rfl) (Eq.trans (b := (σ.1 18)) rfl rfl) (Eq.trans (b := (σ.1 19)) rfl rfl) (Eq.trans (b := (σ.2.1 20)) rfl rfl) (Eq.trans (b := (σ.2.1 21)) rfl rfl) (Eq.trans (b := (σ.2.1 22)) rfl rfl) (Eq.trans (b := (σ.2.1 23)) rfl rfl) (Eq.trans (b := (σ.2.1 24)) rfl rfl) (Eq.trans (b := (σ.2.1 25)) rfl rfl) (Eq.trans (b := (σ.2.1 26)) rfl rfl) (Eq.trans (b := (σ.2.1 27)) rfl rfl) (Eq.trans (b := (σ.2.1 28)) rfl rfl) (Eq.trans (b := (σ.1 29)) rfl rfl) (Eq.trans (b := (σ.2.1 30)) rfl rfl) (Eq.trans (b := (σ.2.1 31)) rfl rfl) (Eq.trans (b := (σ.2.1 32)) rfl rfl) (Eq.trans (b := (σ.1 33)) rfl rfl) (Eq.trans (b := (σ.1 34)) rfl rfl) (Eq.trans (b := (σ.1 35)) rfl rfl) (Eq.trans (b := (σ.2.1 36)) rfl rfl) (Eq.trans (b := (σ.2.1 37)) rfl rfl) (Eq.trans (b := (σ.2.1 38)) rfl rfl) (Eq.trans (b := (σ.2.1 39)) rfl rfl) (Eq.trans (b := (σ.2.1 40)) rfl rfl) (Eq.trans (b := (σ.2.1 41)) rfl rfl) (Eq.trans (b := (σ.2.1 42)) rfl rfl) (Eq.trans (b := (σ.2.1 43)) rfl rfl) (Eq.trans (b := (σ.2.1 44)) rfl rfl) (Eq.trans (b := (σ.2.1 45)) rfl rfl) (Eq.trans (b := (σ.2.1 46)) rfl rfl) (Eq.trans (b := (σ.1 47)) rfl rfl) (Eq.trans (b := (σ.2.1 48)) rfl rfl) (Eq.trans (b := (σ.1 49)) rfl rfl) (Eq.trans (b := (σ.2.1 50)) rfl rfl) (Eq.trans (b := (σ.2.1 51)) rfl rfl) (Eq.trans (b := (σ.2.2.1 52)) rfl rfl) (Eq.trans (b := (σ.2.2.1 53)) rfl rfl) (Eq.trans (b := (σ.2.2.2)) rfl rfl) (Eq.trans (b := x41) rfl rfl) (Eq.trans (b := (1 : Int32)) rfl rfl) (Eq.trans (b := (σ.1 57)) rfl rfl) (Eq.trans (b := (σ.2.1 58)) rfl rfl) (Eq.trans (b := (σ.1 59)) rfl rfl)
                    exact r_retz C ⟨x41, (1 : Int32)⟩ (v_jumps_6  ) ⟨(v_jumps_36 σ k0 x1 x31 x33 x35 x41 hpre_0 hpre_1 hpre_3 ex1 tx1 c2 c7 c8 c9 c30 ex31 tx31 c32 ex33 tx33 c34 tx35 c36 c40 ex41 tx41), (v_jumps_37 σ k0 x1 x31 x33 x35 x41 hpre_0 hpre_1 hpre_2 hpre_3 ex1 tx1 c2 c7 c8 c9 c30 ex31 tx31 c32 ex33 tx33 c34 tx35 c36 c40 ex41 tx41)⟩ hP hS dX12_jumps_163
            · have c32 : x31.toInt = 1 := by have h := z_eq c32; rw [show (1 : Int32).toInt = 1 from by decide +kernel] at h; exact h
              refine lv_aload_n hx hb dX12_jumps_77 rfl (lv_at hl 2 rfl) ?_
              refine rg_56 (v := (σ.1 56)) C hP rfl wm_242 dX12_jumps_78 ?_
              refine lv_goto (tgt := 85) hx hb dX12_jumps_81 (by decide) ?_
              refine rp_56 C hP hS wm_242 dX12_jumps_85 (fun H locs hP hS => ?_)
              refine lv_aload_n hx hb dX12_jumps_88 rfl (lv_at hl 2 rfl) ?_
              refine rg_52 C hP wm_206 dX12_jumps_89 ?_
              refine lv_iload_n hx hb dX12_jumps_92 rfl (lv_at hl 1 rfl) ?_
              refine ra_52 (f := (σ.2.2.1 52)) C hP rfl (v_jumps_38 σ x1 x31 hpre_0 hpre_1 ex1 tx1 ex31 tx31 c32) dX12_jumps_93 (fun x42 ex42 => ?_)
              have tx42 : x42.toInt = ((σ.2.2.1 52) ((σ.1 55).toInt - 1).toNat).toInt := by rw [ex42, clampN, tx1]
              refine lv_iload_n hx hb dX12_jumps_94 rfl (lv_at hl 3 rfl) ?_
              refine lv_bipush (v := 33) hx hb dX12_jumps_95 (by decide +kernel) ?_
              refine lv_icmp_ne (tgt := 104) hx hb dX12_jumps_97 (by decide) (fun c43 => ?_) (fun c43 => ?_)
              · have c43 : ¬ k0.toInt = 33 := by have h := z_ne c43; rw [show (33 : Int32).toInt = 33 from by decide +kernel] at h; exact h
                exact absurd (v_jumps_39 k0 hpre_3 c2 c7 c8 c9 c30 c43) id
              · have c43 : k0.toInt = 33 := by have h := z_eq c43; rw [show (33 : Int32).toInt = 33 from by decide +kernel] at h; exact h
                refine lv_lconst (v := 1) hx hb dX12_jumps_100 rfl ?_
                refine lv_goto (tgt := 105) hx hb dX12_jumps_101 (by decide) ?_
                refine W.lcmp hx hb dX12_jumps_105 ?_
                refine lv_topi (fun x44 ex44 => ?_)
                have tx44 : (x44.toInt = 0 ↔ x42.toInt = 1) ∧ (x44.toInt < 0 ↔ x42.toInt < 1) := z_lcmp ex44 rfl (by decide +kernel)
                refine lv_if_ne (tgt := 113) hx hb dX12_jumps_106 (by decide) (fun c45 => ?_) (fun c45 => ?_)
                · have c45 : ¬ x44.toInt = 0 := by have h := z_ne c45; rw [show (0 : Int32).toInt = 0 from by decide +kernel] at h; exact h
                  refine lv_iconst (v := 0) hx hb dX12_jumps_113 (by decide +kernel) ?_
                  refine lv_istore_n (lv' := [(3, .int 0), (2, .int x1), (0, .ref (ad 0)), (1, .int k0)]) hx hb dX12_jumps_114 rfl hl (by decide) rfl (fun ls hl => ?_)
                  refine lv_aload_n hx hb dX12_jumps_115 rfl (lv_at hl 2 rfl) ?_
                  refine lv_dup hx hb dX12_jumps_116 rfl ?_
                  refine rg_55 (v := (σ.1 55)) C hP rfl wm_212 dX12_jumps_117 ?_
                  refine lv_iload_n hx hb dX12_jumps_120 rfl (lv_at hl 0 rfl) ?_
                  refine lv_if_eq (tgt := 134) hx hb dX12_jumps_121 (by decide) (fun _ => ?_) (fun c46 => absurd (by decide +kernel) c46)
                  refine lv_iconst (v := 1) hx hb dX12_jumps_134 (by decide +kernel) ?_
                  refine lv_isub hx hb dX12_jumps_135 ?_
                  refine lv_topi (fun x47 ex47 => ?_)
                  have tx47 : x47.toInt = (σ.1 55).toInt - 1 := (v_jumps_40 σ x1 x31 x42 x44 x47 hpre_0 hpre_1 ex1 tx1 ex31 tx31 c32 ex42 tx42 tx44 c45 ex47)
                  refine rp_55 C hP hS wm_212 dX12_jumps_136 (fun H locs hP hS => ?_)
                  refine lv_goto (tgt := 162) hx hb dX12_jumps_139 (by decide) ?_
                  refine lv_iload_n hx hb dX12_jumps_162 rfl (lv_at hl 0 rfl) ?_
                  have hP : RP D cy ad (rS (rS σ 55 x47) 56 (σ.1 56)) H := RP.cong hP (Eq.trans (b := (σ.1 0)) rfl rfl) (Eq.trans (b := (σ.1 1)) rfl rfl) (Eq.trans (b := (σ.2.1 2)) rfl rfl) (Eq.trans (b := (σ.1 3)) rfl rfl) (Eq.trans (b := (σ.2.1 4)) rfl rfl) (Eq.trans (b := (σ.2.1 5)) rfl rfl) (Eq.trans (b := (σ.2.2.1 6)) rfl rfl) (Eq.trans (b := (σ.2.1 7)) rfl rfl) (Eq.trans (b := (σ.1 8)) rfl rfl) (Eq.trans (b := (σ.1 9)) rfl rfl) (Eq.trans (b := (σ.1 10)) rfl rfl) (Eq.trans (b := (σ.2.1 11)) rfl rfl) (Eq.trans (b := (σ.2.2.1 12)) rfl rfl) (Eq.trans (b := (σ.2.1 13)) rfl rfl) (Eq.trans (b := (σ.1 14)) rfl rfl) (Eq.trans (b := (σ.1 15)) rfl rfl) (Eq.trans (b := (σ.1 16)) rfl rfl) (Eq.trans (b := (σ.1 17)) rfl rfl) (Eq.trans (b := (σ.1 18)) rfl rfl) (Eq.trans (b := (σ.1 19)) rfl rfl) (Eq.trans (b := (σ.2.1 20)) rfl rfl) (Eq.trans (b := (σ.2.1 21)) rfl rfl) (Eq.trans (b := (σ.2.1 22)) rfl rfl) (Eq.trans (b := (σ.2.1 23)) rfl rfl) (Eq.trans (b := (σ.2.1 24)) rfl rfl) (Eq.trans (b := (σ.2.1 25)) rfl rfl) (Eq.trans (b := (σ.2.1 26)) rfl rfl) (Eq.trans (b := (σ.2.1 27)) rfl rfl) (Eq.trans (b := (σ.2.1 28)) rfl rfl) (Eq.trans (b := (σ.1 29)) rfl rfl) (Eq.trans (b := (σ.2.1 30)) rfl rfl) (Eq.trans (b := (σ.2.1 31)) rfl rfl) (Eq.trans (b := (σ.2.1 32)) rfl rfl) (Eq.trans (b := (σ.1 33)) rfl rfl) (Eq.trans (b := (σ.1 34)) rfl rfl) (Eq.trans (b := (σ.1 35)) rfl rfl) (Eq.trans (b := (σ.2.1 36)) rfl rfl) (Eq.trans (b := (σ.2.1 37)) rfl rfl) (Eq.trans (b := (σ.2.1 38)) rfl rfl) (Eq.trans (b := (σ.2.1 39)) rfl rfl) (Eq.trans (b := (σ.2.1 40)) rfl rfl) (Eq.trans (b := (σ.2.1 41)) rfl rfl) (Eq.trans (b := (σ.2.1 42)) rfl rfl) (Eq.trans (b := (σ.2.1 43)) rfl rfl) (Eq.trans (b := (σ.2.1 44)) rfl rfl) (Eq.trans (b := (σ.2.1 45)) rfl rfl) (Eq.trans (b := (σ.2.1 46)) rfl rfl) (Eq.trans (b := (σ.1 47)) rfl rfl) (Eq.trans (b := (σ.2.1 48)) rfl rfl) (Eq.trans (b := (σ.1 49)) rfl rfl) (Eq.trans (b := (σ.2.1 50)) rfl rfl) (Eq.trans (b := (σ.2.1 51)) rfl rfl) (Eq.trans (b := (σ.2.2.1 52)) rfl rfl) (Eq.trans (b := (σ.2.2.1 53)) rfl rfl) (Eq.trans (b := (σ.2.2.2)) rfl rfl) (Eq.trans (b := x47) rfl rfl) (Eq.trans (b := (σ.1 56)) rfl rfl) (Eq.trans (b := (σ.1 57)) rfl rfl) (Eq.trans (b := (σ.2.1 58)) rfl rfl) (Eq.trans (b := (σ.1 59)) rfl rfl)
                  exact r_retz C ⟨x47, (σ.1 56)⟩ (v_jumps_14  ) ⟨(v_jumps_41 σ k0 x1 x31 x42 x44 x47 hpre_0 hpre_1 hpre_2 hpre_3 ex1 tx1 c2 c7 c8 c9 c30 ex31 tx31 c32 ex42 tx42 c43 tx44 c45 ex47 tx47), (v_jumps_42 σ k0 x1 x31 x42 x44 x47 hpre_0 hpre_1 hpre_2 hpre_3 ex1 tx1 c2 c7 c8 c9 c30 ex31 tx31 c32 ex42 tx42 c43 tx44 c45 ex47 tx47)⟩ hP hS dX12_jumps_163
                · have c45 : x44.toInt = 0 := by have h := z_eq c45; rw [show (0 : Int32).toInt = 0 from by decide +kernel] at h; exact h
                  refine lv_iconst (v := 1) hx hb dX12_jumps_109 (by decide +kernel) ?_
                  refine lv_goto (tgt := 114) hx hb dX12_jumps_110 (by decide) ?_
                  refine lv_istore_n (lv' := [(3, .int 1), (2, .int x1), (0, .ref (ad 0)), (1, .int k0)]) hx hb dX12_jumps_114 rfl hl (by decide) rfl (fun ls hl => ?_)
                  refine lv_aload_n hx hb dX12_jumps_115 rfl (lv_at hl 2 rfl) ?_
                  refine lv_dup hx hb dX12_jumps_116 rfl ?_
                  refine rg_55 (v := (σ.1 55)) C hP rfl wm_212 dX12_jumps_117 ?_
                  refine lv_iload_n hx hb dX12_jumps_120 rfl (lv_at hl 0 rfl) ?_
                  refine lv_if_eq (tgt := 134) hx hb dX12_jumps_121 (by decide) (fun c48 => absurd c48 (by decide +kernel)) (fun _ => ?_)
                  refine lv_iload_n hx hb dX12_jumps_124 rfl (lv_at hl 3 rfl) ?_
                  refine lv_bipush (v := 35) hx hb dX12_jumps_125 (by decide +kernel) ?_
                  refine lv_icmp_eq (tgt := 134) hx hb dX12_jumps_127 (by decide) (fun c49 => ?_) (fun c49 => ?_)
                  · have c49 : k0.toInt = 35 := by have h := z_eq c49; rw [show (35 : Int32).toInt = 35 from by decide +kernel] at h; exact h
                    exact absurd (v_jumps_43 k0 hpre_3 c2 c7 c8 c9 c30 c43 c49) id
                  · have c49 : ¬ k0.toInt = 35 := by have h := z_ne c49; rw [show (35 : Int32).toInt = 35 from by decide +kernel] at h; exact h
                    refine lv_iconst (v := 0) hx hb dX12_jumps_130 (by decide +kernel) ?_
                    refine lv_goto (tgt := 135) hx hb dX12_jumps_131 (by decide) ?_
                    refine lv_isub hx hb dX12_jumps_135 ?_
                    refine lv_topi (fun x50 ex50 => ?_)
                    have tx50 : x50.toInt = (σ.1 55).toInt - 0 := (v_jumps_44 σ x1 x31 x42 x44 x50 hpre_0 hpre_1 ex1 tx1 ex31 tx31 c32 ex42 tx42 tx44 c45 ex50)
                    refine rp_55 C hP hS wm_212 dX12_jumps_136 (fun H locs hP hS => ?_)
                    refine lv_goto (tgt := 162) hx hb dX12_jumps_139 (by decide) ?_
                    refine lv_iload_n hx hb dX12_jumps_162 rfl (lv_at hl 0 rfl) ?_
                    have hP : RP D cy ad (rS (rS σ 55 x50) 56 (σ.1 56)) H := RP.cong hP (Eq.trans (b := (σ.1 0)) rfl rfl) (Eq.trans (b := (σ.1 1)) rfl rfl) (Eq.trans (b := (σ.2.1 2)) rfl rfl) (Eq.trans (b := (σ.1 3)) rfl rfl) (Eq.trans (b := (σ.2.1 4)) rfl rfl) (Eq.trans (b := (σ.2.1 5)) rfl rfl) (Eq.trans (b := (σ.2.2.1 6)) rfl rfl) (Eq.trans (b := (σ.2.1 7)) rfl rfl) (Eq.trans (b := (σ.1 8)) rfl rfl) (Eq.trans (b := (σ.1 9)) rfl rfl) (Eq.trans (b := (σ.1 10)) rfl rfl) (Eq.trans (b := (σ.2.1 11)) rfl rfl) (Eq.trans (b := (σ.2.2.1 12)) rfl rfl) (Eq.trans (b := (σ.2.1 13)) rfl rfl) (Eq.trans (b := (σ.1 14)) rfl rfl) (Eq.trans (b := (σ.1 15)) rfl rfl) (Eq.trans (b := (σ.1 16)) rfl rfl) (Eq.trans (b := (σ.1 17)) rfl rfl) (Eq.trans (b := (σ.1 18)) rfl rfl) (Eq.trans (b := (σ.1 19)) rfl rfl) (Eq.trans (b := (σ.2.1 20)) rfl rfl) (Eq.trans (b := (σ.2.1 21)) rfl rfl) (Eq.trans (b := (σ.2.1 22)) rfl rfl) (Eq.trans (b := (σ.2.1 23)) rfl rfl) (Eq.trans (b := (σ.2.1 24)) rfl rfl) (Eq.trans (b := (σ.2.1 25)) rfl rfl) (Eq.trans (b := (σ.2.1 26)) rfl rfl) (Eq.trans (b := (σ.2.1 27)) rfl rfl) (Eq.trans (b := (σ.2.1 28)) rfl rfl) (Eq.trans (b := (σ.1 29)) rfl rfl) (Eq.trans (b := (σ.2.1 30)) rfl rfl) (Eq.trans (b := (σ.2.1 31)) rfl rfl) (Eq.trans (b := (σ.2.1 32)) rfl rfl) (Eq.trans (b := (σ.1 33)) rfl rfl) (Eq.trans (b := (σ.1 34)) rfl rfl) (Eq.trans (b := (σ.1 35)) rfl rfl) (Eq.trans (b := (σ.2.1 36)) rfl rfl) (Eq.trans (b := (σ.2.1 37)) rfl rfl) (Eq.trans (b := (σ.2.1 38)) rfl rfl) (Eq.trans (b := (σ.2.1 39)) rfl rfl) (Eq.trans (b := (σ.2.1 40)) rfl rfl) (Eq.trans (b := (σ.2.1 41)) rfl rfl) (Eq.trans (b := (σ.2.1 42)) rfl rfl) (Eq.trans (b := (σ.2.1 43)) rfl rfl) (Eq.trans (b := (σ.2.1 44)) rfl rfl) (Eq.trans (b := (σ.2.1 45)) rfl rfl) (Eq.trans (b := (σ.2.1 46)) rfl rfl) (Eq.trans (b := (σ.1 47)) rfl rfl) (Eq.trans (b := (σ.2.1 48)) rfl rfl) (Eq.trans (b := (σ.1 49)) rfl rfl) (Eq.trans (b := (σ.2.1 50)) rfl rfl) (Eq.trans (b := (σ.2.1 51)) rfl rfl) (Eq.trans (b := (σ.2.2.1 52)) rfl rfl) (Eq.trans (b := (σ.2.2.1 53)) rfl rfl) (Eq.trans (b := (σ.2.2.2)) rfl rfl) (Eq.trans (b := x50) rfl rfl) (Eq.trans (b := (σ.1 56)) rfl rfl) (Eq.trans (b := (σ.1 57)) rfl rfl) (Eq.trans (b := (σ.2.1 58)) rfl rfl) (Eq.trans (b := (σ.1 59)) rfl rfl)
                    exact r_retz C ⟨x50, (σ.1 56)⟩ (v_jumps_6  ) ⟨(v_jumps_45 σ k0 x1 x31 x42 x44 x50 hpre_0 hpre_1 hpre_2 hpre_3 ex1 tx1 c2 c7 c8 c9 c30 ex31 tx31 c32 ex42 tx42 c43 tx44 c45 c49 ex50 tx50), (v_jumps_46 σ k0 x1 x31 x42 x44 x50 hpre_0 hpre_1 hpre_2 hpre_3 ex1 tx1 c2 c7 c8 c9 c30 ex31 tx31 c32 ex42 tx42 c43 tx44 c45 c49 ex50 tx50)⟩ hP hS dX12_jumps_163
          · have c30 : ¬ k0.toInt = 33 := by have h := z_ne c30; rw [show (33 : Int32).toInt = 33 from by decide +kernel] at h; exact h
            refine lv_iload_n hx hb dX12_jumps_60 rfl (lv_at hl 3 rfl) ?_
            refine lv_bipush (v := 35) hx hb dX12_jumps_61 (by decide +kernel) ?_
            refine lv_icmp_ne (tgt := 142) hx hb dX12_jumps_63 (by decide) (fun c51 => ?_) (fun c51 => ?_)
            · have c51 : ¬ k0.toInt = 35 := by have h := z_ne c51; rw [show (35 : Int32).toInt = 35 from by decide +kernel] at h; exact h
              refine lv_iload_n hx hb dX12_jumps_142 rfl (lv_at hl 3 rfl) ?_
              refine lv_bipush (v := 37) hx hb dX12_jumps_143 (by decide +kernel) ?_
              refine lv_icmp_ne (tgt := 162) hx hb dX12_jumps_145 (by decide) (fun c52 => ?_) (fun c52 => ?_)
              · have c52 : ¬ k0.toInt = 37 := by have h := z_ne c52; rw [show (37 : Int32).toInt = 37 from by decide +kernel] at h; exact h
                refine lv_iload_n hx hb dX12_jumps_162 rfl (lv_at hl 0 rfl) ?_
                have hP : RP D cy ad (rS (rS σ 55 (σ.1 55)) 56 (σ.1 56)) s.heap := RP.cong hP (Eq.trans (b := (σ.1 0)) rfl rfl) (Eq.trans (b := (σ.1 1)) rfl rfl) (Eq.trans (b := (σ.2.1 2)) rfl rfl) (Eq.trans (b := (σ.1 3)) rfl rfl) (Eq.trans (b := (σ.2.1 4)) rfl rfl) (Eq.trans (b := (σ.2.1 5)) rfl rfl) (Eq.trans (b := (σ.2.2.1 6)) rfl rfl) (Eq.trans (b := (σ.2.1 7)) rfl rfl) (Eq.trans (b := (σ.1 8)) rfl rfl) (Eq.trans (b := (σ.1 9)) rfl rfl) (Eq.trans (b := (σ.1 10)) rfl rfl) (Eq.trans (b := (σ.2.1 11)) rfl rfl) (Eq.trans (b := (σ.2.2.1 12)) rfl rfl) (Eq.trans (b := (σ.2.1 13)) rfl rfl) (Eq.trans (b := (σ.1 14)) rfl rfl) (Eq.trans (b := (σ.1 15)) rfl rfl) (Eq.trans (b := (σ.1 16)) rfl rfl) (Eq.trans (b := (σ.1 17)) rfl rfl) (Eq.trans (b := (σ.1 18)) rfl rfl) (Eq.trans (b := (σ.1 19)) rfl rfl) (Eq.trans (b := (σ.2.1 20)) rfl rfl) (Eq.trans (b := (σ.2.1 21)) rfl rfl) (Eq.trans (b := (σ.2.1 22)) rfl rfl) (Eq.trans (b := (σ.2.1 23)) rfl rfl) (Eq.trans (b := (σ.2.1 24)) rfl rfl) (Eq.trans (b := (σ.2.1 25)) rfl rfl) (Eq.trans (b := (σ.2.1 26)) rfl rfl) (Eq.trans (b := (σ.2.1 27)) rfl rfl) (Eq.trans (b := (σ.2.1 28)) rfl rfl) (Eq.trans (b := (σ.1 29)) rfl rfl) (Eq.trans (b := (σ.2.1 30)) rfl rfl) (Eq.trans (b := (σ.2.1 31)) rfl rfl) (Eq.trans (b := (σ.2.1 32)) rfl rfl) (Eq.trans (b := (σ.1 33)) rfl rfl) (Eq.trans (b := (σ.1 34)) rfl rfl) (Eq.trans (b := (σ.1 35)) rfl rfl) (Eq.trans (b := (σ.2.1 36)) rfl rfl) (Eq.trans (b := (σ.2.1 37)) rfl rfl) (Eq.trans (b := (σ.2.1 38)) rfl rfl) (Eq.trans (b := (σ.2.1 39)) rfl rfl) (Eq.trans (b := (σ.2.1 40)) rfl rfl) (Eq.trans (b := (σ.2.1 41)) rfl rfl) (Eq.trans (b := (σ.2.1 42)) rfl rfl) (Eq.trans (b := (σ.2.1 43)) rfl rfl) (Eq.trans (b := (σ.2.1 44)) rfl rfl) (Eq.trans (b := (σ.2.1 45)) rfl rfl) (Eq.trans (b := (σ.2.1 46)) rfl rfl) (Eq.trans (b := (σ.1 47)) rfl rfl) (Eq.trans (b := (σ.2.1 48)) rfl rfl) (Eq.trans (b := (σ.1 49)) rfl rfl) (Eq.trans (b := (σ.2.1 50)) rfl rfl) (Eq.trans (b := (σ.2.1 51)) rfl rfl) (Eq.trans (b := (σ.2.2.1 52)) rfl rfl) (Eq.trans (b := (σ.2.2.1 53)) rfl rfl) (Eq.trans (b := (σ.2.2.2)) rfl rfl) (Eq.trans (b := (σ.1 55)) rfl rfl) (Eq.trans (b := (σ.1 56)) rfl rfl) (Eq.trans (b := (σ.1 57)) rfl rfl) (Eq.trans (b := (σ.2.1 58)) rfl rfl) (Eq.trans (b := (σ.1 59)) rfl rfl)
                exact r_retz C ⟨(σ.1 55), (σ.1 56)⟩ (v_jumps_14  ) ⟨(v_jumps_47 σ k0 x1 hpre_0 hpre_1 hpre_2 hpre_3 ex1 tx1 c2 c7 c8 c9 c30 c51 c52), (v_jumps_48 σ k0 x1 hpre_0 hpre_1 hpre_2 hpre_3 ex1 tx1 c2 c7 c8 c9 c30 c51 c52)⟩ hP hS dX12_jumps_163
              · have c52 : k0.toInt = 37 := by have h := z_eq c52; rw [show (37 : Int32).toInt = 37 from by decide +kernel] at h; exact h
                exact absurd (v_jumps_49 k0 hpre_3 c2 c7 c8 c9 c30 c51 c52) id
            · have c51 : k0.toInt = 35 := by have h := z_eq c51; rw [show (35 : Int32).toInt = 35 from by decide +kernel] at h; exact h
              refine lv_aload_n hx hb dX12_jumps_66 rfl (lv_at hl 2 rfl) ?_
              refine lv_aload_n hx hb dX12_jumps_67 rfl (lv_at hl 2 rfl) ?_
              refine rg_51 C hP wm_205 dX12_jumps_68 ?_
              refine lv_iload_n hx hb dX12_jumps_71 rfl (lv_at hl 1 rfl) ?_
              refine ra_51 (f := (σ.2.1 51)) C hP rfl (v_jumps_9 σ x1 hpre_0 hpre_1 ex1 tx1) dX12_jumps_72 (fun x53 ex53 => ?_)
              have tx53 : x53.toInt = ((σ.2.1 51) ((σ.1 55).toInt - 1).toNat).toInt := by rw [ex53, clampN, tx1]
              refine lv_iconst (v := 1) hx hb dX12_jumps_73 (by decide +kernel) ?_
              refine lv_icmp_ne (tgt := 84) hx hb dX12_jumps_74 (by decide) (fun c54 => ?_) (fun c54 => ?_)
              · have c54 : ¬ x53.toInt = 1 := by have h := z_ne c54; rw [show (1 : Int32).toInt = 1 from by decide +kernel] at h; exact h
                refine lv_iconst (v := 1) hx hb dX12_jumps_84 (by decide +kernel) ?_
                refine rp_56 C hP hS wm_242 dX12_jumps_85 (fun H locs hP hS => ?_)
                refine lv_aload_n hx hb dX12_jumps_88 rfl (lv_at hl 2 rfl) ?_
                refine rg_52 C hP wm_206 dX12_jumps_89 ?_
                refine lv_iload_n hx hb dX12_jumps_92 rfl (lv_at hl 1 rfl) ?_
                refine ra_52 (f := (σ.2.2.1 52)) C hP rfl (v_jumps_50 σ x1 x53 hpre_0 hpre_1 ex1 tx1 ex53 tx53 c54) dX12_jumps_93 (fun x55 ex55 => ?_)
                have tx55 : x55.toInt = ((σ.2.2.1 52) ((σ.1 55).toInt - 1).toNat).toInt := by rw [ex55, clampN, tx1]
                refine lv_iload_n hx hb dX12_jumps_94 rfl (lv_at hl 3 rfl) ?_
                refine lv_bipush (v := 33) hx hb dX12_jumps_95 (by decide +kernel) ?_
                refine lv_icmp_ne (tgt := 104) hx hb dX12_jumps_97 (by decide) (fun c56 => ?_) (fun c56 => ?_)
                · have c56 : ¬ k0.toInt = 33 := by have h := z_ne c56; rw [show (33 : Int32).toInt = 33 from by decide +kernel] at h; exact h
                  refine lv_lconst (v := 0) hx hb dX12_jumps_104 rfl ?_
                  refine W.lcmp hx hb dX12_jumps_105 ?_
                  refine lv_topi (fun x57 ex57 => ?_)
                  have tx57 : (x57.toInt = 0 ↔ x55.toInt = 0) ∧ (x57.toInt < 0 ↔ x55.toInt < 0) := z_lcmp ex57 rfl (by decide +kernel)
                  refine lv_if_ne (tgt := 113) hx hb dX12_jumps_106 (by decide) (fun c58 => ?_) (fun c58 => ?_)
                  · have c58 : ¬ x57.toInt = 0 := by have h := z_ne c58; rw [show (0 : Int32).toInt = 0 from by decide +kernel] at h; exact h
                    refine lv_iconst (v := 0) hx hb dX12_jumps_113 (by decide +kernel) ?_
                    refine lv_istore_n (lv' := [(3, .int 0), (2, .int x1), (0, .ref (ad 0)), (1, .int k0)]) hx hb dX12_jumps_114 rfl hl (by decide) rfl (fun ls hl => ?_)
                    refine lv_aload_n hx hb dX12_jumps_115 rfl (lv_at hl 2 rfl) ?_
                    refine lv_dup hx hb dX12_jumps_116 rfl ?_
                    refine rg_55 (v := (σ.1 55)) C hP rfl wm_212 dX12_jumps_117 ?_
                    refine lv_iload_n hx hb dX12_jumps_120 rfl (lv_at hl 0 rfl) ?_
                    refine lv_if_eq (tgt := 134) hx hb dX12_jumps_121 (by decide) (fun _ => ?_) (fun c59 => absurd (by decide +kernel) c59)
                    refine lv_iconst (v := 1) hx hb dX12_jumps_134 (by decide +kernel) ?_
                    refine lv_isub hx hb dX12_jumps_135 ?_
                    refine lv_topi (fun x60 ex60 => ?_)
                    have tx60 : x60.toInt = (σ.1 55).toInt - 1 := (v_jumps_51 σ x1 x53 x55 x57 x60 hpre_0 hpre_1 ex1 tx1 ex53 tx53 c54 ex55 tx55 tx57 c58 ex60)
                    refine rp_55 C hP hS wm_212 dX12_jumps_136 (fun H locs hP hS => ?_)
                    refine lv_goto (tgt := 162) hx hb dX12_jumps_139 (by decide) ?_
                    refine lv_iload_n hx hb dX12_jumps_162 rfl (lv_at hl 0 rfl) ?_
                    have hP : RP D cy ad (rS (rS σ 55 x60) 56 (1 : Int32)) H := RP.cong hP (Eq.trans (b := (σ.1 0)) rfl rfl) (Eq.trans (b := (σ.1 1)) rfl rfl) (Eq.trans (b := (σ.2.1 2)) rfl rfl) (Eq.trans (b := (σ.1 3)) rfl rfl) (Eq.trans (b := (σ.2.1 4)) rfl rfl) (Eq.trans (b := (σ.2.1 5)) rfl rfl) (Eq.trans (b := (σ.2.2.1 6)) rfl rfl) (Eq.trans (b := (σ.2.1 7)) rfl rfl) (Eq.trans (b := (σ.1 8)) rfl rfl) (Eq.trans (b := (σ.1 9)) rfl rfl) (Eq.trans (b := (σ.1 10)) rfl rfl) (Eq.trans (b := (σ.2.1 11)) rfl rfl) (Eq.trans (b := (σ.2.2.1 12)) rfl rfl) (Eq.trans (b := (σ.2.1 13)) rfl rfl) (Eq.trans (b := (σ.1 14)) rfl rfl) (Eq.trans (b := (σ.1 15)) rfl rfl) (Eq.trans (b := (σ.1 16)) rfl rfl) (Eq.trans (b := (σ.1 17)) rfl rfl) (Eq.trans (b := (σ.1 18)) rfl rfl) (Eq.trans (b := (σ.1 19)) rfl rfl) (Eq.trans (b := (σ.2.1 20)) rfl rfl) (Eq.trans (b := (σ.2.1 21)) rfl rfl) (Eq.trans (b := (σ.2.1 22)) rfl rfl) (Eq.trans (b := (σ.2.1 23)) rfl rfl) (Eq.trans (b := (σ.2.1 24)) rfl rfl) (Eq.trans (b := (σ.2.1 25)) rfl rfl) (Eq.trans (b := (σ.2.1 26)) rfl rfl) (Eq.trans (b := (σ.2.1 27)) rfl rfl) (Eq.trans (b := (σ.2.1 28)) rfl rfl) (Eq.trans (b := (σ.1 29)) rfl rfl) (Eq.trans (b := (σ.2.1 30)) rfl rfl) (Eq.trans (b := (σ.2.1 31)) rfl rfl) (Eq.trans (b := (σ.2.1 32)) rfl rfl) (Eq.trans (b := (σ.1 33)) rfl rfl) (Eq.trans (b := (σ.1 34)) rfl rfl) (Eq.trans (b := (σ.1 35)) rfl rfl) (Eq.trans (b := (σ.2.1 36)) rfl rfl) (Eq.trans (b := (σ.2.1 37)) rfl rfl) (Eq.trans (b := (σ.2.1 38)) rfl rfl) (Eq.trans (b := (σ.2.1 39)) rfl rfl) (Eq.trans (b := (σ.2.1 40)) rfl rfl) (Eq.trans (b := (σ.2.1 41)) rfl rfl) (Eq.trans (b := (σ.2.1 42)) rfl rfl) (Eq.trans (b := (σ.2.1 43)) rfl rfl) (Eq.trans (b := (σ.2.1 44)) rfl rfl) (Eq.trans (b := (σ.2.1 45)) rfl rfl) (Eq.trans (b := (σ.2.1 46)) rfl rfl) (Eq.trans (b := (σ.1 47)) rfl rfl) (Eq.trans (b := (σ.2.1 48)) rfl rfl) (Eq.trans (b := (σ.1 49)) rfl rfl) (Eq.trans (b := (σ.2.1 50)) rfl rfl) (Eq.trans (b := (σ.2.1 51)) rfl rfl) (Eq.trans (b := (σ.2.2.1 52)) rfl rfl) (Eq.trans (b := (σ.2.2.1 53)) rfl rfl) (Eq.trans (b := (σ.2.2.2)) rfl rfl) (Eq.trans (b := x60) rfl rfl) (Eq.trans (b := (1 : Int32)) rfl rfl) (Eq.trans (b := (σ.1 57)) rfl rfl) (Eq.trans (b := (σ.2.1 58)) rfl rfl) (Eq.trans (b := (σ.1 59)) rfl rfl)
                    exact r_retz C ⟨x60, (1 : Int32)⟩ (v_jumps_14  ) ⟨(v_jumps_52 σ k0 x1 x53 x55 x57 x60 hpre_0 hpre_1 hpre_3 ex1 tx1 c2 c7 c8 c9 c30 c51 ex53 tx53 c54 ex55 tx55 c56 tx57 c58 ex60 tx60), (v_jumps_53 σ k0 x1 x53 x55 x57 x60 hpre_0 hpre_1 hpre_2 hpre_3 ex1 tx1 c2 c7 c8 c9 c30 c51 ex53 tx53 c54 ex55 tx55 c56 tx57 c58 ex60 tx60)⟩ hP hS dX12_jumps_163
                  · have c58 : x57.toInt = 0 := by have h := z_eq c58; rw [show (0 : Int32).toInt = 0 from by decide +kernel] at h; exact h
                    refine lv_iconst (v := 1) hx hb dX12_jumps_109 (by decide +kernel) ?_
                    refine lv_goto (tgt := 114) hx hb dX12_jumps_110 (by decide) ?_
                    refine lv_istore_n (lv' := [(3, .int 1), (2, .int x1), (0, .ref (ad 0)), (1, .int k0)]) hx hb dX12_jumps_114 rfl hl (by decide) rfl (fun ls hl => ?_)
                    refine lv_aload_n hx hb dX12_jumps_115 rfl (lv_at hl 2 rfl) ?_
                    refine lv_dup hx hb dX12_jumps_116 rfl ?_
                    refine rg_55 (v := (σ.1 55)) C hP rfl wm_212 dX12_jumps_117 ?_
                    refine lv_iload_n hx hb dX12_jumps_120 rfl (lv_at hl 0 rfl) ?_
                    refine lv_if_eq (tgt := 134) hx hb dX12_jumps_121 (by decide) (fun c61 => absurd c61 (by decide +kernel)) (fun _ => ?_)
                    refine lv_iload_n hx hb dX12_jumps_124 rfl (lv_at hl 3 rfl) ?_
                    refine lv_bipush (v := 35) hx hb dX12_jumps_125 (by decide +kernel) ?_
                    refine lv_icmp_eq (tgt := 134) hx hb dX12_jumps_127 (by decide) (fun c62 => ?_) (fun c62 => ?_)
                    · have c62 : k0.toInt = 35 := by have h := z_eq c62; rw [show (35 : Int32).toInt = 35 from by decide +kernel] at h; exact h
                      refine lv_iconst (v := 1) hx hb dX12_jumps_134 (by decide +kernel) ?_
                      refine lv_isub hx hb dX12_jumps_135 ?_
                      refine lv_topi (fun x63 ex63 => ?_)
                      have tx63 : x63.toInt = (σ.1 55).toInt - 1 := (v_jumps_54 σ x1 x53 x55 x57 x63 hpre_0 hpre_1 ex1 tx1 ex53 tx53 c54 ex55 tx55 tx57 c58 ex63)
                      refine rp_55 C hP hS wm_212 dX12_jumps_136 (fun H locs hP hS => ?_)
                      refine lv_goto (tgt := 162) hx hb dX12_jumps_139 (by decide) ?_
                      refine lv_iload_n hx hb dX12_jumps_162 rfl (lv_at hl 0 rfl) ?_
                      have hP : RP D cy ad (rS (rS σ 55 x63) 56 (1 : Int32)) H := RP.cong hP (Eq.trans (b := (σ.1 0)) rfl rfl) (Eq.trans (b := (σ.1 1)) rfl rfl) (Eq.trans (b := (σ.2.1 2)) rfl rfl) (Eq.trans (b := (σ.1 3)) rfl rfl) (Eq.trans (b := (σ.2.1 4)) rfl rfl) (Eq.trans (b := (σ.2.1 5)) rfl rfl) (Eq.trans (b := (σ.2.2.1 6)) rfl rfl) (Eq.trans (b := (σ.2.1 7)) rfl rfl) (Eq.trans (b := (σ.1 8)) rfl rfl) (Eq.trans (b := (σ.1 9)) rfl rfl) (Eq.trans (b := (σ.1 10)) rfl rfl) (Eq.trans (b := (σ.2.1 11)) rfl rfl) (Eq.trans (b := (σ.2.2.1 12)) rfl rfl) (Eq.trans (b := (σ.2.1 13)) rfl rfl) (Eq.trans (b := (σ.1 14)) rfl rfl) (Eq.trans (b := (σ.1 15)) rfl rfl) (Eq.trans (b := (σ.1 16)) rfl rfl) (Eq.trans (b := (σ.1 17)) rfl rfl) (Eq.trans (b := (σ.1 18)) rfl rfl) (Eq.trans (b := (σ.1 19)) rfl rfl) (Eq.trans (b := (σ.2.1 20)) rfl rfl) (Eq.trans (b := (σ.2.1 21)) rfl rfl) (Eq.trans (b := (σ.2.1 22)) rfl rfl) (Eq.trans (b := (σ.2.1 23)) rfl rfl) (Eq.trans (b := (σ.2.1 24)) rfl rfl) (Eq.trans (b := (σ.2.1 25)) rfl rfl) (Eq.trans (b := (σ.2.1 26)) rfl rfl) (Eq.trans (b := (σ.2.1 27)) rfl rfl) (Eq.trans (b := (σ.2.1 28)) rfl rfl) (Eq.trans (b := (σ.1 29)) rfl rfl) (Eq.trans (b := (σ.2.1 30)) rfl rfl) (Eq.trans (b := (σ.2.1 31)) rfl rfl) (Eq.trans (b := (σ.2.1 32)) rfl rfl) (Eq.trans (b := (σ.1 33)) rfl rfl) (Eq.trans (b := (σ.1 34)) rfl rfl) (Eq.trans (b := (σ.1 35)) rfl rfl) (Eq.trans (b := (σ.2.1 36)) rfl rfl) (Eq.trans (b := (σ.2.1 37)) rfl rfl) (Eq.trans (b := (σ.2.1 38)) rfl rfl) (Eq.trans (b := (σ.2.1 39)) rfl rfl) (Eq.trans (b := (σ.2.1 40)) rfl rfl) (Eq.trans (b := (σ.2.1 41)) rfl rfl) (Eq.trans (b := (σ.2.1 42)) rfl rfl) (Eq.trans (b := (σ.2.1 43)) rfl rfl) (Eq.trans (b := (σ.2.1 44)) rfl rfl) (Eq.trans (b := (σ.2.1 45)) rfl rfl) (Eq.trans (b := (σ.2.1 46)) rfl rfl) (Eq.trans (b := (σ.1 47)) rfl rfl) (Eq.trans (b := (σ.2.1 48)) rfl rfl) (Eq.trans (b := (σ.1 49)) rfl rfl) (Eq.trans (b := (σ.2.1 50)) rfl rfl) (Eq.trans (b := (σ.2.1 51)) rfl rfl) (Eq.trans (b := (σ.2.2.1 52)) rfl rfl) (Eq.trans (b := (σ.2.2.1 53)) rfl rfl) (Eq.trans (b := (σ.2.2.2)) rfl rfl) (Eq.trans (b := x63) rfl rfl) (Eq.trans (b := (1 : Int32)) rfl rfl) (Eq.trans (b := (σ.1 57)) rfl rfl) (Eq.trans (b := (σ.2.1 58)) rfl rfl) (Eq.trans (b := (σ.1 59)) rfl rfl)
                      exact r_retz C ⟨x63, (1 : Int32)⟩ (v_jumps_6  ) ⟨(v_jumps_55 σ k0 x1 x53 x55 x57 x63 hpre_0 hpre_1 hpre_3 ex1 tx1 c2 c7 c8 c9 c30 c51 ex53 tx53 c54 ex55 tx55 c56 tx57 c58 c62 ex63 tx63), (v_jumps_56 σ k0 x1 x53 x55 x57 x63 hpre_0 hpre_1 hpre_2 hpre_3 ex1 tx1 c2 c7 c8 c9 c30 c51 ex53 tx53 c54 ex55 tx55 c56 tx57 c58 c62 ex63 tx63)⟩ hP hS dX12_jumps_163
                    · have c62 : ¬ k0.toInt = 35 := by have h := z_ne c62; rw [show (35 : Int32).toInt = 35 from by decide +kernel] at h; exact h
                      exact absurd (v_jumps_57 k0 hpre_3 c2 c7 c8 c9 c30 c51 c56 c62) id
                · have c56 : k0.toInt = 33 := by have h := z_eq c56; rw [show (33 : Int32).toInt = 33 from by decide +kernel] at h; exact h
                  exact absurd (v_jumps_58 k0 hpre_3 c2 c7 c8 c9 c30 c51 c56) id
              · have c54 : x53.toInt = 1 := by have h := z_eq c54; rw [show (1 : Int32).toInt = 1 from by decide +kernel] at h; exact h
                refine lv_aload_n hx hb dX12_jumps_77 rfl (lv_at hl 2 rfl) ?_
                refine rg_56 (v := (σ.1 56)) C hP rfl wm_242 dX12_jumps_78 ?_
                refine lv_goto (tgt := 85) hx hb dX12_jumps_81 (by decide) ?_
                refine rp_56 C hP hS wm_242 dX12_jumps_85 (fun H locs hP hS => ?_)
                refine lv_aload_n hx hb dX12_jumps_88 rfl (lv_at hl 2 rfl) ?_
                refine rg_52 C hP wm_206 dX12_jumps_89 ?_
                refine lv_iload_n hx hb dX12_jumps_92 rfl (lv_at hl 1 rfl) ?_
                refine ra_52 (f := (σ.2.2.1 52)) C hP rfl (v_jumps_59 σ x1 x53 hpre_0 hpre_1 ex1 tx1 ex53 tx53 c54) dX12_jumps_93 (fun x64 ex64 => ?_)
                have tx64 : x64.toInt = ((σ.2.2.1 52) ((σ.1 55).toInt - 1).toNat).toInt := by rw [ex64, clampN, tx1]
                refine lv_iload_n hx hb dX12_jumps_94 rfl (lv_at hl 3 rfl) ?_
                refine lv_bipush (v := 33) hx hb dX12_jumps_95 (by decide +kernel) ?_
                refine lv_icmp_ne (tgt := 104) hx hb dX12_jumps_97 (by decide) (fun c65 => ?_) (fun c65 => ?_)
                · have c65 : ¬ k0.toInt = 33 := by have h := z_ne c65; rw [show (33 : Int32).toInt = 33 from by decide +kernel] at h; exact h
                  refine lv_lconst (v := 0) hx hb dX12_jumps_104 rfl ?_
                  refine W.lcmp hx hb dX12_jumps_105 ?_
                  refine lv_topi (fun x66 ex66 => ?_)
                  have tx66 : (x66.toInt = 0 ↔ x64.toInt = 0) ∧ (x66.toInt < 0 ↔ x64.toInt < 0) := z_lcmp ex66 rfl (by decide +kernel)
                  refine lv_if_ne (tgt := 113) hx hb dX12_jumps_106 (by decide) (fun c67 => ?_) (fun c67 => ?_)
                  · have c67 : ¬ x66.toInt = 0 := by have h := z_ne c67; rw [show (0 : Int32).toInt = 0 from by decide +kernel] at h; exact h
                    refine lv_iconst (v := 0) hx hb dX12_jumps_113 (by decide +kernel) ?_
                    refine lv_istore_n (lv' := [(3, .int 0), (2, .int x1), (0, .ref (ad 0)), (1, .int k0)]) hx hb dX12_jumps_114 rfl hl (by decide) rfl (fun ls hl => ?_)
                    refine lv_aload_n hx hb dX12_jumps_115 rfl (lv_at hl 2 rfl) ?_
                    refine lv_dup hx hb dX12_jumps_116 rfl ?_
                    refine rg_55 (v := (σ.1 55)) C hP rfl wm_212 dX12_jumps_117 ?_
                    refine lv_iload_n hx hb dX12_jumps_120 rfl (lv_at hl 0 rfl) ?_
                    refine lv_if_eq (tgt := 134) hx hb dX12_jumps_121 (by decide) (fun _ => ?_) (fun c68 => absurd (by decide +kernel) c68)
                    refine lv_iconst (v := 1) hx hb dX12_jumps_134 (by decide +kernel) ?_
                    refine lv_isub hx hb dX12_jumps_135 ?_
                    refine lv_topi (fun x69 ex69 => ?_)
                    have tx69 : x69.toInt = (σ.1 55).toInt - 1 := (v_jumps_60 σ x1 x53 x64 x66 x69 hpre_0 hpre_1 ex1 tx1 ex53 tx53 c54 ex64 tx64 tx66 c67 ex69)
                    refine rp_55 C hP hS wm_212 dX12_jumps_136 (fun H locs hP hS => ?_)
                    refine lv_goto (tgt := 162) hx hb dX12_jumps_139 (by decide) ?_
                    refine lv_iload_n hx hb dX12_jumps_162 rfl (lv_at hl 0 rfl) ?_
                    have hP : RP D cy ad (rS (rS σ 55 x69) 56 (σ.1 56)) H := RP.cong hP (Eq.trans (b := (σ.1 0)) rfl rfl) (Eq.trans (b := (σ.1 1)) rfl rfl) (Eq.trans (b := (σ.2.1 2)) rfl rfl) (Eq.trans (b := (σ.1 3)) rfl rfl) (Eq.trans (b := (σ.2.1 4)) rfl rfl) (Eq.trans (b := (σ.2.1 5)) rfl rfl) (Eq.trans (b := (σ.2.2.1 6)) rfl rfl) (Eq.trans (b := (σ.2.1 7)) rfl rfl) (Eq.trans (b := (σ.1 8)) rfl rfl) (Eq.trans (b := (σ.1 9)) rfl rfl) (Eq.trans (b := (σ.1 10)) rfl rfl) (Eq.trans (b := (σ.2.1 11)) rfl rfl) (Eq.trans (b := (σ.2.2.1 12)) rfl rfl) (Eq.trans (b := (σ.2.1 13)) rfl rfl) (Eq.trans (b := (σ.1 14)) rfl rfl) (Eq.trans (b := (σ.1 15)) rfl rfl) (Eq.trans (b := (σ.1 16)) rfl rfl) (Eq.trans (b := (σ.1 17)) rfl rfl) (Eq.trans (b := (σ.1 18)) rfl rfl) (Eq.trans (b := (σ.1 19)) rfl rfl) (Eq.trans (b := (σ.2.1 20)) rfl rfl) (Eq.trans (b := (σ.2.1 21)) rfl rfl) (Eq.trans (b := (σ.2.1 22)) rfl rfl) (Eq.trans (b := (σ.2.1 23)) rfl rfl) (Eq.trans (b := (σ.2.1 24)) rfl rfl) (Eq.trans (b := (σ.2.1 25)) rfl rfl) (Eq.trans (b := (σ.2.1 26)) rfl rfl) (Eq.trans (b := (σ.2.1 27)) rfl rfl) (Eq.trans (b := (σ.2.1 28)) rfl rfl) (Eq.trans (b := (σ.1 29)) rfl rfl) (Eq.trans (b := (σ.2.1 30)) rfl rfl) (Eq.trans (b := (σ.2.1 31)) rfl rfl) (Eq.trans (b := (σ.2.1 32)) rfl rfl) (Eq.trans (b := (σ.1 33)) rfl rfl) (Eq.trans (b := (σ.1 34)) rfl rfl) (Eq.trans (b := (σ.1 35)) rfl rfl) (Eq.trans (b := (σ.2.1 36)) rfl rfl) (Eq.trans (b := (σ.2.1 37)) rfl rfl) (Eq.trans (b := (σ.2.1 38)) rfl rfl) (Eq.trans (b := (σ.2.1 39)) rfl rfl) (Eq.trans (b := (σ.2.1 40)) rfl rfl) (Eq.trans (b := (σ.2.1 41)) rfl rfl) (Eq.trans (b := (σ.2.1 42)) rfl rfl) (Eq.trans (b := (σ.2.1 43)) rfl rfl) (Eq.trans (b := (σ.2.1 44)) rfl rfl) (Eq.trans (b := (σ.2.1 45)) rfl rfl) (Eq.trans (b := (σ.2.1 46)) rfl rfl) (Eq.trans (b := (σ.1 47)) rfl rfl) (Eq.trans (b := (σ.2.1 48)) rfl rfl) (Eq.trans (b := (σ.1 49)) rfl rfl) (Eq.trans (b := (σ.2.1 50)) rfl rfl) (Eq.trans (b := (σ.2.1 51)) rfl rfl) (Eq.trans (b := (σ.2.2.1 52)) rfl rfl) (Eq.trans (b := (σ.2.2.1 53)) rfl rfl) (Eq.trans (b := (σ.2.2.2)) rfl rfl) (Eq.trans (b := x69) rfl rfl) (Eq.trans (b := (σ.1 56)) rfl rfl) (Eq.trans (b := (σ.1 57)) rfl rfl) (Eq.trans (b := (σ.2.1 58)) rfl rfl) (Eq.trans (b := (σ.1 59)) rfl rfl)
                    exact r_retz C ⟨x69, (σ.1 56)⟩ (v_jumps_14  ) ⟨(v_jumps_61 σ k0 x1 x53 x64 x66 x69 hpre_0 hpre_1 hpre_2 hpre_3 ex1 tx1 c2 c7 c8 c9 c30 c51 ex53 tx53 c54 ex64 tx64 c65 tx66 c67 ex69 tx69), (v_jumps_62 σ k0 x1 x53 x64 x66 x69 hpre_0 hpre_1 hpre_2 hpre_3 ex1 tx1 c2 c7 c8 c9 c30 c51 ex53 tx53 c54 ex64 tx64 c65 tx66 c67 ex69 tx69)⟩ hP hS dX12_jumps_163
                  · have c67 : x66.toInt = 0 := by have h := z_eq c67; rw [show (0 : Int32).toInt = 0 from by decide +kernel] at h; exact h
                    refine lv_iconst (v := 1) hx hb dX12_jumps_109 (by decide +kernel) ?_
                    refine lv_goto (tgt := 114) hx hb dX12_jumps_110 (by decide) ?_
                    refine lv_istore_n (lv' := [(3, .int 1), (2, .int x1), (0, .ref (ad 0)), (1, .int k0)]) hx hb dX12_jumps_114 rfl hl (by decide) rfl (fun ls hl => ?_)
                    refine lv_aload_n hx hb dX12_jumps_115 rfl (lv_at hl 2 rfl) ?_
                    refine lv_dup hx hb dX12_jumps_116 rfl ?_
                    refine rg_55 (v := (σ.1 55)) C hP rfl wm_212 dX12_jumps_117 ?_
                    refine lv_iload_n hx hb dX12_jumps_120 rfl (lv_at hl 0 rfl) ?_
                    refine lv_if_eq (tgt := 134) hx hb dX12_jumps_121 (by decide) (fun c70 => absurd c70 (by decide +kernel)) (fun _ => ?_)
                    refine lv_iload_n hx hb dX12_jumps_124 rfl (lv_at hl 3 rfl) ?_
                    refine lv_bipush (v := 35) hx hb dX12_jumps_125 (by decide +kernel) ?_
                    refine lv_icmp_eq (tgt := 134) hx hb dX12_jumps_127 (by decide) (fun c71 => ?_) (fun c71 => ?_)
                    · have c71 : k0.toInt = 35 := by have h := z_eq c71; rw [show (35 : Int32).toInt = 35 from by decide +kernel] at h; exact h
                      refine lv_iconst (v := 1) hx hb dX12_jumps_134 (by decide +kernel) ?_
                      refine lv_isub hx hb dX12_jumps_135 ?_
                      refine lv_topi (fun x72 ex72 => ?_)
                      have tx72 : x72.toInt = (σ.1 55).toInt - 1 := (v_jumps_63 σ x1 x53 x64 x66 x72 hpre_0 hpre_1 ex1 tx1 ex53 tx53 c54 ex64 tx64 tx66 c67 ex72)
                      refine rp_55 C hP hS wm_212 dX12_jumps_136 (fun H locs hP hS => ?_)
                      refine lv_goto (tgt := 162) hx hb dX12_jumps_139 (by decide) ?_
                      refine lv_iload_n hx hb dX12_jumps_162 rfl (lv_at hl 0 rfl) ?_
                      have hP : RP D cy ad (rS (rS σ 55 x72) 56 (σ.1 56)) H := RP.cong hP (Eq.trans (b := (σ.1 0)) rfl rfl) (Eq.trans (b := (σ.1 1)) rfl rfl) (Eq.trans (b := (σ.2.1 2)) rfl rfl) (Eq.trans (b := (σ.1 3)) rfl rfl) (Eq.trans (b := (σ.2.1 4)) rfl rfl) (Eq.trans (b := (σ.2.1 5)) rfl rfl) (Eq.trans (b := (σ.2.2.1 6)) rfl rfl) (Eq.trans (b := (σ.2.1 7)) rfl rfl) (Eq.trans (b := (σ.1 8)) rfl rfl) (Eq.trans (b := (σ.1 9)) rfl rfl) (Eq.trans (b := (σ.1 10)) rfl rfl) (Eq.trans (b := (σ.2.1 11)) rfl rfl) (Eq.trans (b := (σ.2.2.1 12)) rfl rfl) (Eq.trans (b := (σ.2.1 13)) rfl rfl) (Eq.trans (b := (σ.1 14)) rfl rfl) (Eq.trans (b := (σ.1 15)) rfl rfl) (Eq.trans (b := (σ.1 16)) rfl rfl) (Eq.trans (b := (σ.1 17)) rfl rfl) (Eq.trans (b := (σ.1 18)) rfl rfl) (Eq.trans (b := (σ.1 19)) rfl rfl) (Eq.trans (b := (σ.2.1 20)) rfl rfl) (Eq.trans (b := (σ.2.1 21)) rfl rfl) (Eq.trans (b := (σ.2.1 22)) rfl rfl) (Eq.trans (b := (σ.2.1 23)) rfl rfl) (Eq.trans (b := (σ.2.1 24)) rfl rfl) (Eq.trans (b := (σ.2.1 25)) rfl rfl) (Eq.trans (b := (σ.2.1 26)) rfl rfl) (Eq.trans (b := (σ.2.1 27)) rfl rfl) (Eq.trans (b := (σ.2.1 28)) rfl rfl) (Eq.trans (b := (σ.1 29)) rfl rfl) (Eq.trans (b := (σ.2.1 30)) rfl rfl) (Eq.trans (b := (σ.2.1 31)) rfl rfl) (Eq.trans (b := (σ.2.1 32)) rfl rfl) (Eq.trans (b := (σ.1 33)) rfl rfl) (Eq.trans (b := (σ.1 34)) rfl rfl) (Eq.trans (b := (σ.1 35)) rfl rfl) (Eq.trans (b := (σ.2.1 36)) rfl rfl) (Eq.trans (b := (σ.2.1 37)) rfl rfl) (Eq.trans (b := (σ.2.1 38)) rfl rfl) (Eq.trans (b := (σ.2.1 39)) rfl rfl) (Eq.trans (b := (σ.2.1 40)) rfl rfl) (Eq.trans (b := (σ.2.1 41)) rfl rfl) (Eq.trans (b := (σ.2.1 42)) rfl rfl) (Eq.trans (b := (σ.2.1 43)) rfl rfl) (Eq.trans (b := (σ.2.1 44)) rfl rfl) (Eq.trans (b := (σ.2.1 45)) rfl rfl) (Eq.trans (b := (σ.2.1 46)) rfl rfl) (Eq.trans (b := (σ.1 47)) rfl rfl) (Eq.trans (b := (σ.2.1 48)) rfl rfl) (Eq.trans (b := (σ.1 49)) rfl rfl) (Eq.trans (b := (σ.2.1 50)) rfl rfl) (Eq.trans (b := (σ.2.1 51)) rfl rfl) (Eq.trans (b := (σ.2.2.1 52)) rfl rfl) (Eq.trans (b := (σ.2.2.1 53)) rfl rfl) (Eq.trans (b := (σ.2.2.2)) rfl rfl) (Eq.trans (b := x72) rfl rfl) (Eq.trans (b := (σ.1 56)) rfl rfl) (Eq.trans (b := (σ.1 57)) rfl rfl) (Eq.trans (b := (σ.2.1 58)) rfl rfl) (Eq.trans (b := (σ.1 59)) rfl rfl)
                      exact r_retz C ⟨x72, (σ.1 56)⟩ (v_jumps_6  ) ⟨(v_jumps_64 σ k0 x1 x53 x64 x66 x72 hpre_0 hpre_1 hpre_2 hpre_3 ex1 tx1 c2 c7 c8 c9 c30 c51 ex53 tx53 c54 ex64 tx64 c65 tx66 c67 c71 ex72 tx72), (v_jumps_65 σ k0 x1 x53 x64 x66 x72 hpre_0 hpre_1 hpre_2 hpre_3 ex1 tx1 c2 c7 c8 c9 c30 c51 ex53 tx53 c54 ex64 tx64 c65 tx66 c67 c71 ex72 tx72)⟩ hP hS dX12_jumps_163
                    · have c71 : ¬ k0.toInt = 35 := by have h := z_ne c71; rw [show (35 : Int32).toInt = 35 from by decide +kernel] at h; exact h
                      exact absurd (v_jumps_66 k0 hpre_3 c2 c7 c8 c9 c30 c51 c65 c71) id
                · have c65 : k0.toInt = 33 := by have h := z_eq c65; rw [show (33 : Int32).toInt = 33 from by decide +kernel] at h; exact h
                  exact absurd (v_jumps_67 k0 hpre_3 c2 c7 c8 c9 c30 c51 c65) id
      · have c8 : k0.toInt = 37 := by have h := z_eq c8; rw [show (37 : Int32).toInt = 37 from by decide +kernel] at h; exact h
        refine lv_aload_n hx hb dX12_jumps_34 rfl (lv_at hl 1 rfl) ?_
        refine lv_iload_n hx hb dX12_jumps_35 rfl (lv_at hl 0 rfl) ?_
        refine r_callVi (As := [.int x1]) (rest := []) C hP hS hl.1 ⟨Nat.zero_le _, Nat.zero_le _⟩ (M_empty l D cy sz0 sa ad σ s.heap.size x1 (v_jumps_68 σ x1 hpre_0 hpre_1 ex1 tx1)) (n := 1) ⟨wm_373, wm_371, by decide +kernel⟩ ⟨wm_374, wm_375, wm_10⟩ rfl rfl (lv_room (Nat.le_of_ble_eq_true rfl)) ⟨Nat.le_of_ble_eq_true rfl, Nat.le_of_ble_eq_true rfl⟩ dX12_jumps_36 (fun r73 u H locs hr73 hP hS => ?_)
        obtain ⟨hr73, hr73y⟩ := hr73
        have hr73y : ∀ v9 : QV, QAT (qH (σ.2.1 36) (σ.2.1 37) (σ.2.1 38) (σ.2.1 39) (σ.2.1 40) (σ.2.1 41) (σ.2.1 42) (σ.2.1 43) (σ.2.1 44) (σ.2.1 45) (σ.2.1 46) (σ.2.1 48)) (σ.1 47).toInt ((σ.2.1 51), (σ.2.2.1 52), (σ.2.2.1 53), (σ.2.2.2)) x1.toNatClampNeg v9 → (r73.toInt = 0 → qEmpty v9 = false) ∧ (¬ r73.toInt = 0 → qEmpty v9 = true) := hr73y
        have hr73 : r73.toInt = 0 ∨ r73.toInt = 1 := hr73
        refine lv_if_ne (tgt := 46) hx hb dX12_jumps_39 (by decide) (fun c74 => ?_) (fun c74 => ?_)
        · have c74 : ¬ r73.toInt = 0 := by have h := z_ne c74; rw [show (0 : Int32).toInt = 0 from by decide +kernel] at h; exact h
          refine lv_iconst (v := 0) hx hb dX12_jumps_46 (by decide +kernel) ?_
          refine lv_istore_n (lv' := [(3, .int 0), (2, .int x1), (0, .ref (ad 0)), (1, .int k0)]) hx hb dX12_jumps_47 rfl hl (by decide) rfl (fun ls hl => ?_)
          refine lv_iload_n hx hb dX12_jumps_48 rfl (lv_at hl 3 rfl) ?_
          refine lv_bipush (v := 32) hx hb dX12_jumps_49 (by decide +kernel) ?_
          refine lv_icmp_eq (tgt := 66) hx hb dX12_jumps_51 (by decide) (fun c75 => ?_) (fun c75 => ?_)
          · have c75 : k0.toInt = 32 := by have h := z_eq c75; rw [show (32 : Int32).toInt = 32 from by decide +kernel] at h; exact h
            exact absurd (v_jumps_69 k0 hpre_3 c2 c7 c8 c75) id
          · have c75 : ¬ k0.toInt = 32 := by have h := z_ne c75; rw [show (32 : Int32).toInt = 32 from by decide +kernel] at h; exact h
            refine lv_iload_n hx hb dX12_jumps_54 rfl (lv_at hl 3 rfl) ?_
            refine lv_bipush (v := 33) hx hb dX12_jumps_55 (by decide +kernel) ?_
            refine lv_icmp_eq (tgt := 66) hx hb dX12_jumps_57 (by decide) (fun c76 => ?_) (fun c76 => ?_)
            · have c76 : k0.toInt = 33 := by have h := z_eq c76; rw [show (33 : Int32).toInt = 33 from by decide +kernel] at h; exact h
              exact absurd (v_jumps_70 k0 hpre_3 c2 c7 c8 c75 c76) id
            · have c76 : ¬ k0.toInt = 33 := by have h := z_ne c76; rw [show (33 : Int32).toInt = 33 from by decide +kernel] at h; exact h
              refine lv_iload_n hx hb dX12_jumps_60 rfl (lv_at hl 3 rfl) ?_
              refine lv_bipush (v := 35) hx hb dX12_jumps_61 (by decide +kernel) ?_
              refine lv_icmp_ne (tgt := 142) hx hb dX12_jumps_63 (by decide) (fun c77 => ?_) (fun c77 => ?_)
              · have c77 : ¬ k0.toInt = 35 := by have h := z_ne c77; rw [show (35 : Int32).toInt = 35 from by decide +kernel] at h; exact h
                refine lv_iload_n hx hb dX12_jumps_142 rfl (lv_at hl 3 rfl) ?_
                refine lv_bipush (v := 37) hx hb dX12_jumps_143 (by decide +kernel) ?_
                refine lv_icmp_ne (tgt := 162) hx hb dX12_jumps_145 (by decide) (fun c78 => ?_) (fun c78 => ?_)
                · have c78 : ¬ k0.toInt = 37 := by have h := z_ne c78; rw [show (37 : Int32).toInt = 37 from by decide +kernel] at h; exact h
                  exact absurd (v_jumps_71 k0 hpre_3 c2 c7 c8 c75 c76 c77 c78) id
                · have c78 : k0.toInt = 37 := by have h := z_eq c78; rw [show (37 : Int32).toInt = 37 from by decide +kernel] at h; exact h
                  refine lv_iload_n hx hb dX12_jumps_148 rfl (lv_at hl 0 rfl) ?_
                  refine lv_if_ne (tgt := 162) hx hb dX12_jumps_149 (by decide) (fun c79 => absurd (by decide +kernel) c79) (fun _ => ?_)
                  refine lv_aload_n hx hb dX12_jumps_152 rfl (lv_at hl 2 rfl) ?_
                  refine lv_dup hx hb dX12_jumps_153 rfl ?_
                  refine rg_55 (v := (σ.1 55)) C hP rfl wm_212 dX12_jumps_154 ?_
                  refine lv_iconst (v := 1) hx hb dX12_jumps_157 (by decide +kernel) ?_
                  refine lv_isub hx hb dX12_jumps_158 ?_
                  refine lv_topi (fun x80 ex80 => ?_)
                  have tx80 : x80.toInt = (σ.1 55).toInt - 1 := (v_jumps_72 σ x1 x80 hpre_0 hpre_1 ex1 tx1 ex80)
                  refine rp_55 C hP hS wm_212 dX12_jumps_159 (fun H locs hP hS => ?_)
                  refine lv_iload_n hx hb dX12_jumps_162 rfl (lv_at hl 0 rfl) ?_
                  have hP : RP D cy ad (rS (rS σ 55 x80) 56 (σ.1 56)) H := RP.cong hP (Eq.trans (b := (σ.1 0)) rfl rfl) (Eq.trans (b := (σ.1 1)) rfl rfl) (Eq.trans (b := (σ.2.1 2)) rfl rfl) (Eq.trans (b := (σ.1 3)) rfl rfl) (Eq.trans (b := (σ.2.1 4)) rfl rfl) (Eq.trans (b := (σ.2.1 5)) rfl rfl) (Eq.trans (b := (σ.2.2.1 6)) rfl rfl) (Eq.trans (b := (σ.2.1 7)) rfl rfl) (Eq.trans (b := (σ.1 8)) rfl rfl) (Eq.trans (b := (σ.1 9)) rfl rfl) (Eq.trans (b := (σ.1 10)) rfl rfl) (Eq.trans (b := (σ.2.1 11)) rfl rfl) (Eq.trans (b := (σ.2.2.1 12)) rfl rfl) (Eq.trans (b := (σ.2.1 13)) rfl rfl) (Eq.trans (b := (σ.1 14)) rfl rfl) (Eq.trans (b := (σ.1 15)) rfl rfl) (Eq.trans (b := (σ.1 16)) rfl rfl) (Eq.trans (b := (σ.1 17)) rfl rfl) (Eq.trans (b := (σ.1 18)) rfl rfl) (Eq.trans (b := (σ.1 19)) rfl rfl) (Eq.trans (b := (σ.2.1 20)) rfl rfl) (Eq.trans (b := (σ.2.1 21)) rfl rfl) (Eq.trans (b := (σ.2.1 22)) rfl rfl) (Eq.trans (b := (σ.2.1 23)) rfl rfl) (Eq.trans (b := (σ.2.1 24)) rfl rfl) (Eq.trans (b := (σ.2.1 25)) rfl rfl) (Eq.trans (b := (σ.2.1 26)) rfl rfl) (Eq.trans (b := (σ.2.1 27)) rfl rfl) (Eq.trans (b := (σ.2.1 28)) rfl rfl) (Eq.trans (b := (σ.1 29)) rfl rfl) (Eq.trans (b := (σ.2.1 30)) rfl rfl) (Eq.trans (b := (σ.2.1 31)) rfl rfl) (Eq.trans (b := (σ.2.1 32)) rfl rfl) (Eq.trans (b := (σ.1 33)) rfl rfl) (Eq.trans (b := (σ.1 34)) rfl rfl) (Eq.trans (b := (σ.1 35)) rfl rfl) (Eq.trans (b := (σ.2.1 36)) rfl rfl) (Eq.trans (b := (σ.2.1 37)) rfl rfl) (Eq.trans (b := (σ.2.1 38)) rfl rfl) (Eq.trans (b := (σ.2.1 39)) rfl rfl) (Eq.trans (b := (σ.2.1 40)) rfl rfl) (Eq.trans (b := (σ.2.1 41)) rfl rfl) (Eq.trans (b := (σ.2.1 42)) rfl rfl) (Eq.trans (b := (σ.2.1 43)) rfl rfl) (Eq.trans (b := (σ.2.1 44)) rfl rfl) (Eq.trans (b := (σ.2.1 45)) rfl rfl) (Eq.trans (b := (σ.2.1 46)) rfl rfl) (Eq.trans (b := (σ.1 47)) rfl rfl) (Eq.trans (b := (σ.2.1 48)) rfl rfl) (Eq.trans (b := (σ.1 49)) rfl rfl) (Eq.trans (b := (σ.2.1 50)) rfl rfl) (Eq.trans (b := (σ.2.1 51)) rfl rfl) (Eq.trans (b := (σ.2.2.1 52)) rfl rfl) (Eq.trans (b := (σ.2.2.1 53)) rfl rfl) (Eq.trans (b := (σ.2.2.2)) rfl rfl) (Eq.trans (b := x80) rfl rfl) (Eq.trans (b := (σ.1 56)) rfl rfl) (Eq.trans (b := (σ.1 57)) rfl rfl) (Eq.trans (b := (σ.2.1 58)) rfl rfl) (Eq.trans (b := (σ.1 59)) rfl rfl)
                  exact r_retz C ⟨x80, (σ.1 56)⟩ (v_jumps_14  ) ⟨(v_jumps_73 σ k0 x1 x80 hpre_0 hpre_1 hpre_2 hpre_3 ex1 tx1 c2 c7 c8 c75 c76 c77 c78 ex80 tx80), (v_jumps_74 σ k0 x1 r73 x80 hpre_0 hpre_1 hpre_2 hpre_3 ex1 tx1 c2 c7 c8 hr73y hr73 c74 c75 c76 c77 c78 ex80 tx80)⟩ hP hS dX12_jumps_163
              · have c77 : k0.toInt = 35 := by have h := z_eq c77; rw [show (35 : Int32).toInt = 35 from by decide +kernel] at h; exact h
                exact absurd (v_jumps_75 k0 hpre_3 c2 c7 c8 c75 c76 c77) id
        · have c74 : r73.toInt = 0 := by have h := z_eq c74; rw [show (0 : Int32).toInt = 0 from by decide +kernel] at h; exact h
          refine lv_iconst (v := 1) hx hb dX12_jumps_42 (by decide +kernel) ?_
          refine lv_goto (tgt := 47) hx hb dX12_jumps_43 (by decide) ?_
          refine lv_istore_n (lv' := [(3, .int 1), (2, .int x1), (0, .ref (ad 0)), (1, .int k0)]) hx hb dX12_jumps_47 rfl hl (by decide) rfl (fun ls hl => ?_)
          refine lv_iload_n hx hb dX12_jumps_48 rfl (lv_at hl 3 rfl) ?_
          refine lv_bipush (v := 32) hx hb dX12_jumps_49 (by decide +kernel) ?_
          refine lv_icmp_eq (tgt := 66) hx hb dX12_jumps_51 (by decide) (fun c81 => ?_) (fun c81 => ?_)
          · have c81 : k0.toInt = 32 := by have h := z_eq c81; rw [show (32 : Int32).toInt = 32 from by decide +kernel] at h; exact h
            exact absurd (v_jumps_76 k0 hpre_3 c2 c7 c8 c81) id
          · have c81 : ¬ k0.toInt = 32 := by have h := z_ne c81; rw [show (32 : Int32).toInt = 32 from by decide +kernel] at h; exact h
            refine lv_iload_n hx hb dX12_jumps_54 rfl (lv_at hl 3 rfl) ?_
            refine lv_bipush (v := 33) hx hb dX12_jumps_55 (by decide +kernel) ?_
            refine lv_icmp_eq (tgt := 66) hx hb dX12_jumps_57 (by decide) (fun c82 => ?_) (fun c82 => ?_)
            · have c82 : k0.toInt = 33 := by have h := z_eq c82; rw [show (33 : Int32).toInt = 33 from by decide +kernel] at h; exact h
              exact absurd (v_jumps_77 k0 hpre_3 c2 c7 c8 c81 c82) id
            · have c82 : ¬ k0.toInt = 33 := by have h := z_ne c82; rw [show (33 : Int32).toInt = 33 from by decide +kernel] at h; exact h
              refine lv_iload_n hx hb dX12_jumps_60 rfl (lv_at hl 3 rfl) ?_
              refine lv_bipush (v := 35) hx hb dX12_jumps_61 (by decide +kernel) ?_
              refine lv_icmp_ne (tgt := 142) hx hb dX12_jumps_63 (by decide) (fun c83 => ?_) (fun c83 => ?_)
              · have c83 : ¬ k0.toInt = 35 := by have h := z_ne c83; rw [show (35 : Int32).toInt = 35 from by decide +kernel] at h; exact h
                refine lv_iload_n hx hb dX12_jumps_142 rfl (lv_at hl 3 rfl) ?_
                refine lv_bipush (v := 37) hx hb dX12_jumps_143 (by decide +kernel) ?_
                refine lv_icmp_ne (tgt := 162) hx hb dX12_jumps_145 (by decide) (fun c84 => ?_) (fun c84 => ?_)
                · have c84 : ¬ k0.toInt = 37 := by have h := z_ne c84; rw [show (37 : Int32).toInt = 37 from by decide +kernel] at h; exact h
                  exact absurd (v_jumps_78 k0 hpre_3 c2 c7 c8 c81 c82 c83 c84) id
                · have c84 : k0.toInt = 37 := by have h := z_eq c84; rw [show (37 : Int32).toInt = 37 from by decide +kernel] at h; exact h
                  refine lv_iload_n hx hb dX12_jumps_148 rfl (lv_at hl 0 rfl) ?_
                  refine lv_if_ne (tgt := 162) hx hb dX12_jumps_149 (by decide) (fun _ => ?_) (fun c85 => absurd c85 (by decide +kernel))
                  refine lv_iload_n hx hb dX12_jumps_162 rfl (lv_at hl 0 rfl) ?_
                  have hP : RP D cy ad (rS (rS σ 55 (σ.1 55)) 56 (σ.1 56)) H := RP.cong hP (Eq.trans (b := (σ.1 0)) rfl rfl) (Eq.trans (b := (σ.1 1)) rfl rfl) (Eq.trans (b := (σ.2.1 2)) rfl rfl) (Eq.trans (b := (σ.1 3)) rfl rfl) (Eq.trans (b := (σ.2.1 4)) rfl rfl) (Eq.trans (b := (σ.2.1 5)) rfl rfl) (Eq.trans (b := (σ.2.2.1 6)) rfl rfl) (Eq.trans (b := (σ.2.1 7)) rfl rfl) (Eq.trans (b := (σ.1 8)) rfl rfl) (Eq.trans (b := (σ.1 9)) rfl rfl) (Eq.trans (b := (σ.1 10)) rfl rfl) (Eq.trans (b := (σ.2.1 11)) rfl rfl) (Eq.trans (b := (σ.2.2.1 12)) rfl rfl) (Eq.trans (b := (σ.2.1 13)) rfl rfl) (Eq.trans (b := (σ.1 14)) rfl rfl) (Eq.trans (b := (σ.1 15)) rfl rfl) (Eq.trans (b := (σ.1 16)) rfl rfl) (Eq.trans (b := (σ.1 17)) rfl rfl) (Eq.trans (b := (σ.1 18)) rfl rfl) (Eq.trans (b := (σ.1 19)) rfl rfl) (Eq.trans (b := (σ.2.1 20)) rfl rfl) (Eq.trans (b := (σ.2.1 21)) rfl rfl) (Eq.trans (b := (σ.2.1 22)) rfl rfl) (Eq.trans (b := (σ.2.1 23)) rfl rfl) (Eq.trans (b := (σ.2.1 24)) rfl rfl) (Eq.trans (b := (σ.2.1 25)) rfl rfl) (Eq.trans (b := (σ.2.1 26)) rfl rfl) (Eq.trans (b := (σ.2.1 27)) rfl rfl) (Eq.trans (b := (σ.2.1 28)) rfl rfl) (Eq.trans (b := (σ.1 29)) rfl rfl) (Eq.trans (b := (σ.2.1 30)) rfl rfl) (Eq.trans (b := (σ.2.1 31)) rfl rfl) (Eq.trans (b := (σ.2.1 32)) rfl rfl) (Eq.trans (b := (σ.1 33)) rfl rfl) (Eq.trans (b := (σ.1 34)) rfl rfl) (Eq.trans (b := (σ.1 35)) rfl rfl) (Eq.trans (b := (σ.2.1 36)) rfl rfl) (Eq.trans (b := (σ.2.1 37)) rfl rfl) (Eq.trans (b := (σ.2.1 38)) rfl rfl) (Eq.trans (b := (σ.2.1 39)) rfl rfl) (Eq.trans (b := (σ.2.1 40)) rfl rfl) (Eq.trans (b := (σ.2.1 41)) rfl rfl) (Eq.trans (b := (σ.2.1 42)) rfl rfl) (Eq.trans (b := (σ.2.1 43)) rfl rfl) (Eq.trans (b := (σ.2.1 44)) rfl rfl) (Eq.trans (b := (σ.2.1 45)) rfl rfl) (Eq.trans (b := (σ.2.1 46)) rfl rfl) (Eq.trans (b := (σ.1 47)) rfl rfl) (Eq.trans (b := (σ.2.1 48)) rfl rfl) (Eq.trans (b := (σ.1 49)) rfl rfl) (Eq.trans (b := (σ.2.1 50)) rfl rfl) (Eq.trans (b := (σ.2.1 51)) rfl rfl) (Eq.trans (b := (σ.2.2.1 52)) rfl rfl) (Eq.trans (b := (σ.2.2.1 53)) rfl rfl) (Eq.trans (b := (σ.2.2.2)) rfl rfl) (Eq.trans (b := (σ.1 55)) rfl rfl) (Eq.trans (b := (σ.1 56)) rfl rfl) (Eq.trans (b := (σ.1 57)) rfl rfl) (Eq.trans (b := (σ.2.1 58)) rfl rfl) (Eq.trans (b := (σ.1 59)) rfl rfl)
                  exact r_retz C ⟨(σ.1 55), (σ.1 56)⟩ (v_jumps_6  ) ⟨(v_jumps_79 σ k0 x1 hpre_0 hpre_1 hpre_2 hpre_3 ex1 tx1 c2 c7 c8 c81 c82 c83 c84), (v_jumps_80 σ k0 x1 r73 hpre_0 hpre_1 hpre_2 hpre_3 ex1 tx1 c2 c7 c8 hr73y hr73 c74 c81 c82 c83 c84)⟩ hP hS dX12_jumps_163
              · have c83 : k0.toInt = 35 := by have h := z_eq c83; rw [show (35 : Int32).toInt = 35 from by decide +kernel] at h; exact h
                exact absurd (v_jumps_81 k0 hpre_3 c2 c7 c8 c81 c82 c83) id
    · have c7 : k0.toInt = 14 := by have h := z_eq c7; rw [show (14 : Int32).toInt = 14 from by decide +kernel] at h; exact h
      refine lv_aload_n hx hb dX12_jumps_19 rfl (lv_at hl 1 rfl) ?_
      refine rg_51 C hP wm_205 dX12_jumps_20 ?_
      refine lv_iload_n hx hb dX12_jumps_23 rfl (lv_at hl 0 rfl) ?_
      refine ra_51 (f := (σ.2.1 51)) C hP rfl (v_jumps_9 σ x1 hpre_0 hpre_1 ex1 tx1) dX12_jumps_24 (fun x86 ex86 => ?_)
      have tx86 : x86.toInt = ((σ.2.1 51) ((σ.1 55).toInt - 1).toNat).toInt := by rw [ex86, clampN, tx1]
      refine lv_if_eq (tgt := 42) hx hb dX12_jumps_25 (by decide) (fun c87 => ?_) (fun c87 => ?_)
      · have c87 : x86.toInt = 0 := by have h := z_eq c87; rw [show (0 : Int32).toInt = 0 from by decide +kernel] at h; exact h
        refine lv_iconst (v := 1) hx hb dX12_jumps_42 (by decide +kernel) ?_
        refine lv_goto (tgt := 47) hx hb dX12_jumps_43 (by decide) ?_
        refine lv_istore_n (lv' := [(3, .int 1), (2, .int x1), (0, .ref (ad 0)), (1, .int k0)]) hx hb dX12_jumps_47 rfl hl (by decide) rfl (fun ls hl => ?_)
        refine lv_iload_n hx hb dX12_jumps_48 rfl (lv_at hl 3 rfl) ?_
        refine lv_bipush (v := 32) hx hb dX12_jumps_49 (by decide +kernel) ?_
        refine lv_icmp_eq (tgt := 66) hx hb dX12_jumps_51 (by decide) (fun c88 => ?_) (fun c88 => ?_)
        · have c88 : k0.toInt = 32 := by have h := z_eq c88; rw [show (32 : Int32).toInt = 32 from by decide +kernel] at h; exact h
          exact absurd (v_jumps_82 k0 hpre_3 c2 c7 c88) id
        · have c88 : ¬ k0.toInt = 32 := by have h := z_ne c88; rw [show (32 : Int32).toInt = 32 from by decide +kernel] at h; exact h
          refine lv_iload_n hx hb dX12_jumps_54 rfl (lv_at hl 3 rfl) ?_
          refine lv_bipush (v := 33) hx hb dX12_jumps_55 (by decide +kernel) ?_
          refine lv_icmp_eq (tgt := 66) hx hb dX12_jumps_57 (by decide) (fun c89 => ?_) (fun c89 => ?_)
          · have c89 : k0.toInt = 33 := by have h := z_eq c89; rw [show (33 : Int32).toInt = 33 from by decide +kernel] at h; exact h
            exact absurd (v_jumps_83 k0 hpre_3 c2 c7 c88 c89) id
          · have c89 : ¬ k0.toInt = 33 := by have h := z_ne c89; rw [show (33 : Int32).toInt = 33 from by decide +kernel] at h; exact h
            refine lv_iload_n hx hb dX12_jumps_60 rfl (lv_at hl 3 rfl) ?_
            refine lv_bipush (v := 35) hx hb dX12_jumps_61 (by decide +kernel) ?_
            refine lv_icmp_ne (tgt := 142) hx hb dX12_jumps_63 (by decide) (fun c90 => ?_) (fun c90 => ?_)
            · have c90 : ¬ k0.toInt = 35 := by have h := z_ne c90; rw [show (35 : Int32).toInt = 35 from by decide +kernel] at h; exact h
              refine lv_iload_n hx hb dX12_jumps_142 rfl (lv_at hl 3 rfl) ?_
              refine lv_bipush (v := 37) hx hb dX12_jumps_143 (by decide +kernel) ?_
              refine lv_icmp_ne (tgt := 162) hx hb dX12_jumps_145 (by decide) (fun c91 => ?_) (fun c91 => ?_)
              · have c91 : ¬ k0.toInt = 37 := by have h := z_ne c91; rw [show (37 : Int32).toInt = 37 from by decide +kernel] at h; exact h
                refine lv_iload_n hx hb dX12_jumps_162 rfl (lv_at hl 0 rfl) ?_
                have hP : RP D cy ad (rS (rS σ 55 (σ.1 55)) 56 (σ.1 56)) s.heap := RP.cong hP (Eq.trans (b := (σ.1 0)) rfl rfl) (Eq.trans (b := (σ.1 1)) rfl rfl) (Eq.trans (b := (σ.2.1 2)) rfl rfl) (Eq.trans (b := (σ.1 3)) rfl rfl) (Eq.trans (b := (σ.2.1 4)) rfl rfl) (Eq.trans (b := (σ.2.1 5)) rfl rfl) (Eq.trans (b := (σ.2.2.1 6)) rfl rfl) (Eq.trans (b := (σ.2.1 7)) rfl rfl) (Eq.trans (b := (σ.1 8)) rfl rfl) (Eq.trans (b := (σ.1 9)) rfl rfl) (Eq.trans (b := (σ.1 10)) rfl rfl) (Eq.trans (b := (σ.2.1 11)) rfl rfl) (Eq.trans (b := (σ.2.2.1 12)) rfl rfl) (Eq.trans (b := (σ.2.1 13)) rfl rfl) (Eq.trans (b := (σ.1 14)) rfl rfl) (Eq.trans (b := (σ.1 15)) rfl rfl) (Eq.trans (b := (σ.1 16)) rfl rfl) (Eq.trans (b := (σ.1 17)) rfl rfl) (Eq.trans (b := (σ.1 18)) rfl rfl) (Eq.trans (b := (σ.1 19)) rfl rfl) (Eq.trans (b := (σ.2.1 20)) rfl rfl) (Eq.trans (b := (σ.2.1 21)) rfl rfl) (Eq.trans (b := (σ.2.1 22)) rfl rfl) (Eq.trans (b := (σ.2.1 23)) rfl rfl) (Eq.trans (b := (σ.2.1 24)) rfl rfl) (Eq.trans (b := (σ.2.1 25)) rfl rfl) (Eq.trans (b := (σ.2.1 26)) rfl rfl) (Eq.trans (b := (σ.2.1 27)) rfl rfl) (Eq.trans (b := (σ.2.1 28)) rfl rfl) (Eq.trans (b := (σ.1 29)) rfl rfl) (Eq.trans (b := (σ.2.1 30)) rfl rfl) (Eq.trans (b := (σ.2.1 31)) rfl rfl) (Eq.trans (b := (σ.2.1 32)) rfl rfl) (Eq.trans (b := (σ.1 33)) rfl rfl) (Eq.trans (b := (σ.1 34)) rfl rfl) (Eq.trans (b := (σ.1 35)) rfl rfl) (Eq.trans (b := (σ.2.1 36)) rfl rfl) (Eq.trans (b := (σ.2.1 37)) rfl rfl) (Eq.trans (b := (σ.2.1 38)) rfl rfl) (Eq.trans (b := (σ.2.1 39)) rfl rfl) (Eq.trans (b := (σ.2.1 40)) rfl rfl) (Eq.trans (b := (σ.2.1 41)) rfl rfl) (Eq.trans (b := (σ.2.1 42)) rfl rfl) (Eq.trans (b := (σ.2.1 43)) rfl rfl) (Eq.trans (b := (σ.2.1 44)) rfl rfl) (Eq.trans (b := (σ.2.1 45)) rfl rfl) (Eq.trans (b := (σ.2.1 46)) rfl rfl) (Eq.trans (b := (σ.1 47)) rfl rfl) (Eq.trans (b := (σ.2.1 48)) rfl rfl) (Eq.trans (b := (σ.1 49)) rfl rfl) (Eq.trans (b := (σ.2.1 50)) rfl rfl) (Eq.trans (b := (σ.2.1 51)) rfl rfl) (Eq.trans (b := (σ.2.2.1 52)) rfl rfl) (Eq.trans (b := (σ.2.2.1 53)) rfl rfl) (Eq.trans (b := (σ.2.2.2)) rfl rfl) (Eq.trans (b := (σ.1 55)) rfl rfl) (Eq.trans (b := (σ.1 56)) rfl rfl) (Eq.trans (b := (σ.1 57)) rfl rfl) (Eq.trans (b := (σ.2.1 58)) rfl rfl) (Eq.trans (b := (σ.1 59)) rfl rfl)
                exact r_retz C ⟨(σ.1 55), (σ.1 56)⟩ (v_jumps_6  ) ⟨(v_jumps_84 σ k0 x1 x86 hpre_0 hpre_1 hpre_2 hpre_3 ex1 tx1 c2 c7 ex86 tx86 c87 c88 c89 c90 c91), (v_jumps_85 σ k0 x1 x86 hpre_0 hpre_1 hpre_2 hpre_3 ex1 tx1 c2 c7 ex86 tx86 c87 c88 c89 c90 c91)⟩ hP hS dX12_jumps_163
              · have c91 : k0.toInt = 37 := by have h := z_eq c91; rw [show (37 : Int32).toInt = 37 from by decide +kernel] at h; exact h
                exact absurd (v_jumps_86 k0 hpre_3 c2 c7 c88 c89 c90 c91) id
            · have c90 : k0.toInt = 35 := by have h := z_eq c90; rw [show (35 : Int32).toInt = 35 from by decide +kernel] at h; exact h
              exact absurd (v_jumps_87 k0 hpre_3 c2 c7 c88 c89 c90) id
      · have c87 : ¬ x86.toInt = 0 := by have h := z_ne c87; rw [show (0 : Int32).toInt = 0 from by decide +kernel] at h; exact h
        refine lv_iload_n hx hb dX12_jumps_28 rfl (lv_at hl 2 rfl) ?_
        refine lv_bipush (v := 37) hx hb dX12_jumps_29 (by decide +kernel) ?_
        refine lv_icmp_ne (tgt := 46) hx hb dX12_jumps_31 (by decide) (fun c92 => ?_) (fun c92 => ?_)
        · have c92 : ¬ k0.toInt = 37 := by have h := z_ne c92; rw [show (37 : Int32).toInt = 37 from by decide +kernel] at h; exact h
          refine lv_iconst (v := 0) hx hb dX12_jumps_46 (by decide +kernel) ?_
          refine lv_istore_n (lv' := [(3, .int 0), (2, .int x1), (0, .ref (ad 0)), (1, .int k0)]) hx hb dX12_jumps_47 rfl hl (by decide) rfl (fun ls hl => ?_)
          refine lv_iload_n hx hb dX12_jumps_48 rfl (lv_at hl 3 rfl) ?_
          refine lv_bipush (v := 32) hx hb dX12_jumps_49 (by decide +kernel) ?_
          refine lv_icmp_eq (tgt := 66) hx hb dX12_jumps_51 (by decide) (fun c93 => ?_) (fun c93 => ?_)
          · have c93 : k0.toInt = 32 := by have h := z_eq c93; rw [show (32 : Int32).toInt = 32 from by decide +kernel] at h; exact h
            exact absurd (v_jumps_88 k0 hpre_3 c2 c7 c92 c93) id
          · have c93 : ¬ k0.toInt = 32 := by have h := z_ne c93; rw [show (32 : Int32).toInt = 32 from by decide +kernel] at h; exact h
            refine lv_iload_n hx hb dX12_jumps_54 rfl (lv_at hl 3 rfl) ?_
            refine lv_bipush (v := 33) hx hb dX12_jumps_55 (by decide +kernel) ?_
            refine lv_icmp_eq (tgt := 66) hx hb dX12_jumps_57 (by decide) (fun c94 => ?_) (fun c94 => ?_)
            · have c94 : k0.toInt = 33 := by have h := z_eq c94; rw [show (33 : Int32).toInt = 33 from by decide +kernel] at h; exact h
              exact absurd (v_jumps_89 k0 hpre_3 c2 c7 c92 c93 c94) id
            · have c94 : ¬ k0.toInt = 33 := by have h := z_ne c94; rw [show (33 : Int32).toInt = 33 from by decide +kernel] at h; exact h
              refine lv_iload_n hx hb dX12_jumps_60 rfl (lv_at hl 3 rfl) ?_
              refine lv_bipush (v := 35) hx hb dX12_jumps_61 (by decide +kernel) ?_
              refine lv_icmp_ne (tgt := 142) hx hb dX12_jumps_63 (by decide) (fun c95 => ?_) (fun c95 => ?_)
              · have c95 : ¬ k0.toInt = 35 := by have h := z_ne c95; rw [show (35 : Int32).toInt = 35 from by decide +kernel] at h; exact h
                refine lv_iload_n hx hb dX12_jumps_142 rfl (lv_at hl 3 rfl) ?_
                refine lv_bipush (v := 37) hx hb dX12_jumps_143 (by decide +kernel) ?_
                refine lv_icmp_ne (tgt := 162) hx hb dX12_jumps_145 (by decide) (fun c96 => ?_) (fun c96 => ?_)
                · have c96 : ¬ k0.toInt = 37 := by have h := z_ne c96; rw [show (37 : Int32).toInt = 37 from by decide +kernel] at h; exact h
                  refine lv_iload_n hx hb dX12_jumps_162 rfl (lv_at hl 0 rfl) ?_
                  have hP : RP D cy ad (rS (rS σ 55 (σ.1 55)) 56 (σ.1 56)) s.heap := RP.cong hP (Eq.trans (b := (σ.1 0)) rfl rfl) (Eq.trans (b := (σ.1 1)) rfl rfl) (Eq.trans (b := (σ.2.1 2)) rfl rfl) (Eq.trans (b := (σ.1 3)) rfl rfl) (Eq.trans (b := (σ.2.1 4)) rfl rfl) (Eq.trans (b := (σ.2.1 5)) rfl rfl) (Eq.trans (b := (σ.2.2.1 6)) rfl rfl) (Eq.trans (b := (σ.2.1 7)) rfl rfl) (Eq.trans (b := (σ.1 8)) rfl rfl) (Eq.trans (b := (σ.1 9)) rfl rfl) (Eq.trans (b := (σ.1 10)) rfl rfl) (Eq.trans (b := (σ.2.1 11)) rfl rfl) (Eq.trans (b := (σ.2.2.1 12)) rfl rfl) (Eq.trans (b := (σ.2.1 13)) rfl rfl) (Eq.trans (b := (σ.1 14)) rfl rfl) (Eq.trans (b := (σ.1 15)) rfl rfl) (Eq.trans (b := (σ.1 16)) rfl rfl) (Eq.trans (b := (σ.1 17)) rfl rfl) (Eq.trans (b := (σ.1 18)) rfl rfl) (Eq.trans (b := (σ.1 19)) rfl rfl) (Eq.trans (b := (σ.2.1 20)) rfl rfl) (Eq.trans (b := (σ.2.1 21)) rfl rfl) (Eq.trans (b := (σ.2.1 22)) rfl rfl) (Eq.trans (b := (σ.2.1 23)) rfl rfl) (Eq.trans (b := (σ.2.1 24)) rfl rfl) (Eq.trans (b := (σ.2.1 25)) rfl rfl) (Eq.trans (b := (σ.2.1 26)) rfl rfl) (Eq.trans (b := (σ.2.1 27)) rfl rfl) (Eq.trans (b := (σ.2.1 28)) rfl rfl) (Eq.trans (b := (σ.1 29)) rfl rfl) (Eq.trans (b := (σ.2.1 30)) rfl rfl) (Eq.trans (b := (σ.2.1 31)) rfl rfl) (Eq.trans (b := (σ.2.1 32)) rfl rfl) (Eq.trans (b := (σ.1 33)) rfl rfl) (Eq.trans (b := (σ.1 34)) rfl rfl) (Eq.trans (b := (σ.1 35)) rfl rfl) (Eq.trans (b := (σ.2.1 36)) rfl rfl) (Eq.trans (b := (σ.2.1 37)) rfl rfl) (Eq.trans (b := (σ.2.1 38)) rfl rfl) (Eq.trans (b := (σ.2.1 39)) rfl rfl) (Eq.trans (b := (σ.2.1 40)) rfl rfl) (Eq.trans (b := (σ.2.1 41)) rfl rfl) (Eq.trans (b := (σ.2.1 42)) rfl rfl) (Eq.trans (b := (σ.2.1 43)) rfl rfl) (Eq.trans (b := (σ.2.1 44)) rfl rfl) (Eq.trans (b := (σ.2.1 45)) rfl rfl) (Eq.trans (b := (σ.2.1 46)) rfl rfl) (Eq.trans (b := (σ.1 47)) rfl rfl) (Eq.trans (b := (σ.2.1 48)) rfl rfl) (Eq.trans (b := (σ.1 49)) rfl rfl) (Eq.trans (b := (σ.2.1 50)) rfl rfl) (Eq.trans (b := (σ.2.1 51)) rfl rfl) (Eq.trans (b := (σ.2.2.1 52)) rfl rfl) (Eq.trans (b := (σ.2.2.1 53)) rfl rfl) (Eq.trans (b := (σ.2.2.2)) rfl rfl) (Eq.trans (b := (σ.1 55)) rfl rfl) (Eq.trans (b := (σ.1 56)) rfl rfl) (Eq.trans (b := (σ.1 57)) rfl rfl) (Eq.trans (b := (σ.2.1 58)) rfl rfl) (Eq.trans (b := (σ.1 59)) rfl rfl)
                  exact r_retz C ⟨(σ.1 55), (σ.1 56)⟩ (v_jumps_14  ) ⟨(v_jumps_90 σ k0 x1 x86 hpre_0 hpre_1 hpre_2 hpre_3 ex1 tx1 c2 c7 ex86 tx86 c87 c92 c93 c94 c95 c96), (v_jumps_91 σ k0 x1 x86 hpre_0 hpre_1 hpre_2 hpre_3 ex1 tx1 c2 c7 ex86 tx86 c87 c92 c93 c94 c95 c96)⟩ hP hS dX12_jumps_163
                · have c96 : k0.toInt = 37 := by have h := z_eq c96; rw [show (37 : Int32).toInt = 37 from by decide +kernel] at h; exact h
                  exact absurd (v_jumps_92 k0 hpre_3 c2 c7 c92 c93 c94 c95 c96) id
              · have c95 : k0.toInt = 35 := by have h := z_eq c95; rw [show (35 : Int32).toInt = 35 from by decide +kernel] at h; exact h
                exact absurd (v_jumps_93 k0 hpre_3 c2 c7 c92 c93 c94 c95) id
        · have c92 : k0.toInt = 37 := by have h := z_eq c92; rw [show (37 : Int32).toInt = 37 from by decide +kernel] at h; exact h
          exact absurd (v_jumps_94 k0 hpre_3 c2 c7 c92) id
