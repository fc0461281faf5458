-- post @64
theorem v_converter_1 (σ : RS) (k0 : Int32) (k1 : Int32) (k2 : Int32) (hpre_0 : BLS (σ.2.1 46)) (hpre_1 : k2.toInt = 0 ∨ k2.toInt = 1) (c1 : k0.toInt < 1) (c2 : k0.toInt < 8) : (¬ (((1 ≤ k0.toInt ∧ k0.toInt ≤ 5) ∨ (8 ≤ k0.toInt ∧ k0.toInt ≤ 12)) ∧ 1 ≤ k1.toInt ∧ k1.toInt ≤ 4 ∧ ¬ k0.toInt = k1.toInt) ∧ (1 : Int32).toInt = 1 ∧ (0 : Int32).toInt = 0 ∧ (σ.2.1 46) = (σ.2.1 46)) ∨ ((((1 ≤ k0.toInt ∧ k0.toInt ≤ 5) ∨ (8 ≤ k0.toInt ∧ k0.toInt ≤ 12)) ∧ 1 ≤ k1.toInt ∧ k1.toInt ≤ 4 ∧ ¬ k0.toInt = k1.toInt) ∧ (1 : Int32).toInt = 0 ∧ (0 : Int32).toInt = ((σ.2.1 46) (5 * k0.toInt + k1.toInt).toNat).toInt ∧ (σ.2.1 46) = upd (σ.2.1 46) (5 * k0.toInt + k1.toInt).toNat k2) := by
  have q0 : (0 : Int32).toInt = 0 := by decide +kernel
  have q1 : (1 : Int32).toInt = 1 := by decide +kernel
  first
  | (refine Or.inl ⟨?_, ?_, ?_, ?_⟩ <;> first | assumption | rfl | omega | (congr 1; first | rfl | omega | (rw [clampN]; omega) | (simp only [clampN]; omega)))
  | (refine Or.inr ⟨?_, ?_, ?_, ?_⟩ <;> first | assumption | rfl | omega | (congr 1; first | rfl | omega | (rw [clampN]; omega) | (simp only [clampN]; omega)))
-- bool@ret @64
theorem v_converter_2   : (0 : Int32) = 0 ∨ (0 : Int32) = 1 := by
  have q0 : (0 : Int32).toInt = 0 := by decide +kernel
  first | exact Or.inl rfl | exact Or.inr rfl | exact bool_of (by omega)
-- dead@13 @16
theorem v_converter_3 (k0 : Int32) (c1 : k0.toInt < 1) (c2 : 8 ≤ k0.toInt) : False := by
  first | assumption | omega | (subst_vars; omega) | trivial
-- post @64
theorem v_converter_4 (σ : RS) (k0 : Int32) (k1 : Int32) (k2 : Int32) (hpre_0 : BLS (σ.2.1 46)) (hpre_1 : k2.toInt = 0 ∨ k2.toInt = 1) (c1 : 1 ≤ k0.toInt) (c5 : k0.toInt ≤ 5) (c6 : k1.toInt < 1) : (¬ (((1 ≤ k0.toInt ∧ k0.toInt ≤ 5) ∨ (8 ≤ k0.toInt ∧ k0.toInt ≤ 12)) ∧ 1 ≤ k1.toInt ∧ k1.toInt ≤ 4 ∧ ¬ k0.toInt = k1.toInt) ∧ (1 : Int32).toInt = 1 ∧ (0 : Int32).toInt = 0 ∧ (σ.2.1 46) = (σ.2.1 46)) ∨ ((((1 ≤ k0.toInt ∧ k0.toInt ≤ 5) ∨ (8 ≤ k0.toInt ∧ k0.toInt ≤ 12)) ∧ 1 ≤ k1.toInt ∧ k1.toInt ≤ 4 ∧ ¬ k0.toInt = k1.toInt) ∧ (1 : Int32).toInt = 0 ∧ (0 : Int32).toInt = ((σ.2.1 46) (5 * k0.toInt + k1.toInt).toNat).toInt ∧ (σ.2.1 46) = upd (σ.2.1 46) (5 * k0.toInt + k1.toInt).toNat k2) := by
  have q0 : (0 : Int32).toInt = 0 := by decide +kernel
  have q1 : (1 : Int32).toInt = 1 := by decide +kernel
  first
  | (refine Or.inl ⟨?_, ?_, ?_, ?_⟩ <;> first | assumption | rfl | omega | (congr 1; first | rfl | omega | (rw [clampN]; omega) | (simp only [clampN]; omega)))
  | (refine Or.inr ⟨?_, ?_, ?_, ?_⟩ <;> first | assumption | rfl | omega | (congr 1; first | rfl | omega | (rw [clampN]; omega) | (simp only [clampN]; omega)))
-- post @64
theorem v_converter_5 (σ : RS) (k0 : Int32) (k1 : Int32) (k2 : Int32) (hpre_0 : BLS (σ.2.1 46)) (hpre_1 : k2.toInt = 0 ∨ k2.toInt = 1) (c1 : 1 ≤ k0.toInt) (c5 : k0.toInt ≤ 5) (c6 : 1 ≤ k1.toInt) (c9 : 4 < k1.toInt) : (¬ (((1 ≤ k0.toInt ∧ k0.toInt ≤ 5) ∨ (8 ≤ k0.toInt ∧ k0.toInt ≤ 12)) ∧ 1 ≤ k1.toInt ∧ k1.toInt ≤ 4 ∧ ¬ k0.toInt = k1.toInt) ∧ (1 : Int32).toInt = 1 ∧ (0 : Int32).toInt = 0 ∧ (σ.2.1 46) = (σ.2.1 46)) ∨ ((((1 ≤ k0.toInt ∧ k0.toInt ≤ 5) ∨ (8 ≤ k0.toInt ∧ k0.toInt ≤ 12)) ∧ 1 ≤ k1.toInt ∧ k1.toInt ≤ 4 ∧ ¬ k0.toInt = k1.toInt) ∧ (1 : Int32).toInt = 0 ∧ (0 : Int32).toInt = ((σ.2.1 46) (5 * k0.toInt + k1.toInt).toNat).toInt ∧ (σ.2.1 46) = upd (σ.2.1 46) (5 * k0.toInt + k1.toInt).toNat k2) := by
  have q0 : (0 : Int32).toInt = 0 := by decide +kernel
  have q1 : (1 : Int32).toInt = 1 := by decide +kernel
  first
  | (refine Or.inl ⟨?_, ?_, ?_, ?_⟩ <;> first | assumption | rfl | omega | (congr 1; first | rfl | omega | (rw [clampN]; omega) | (simp only [clampN]; omega)))
  | (refine Or.inr ⟨?_, ?_, ?_, ?_⟩ <;> first | assumption | rfl | omega | (congr 1; first | rfl | omega | (rw [clampN]; omega) | (simp only [clampN]; omega)))
-- post @64
theorem v_converter_6 (σ : RS) (k0 : Int32) (k1 : Int32) (k2 : Int32) (hpre_0 : BLS (σ.2.1 46)) (hpre_1 : k2.toInt = 0 ∨ k2.toInt = 1) (c1 : 1 ≤ k0.toInt) (c5 : k0.toInt ≤ 5) (c6 : 1 ≤ k1.toInt) (c9 : k1.toInt ≤ 4) (c12 : k0.toInt = k1.toInt) : (¬ (((1 ≤ k0.toInt ∧ k0.toInt ≤ 5) ∨ (8 ≤ k0.toInt ∧ k0.toInt ≤ 12)) ∧ 1 ≤ k1.toInt ∧ k1.toInt ≤ 4 ∧ ¬ k0.toInt = k1.toInt) ∧ (1 : Int32).toInt = 1 ∧ (0 : Int32).toInt = 0 ∧ (σ.2.1 46) = (σ.2.1 46)) ∨ ((((1 ≤ k0.toInt ∧ k0.toInt ≤ 5) ∨ (8 ≤ k0.toInt ∧ k0.toInt ≤ 12)) ∧ 1 ≤ k1.toInt ∧ k1.toInt ≤ 4 ∧ ¬ k0.toInt = k1.toInt) ∧ (1 : Int32).toInt = 0 ∧ (0 : Int32).toInt = ((σ.2.1 46) (5 * k0.toInt + k1.toInt).toNat).toInt ∧ (σ.2.1 46) = upd (σ.2.1 46) (5 * k0.toInt + k1.toInt).toNat k2) := by
  have q0 : (0 : Int32).toInt = 0 := by decide +kernel
  have q1 : (1 : Int32).toInt = 1 := by decide +kernel
  first
  | (refine Or.inl ⟨?_, ?_, ?_, ?_⟩ <;> first | assumption | rfl | omega | (congr 1; first | rfl | omega | (rw [clampN]; omega) | (simp only [clampN]; omega)))
  | (refine Or.inr ⟨?_, ?_, ?_, ?_⟩ <;> first | assumption | rfl | omega | (congr 1; first | rfl | omega | (rw [clampN]; omega) | (simp only [clampN]; omega)))
-- nw@71 @71
theorem v_converter_7 (k0 : Int32) (k1 : Int32) (x17 : Int32) (c1 : 1 ≤ k0.toInt) (c5 : k0.toInt ≤ 5) (c6 : 1 ≤ k1.toInt) (c9 : k1.toInt ≤ 4) (c12 : ¬ k0.toInt = k1.toInt) (ex17 : x17 = (5 : Int32) * k0) : x17.toInt = 5 * k0.toInt := by
  have q5 : (5 : Int32).toInt = 5 := by decide +kernel
  have w0 : (5 : Int32).toInt = 5 := by decide +kernel
  rw [ex17, z_mulc 5 w0 (by omega) (by omega)]
-- nw@73 @73
theorem v_converter_8 (k0 : Int32) (k1 : Int32) (x17 : Int32) (x18 : Int32) (c1 : 1 ≤ k0.toInt) (c5 : k0.toInt ≤ 5) (c6 : 1 ≤ k1.toInt) (c9 : k1.toInt ≤ 4) (c12 : ¬ k0.toInt = k1.toInt) (ex17 : x17 = (5 : Int32) * k0) (tx17 : x17.toInt = 5 * k0.toInt) (ex18 : x18 = x17 + k1) : x18.toInt = x17.toInt + k1.toInt := by
  have q5 : (5 : Int32).toInt = 5 := by decide +kernel
  rw [ex18, z_add (by omega) (by omega)]; first | done | omega
-- in@74 @74
theorem v_converter_9 (k0 : Int32) (k1 : Int32) (x17 : Int32) (x18 : Int32) (c1 : 1 ≤ k0.toInt) (c5 : k0.toInt ≤ 5) (c6 : 1 ≤ k1.toInt) (c9 : k1.toInt ≤ 4) (c12 : ¬ k0.toInt = k1.toInt) (ex17 : x17 = (5 : Int32) * k0) (tx17 : x17.toInt = 5 * k0.toInt) (ex18 : x18 = x17 + k1) (tx18 : x18.toInt = x17.toInt + k1.toInt) : vp_in x18 65 := by
  have q5 : (5 : Int32).toInt = 5 := by decide +kernel
  exact vp_in_iff.mpr ⟨by omega, by omega⟩
-- nw@83 @83
theorem v_converter_10 (σ : RS) (k0 : Int32) (k1 : Int32) (x17 : Int32) (x18 : Int32) (x19 : Int32) (x20 : Int32) (hpre_0 : BLS (σ.2.1 46)) (c1 : 1 ≤ k0.toInt) (c5 : k0.toInt ≤ 5) (c6 : 1 ≤ k1.toInt) (c9 : k1.toInt ≤ 4) (c12 : ¬ k0.toInt = k1.toInt) (ex17 : x17 = (5 : Int32) * k0) (tx17 : x17.toInt = 5 * k0.toInt) (ex18 : x18 = x17 + k1) (tx18 : x18.toInt = x17.toInt + k1.toInt) (ex19 : x19 = (σ.2.1 46) x18.toNatClampNeg) (tx19 : x19.toInt = ((σ.2.1 46) (x17.toInt + k1.toInt).toNat).toInt) (ex20 : x20 = (5 : Int32) * k0) : x20.toInt = 5 * k0.toInt := by
  have q5 : (5 : Int32).toInt = 5 := by decide +kernel
  have bl_x19 := hpre_0 ((x17.toInt + k1.toInt).toNat)
  have w0 : (5 : Int32).toInt = 5 := by decide +kernel
  rw [ex20, z_mulc 5 w0 (by omega) (by omega)]
-- nw@85 @85
theorem v_converter_11 (σ : RS) (k0 : Int32) (k1 : Int32) (x17 : Int32) (x18 : Int32) (x19 : Int32) (x20 : Int32) (x21 : Int32) (hpre_0 : BLS (σ.2.1 46)) (c1 : 1 ≤ k0.toInt) (c5 : k0.toInt ≤ 5) (c6 : 1 ≤ k1.toInt) (c9 : k1.toInt ≤ 4) (c12 : ¬ k0.toInt = k1.toInt) (ex17 : x17 = (5 : Int32) * k0) (tx17 : x17.toInt = 5 * k0.toInt) (ex18 : x18 = x17 + k1) (tx18 : x18.toInt = x17.toInt + k1.toInt) (ex19 : x19 = (σ.2.1 46) x18.toNatClampNeg) (tx19 : x19.toInt = ((σ.2.1 46) (x17.toInt + k1.toInt).toNat).toInt) (ex20 : x20 = (5 : Int32) * k0) (tx20 : x20.toInt = 5 * k0.toInt) (ex21 : x21 = x20 + k1) : x21.toInt = x20.toInt + k1.toInt := by
  have q5 : (5 : Int32).toInt = 5 := by decide +kernel
  have bl_x19 := hpre_0 ((x17.toInt + k1.toInt).toNat)
  rw [ex21, z_add (by omega) (by omega)]; first | done | omega
-- in@87 @87
theorem v_converter_12 (σ : RS) (k0 : Int32) (k1 : Int32) (x17 : Int32) (x18 : Int32) (x19 : Int32) (x20 : Int32) (x21 : Int32) (hpre_0 : BLS (σ.2.1 46)) (c1 : 1 ≤ k0.toInt) (c5 : k0.toInt ≤ 5) (c6 : 1 ≤ k1.toInt) (c9 : k1.toInt ≤ 4) (c12 : ¬ k0.toInt = k1.toInt) (ex17 : x17 = (5 : Int32) * k0) (tx17 : x17.toInt = 5 * k0.toInt) (ex18 : x18 = x17 + k1) (tx18 : x18.toInt = x17.toInt + k1.toInt) (ex19 : x19 = (σ.2.1 46) x18.toNatClampNeg) (tx19 : x19.toInt = ((σ.2.1 46) (x17.toInt + k1.toInt).toNat).toInt) (ex20 : x20 = (5 : Int32) * k0) (tx20 : x20.toInt = 5 * k0.toInt) (ex21 : x21 = x20 + k1) (tx21 : x21.toInt = x20.toInt + k1.toInt) : vp_in x21 65 := by
  have q5 : (5 : Int32).toInt = 5 := by decide +kernel
  have bl_x19 := hpre_0 ((x17.toInt + k1.toInt).toNat)
  exact vp_in_iff.mpr ⟨by omega, by omega⟩
-- bool@87 @87
theorem v_converter_13 (k2 : Int32) (hpre_1 : k2.toInt = 0 ∨ k2.toInt = 1) : k2 = 0 ∨ k2 = 1 := by
  first | exact Or.inl rfl | exact Or.inr rfl | exact bool_of (by omega)
-- post @90
theorem v_converter_14 (σ : RS) (k0 : Int32) (k1 : Int32) (k2 : Int32) (x17 : Int32) (x18 : Int32) (x19 : Int32) (x20 : Int32) (x21 : Int32) (hpre_0 : BLS (σ.2.1 46)) (hpre_1 : k2.toInt = 0 ∨ k2.toInt = 1) (c1 : 1 ≤ k0.toInt) (c5 : k0.toInt ≤ 5) (c6 : 1 ≤ k1.toInt) (c9 : k1.toInt ≤ 4) (c12 : ¬ k0.toInt = k1.toInt) (ex17 : x17 = (5 : Int32) * k0) (tx17 : x17.toInt = 5 * k0.toInt) (ex18 : x18 = x17 + k1) (tx18 : x18.toInt = x17.toInt + k1.toInt) (ex19 : x19 = (σ.2.1 46) x18.toNatClampNeg) (tx19 : x19.toInt = ((σ.2.1 46) (x17.toInt + k1.toInt).toNat).toInt) (ex20 : x20 = (5 : Int32) * k0) (tx20 : x20.toInt = 5 * k0.toInt) (ex21 : x21 = x20 + k1) (tx21 : x21.toInt = x20.toInt + k1.toInt) : (¬ (((1 ≤ k0.toInt ∧ k0.toInt ≤ 5) ∨ (8 ≤ k0.toInt ∧ k0.toInt ≤ 12)) ∧ 1 ≤ k1.toInt ∧ k1.toInt ≤ 4 ∧ ¬ k0.toInt = k1.toInt) ∧ (0 : Int32).toInt = 1 ∧ x19.toInt = 0 ∧ (upd (σ.2.1 46) x21.toNatClampNeg k2) = (σ.2.1 46)) ∨ ((((1 ≤ k0.toInt ∧ k0.toInt ≤ 5) ∨ (8 ≤ k0.toInt ∧ k0.toInt ≤ 12)) ∧ 1 ≤ k1.toInt ∧ k1.toInt ≤ 4 ∧ ¬ k0.toInt = k1.toInt) ∧ (0 : Int32).toInt = 0 ∧ x19.toInt = ((σ.2.1 46) (5 * k0.toInt + k1.toInt).toNat).toInt ∧ (upd (σ.2.1 46) x21.toNatClampNeg k2) = upd (σ.2.1 46) (5 * k0.toInt + k1.toInt).toNat k2) := by
  have q0 : (0 : Int32).toInt = 0 := by decide +kernel
  have q5 : (5 : Int32).toInt = 5 := by decide +kernel
  have bl_x19 := hpre_0 ((x17.toInt + k1.toInt).toNat)
  first
  | (refine Or.inl ⟨?_, ?_, ?_, ?_⟩ <;> first | assumption | (rw [tx19, tx17]) | rfl | omega | (congr 1; first | rfl | omega | (rw [clampN]; omega) | (simp only [clampN]; omega)))
  | (refine Or.inr ⟨?_, ?_, ?_, ?_⟩ <;> first | assumption | (rw [tx19, tx17]) | rfl | omega | (congr 1; first | rfl | omega | (rw [clampN]; omega) | (simp only [clampN]; omega)))
-- bool@ret @90
theorem v_converter_15 (σ : RS) (k0 : Int32) (k1 : Int32) (x17 : Int32) (x18 : Int32) (x19 : Int32) (x20 : Int32) (x21 : Int32) (hpre_0 : BLS (σ.2.1 46)) (c1 : 1 ≤ k0.toInt) (c5 : k0.toInt ≤ 5) (c6 : 1 ≤ k1.toInt) (c9 : k1.toInt ≤ 4) (c12 : ¬ k0.toInt = k1.toInt) (ex17 : x17 = (5 : Int32) * k0) (tx17 : x17.toInt = 5 * k0.toInt) (ex18 : x18 = x17 + k1) (tx18 : x18.toInt = x17.toInt + k1.toInt) (ex19 : x19 = (σ.2.1 46) x18.toNatClampNeg) (tx19 : x19.toInt = ((σ.2.1 46) (x17.toInt + k1.toInt).toNat).toInt) (ex20 : x20 = (5 : Int32) * k0) (tx20 : x20.toInt = 5 * k0.toInt) (ex21 : x21 = x20 + k1) (tx21 : x21.toInt = x20.toInt + k1.toInt) : x19 = 0 ∨ x19 = 1 := by
  have q5 : (5 : Int32).toInt = 5 := by decide +kernel
  have bl_x19 := hpre_0 ((x17.toInt + k1.toInt).toNat)
  first | exact Or.inl rfl | exact Or.inr rfl | exact bool_of (by omega)
-- post @64
theorem v_converter_16 (σ : RS) (k0 : Int32) (k1 : Int32) (k2 : Int32) (hpre_0 : BLS (σ.2.1 46)) (hpre_1 : k2.toInt = 0 ∨ k2.toInt = 1) (c1 : 1 ≤ k0.toInt) (c5 : 5 < k0.toInt) (c22 : k0.toInt < 8) : (¬ (((1 ≤ k0.toInt ∧ k0.toInt ≤ 5) ∨ (8 ≤ k0.toInt ∧ k0.toInt ≤ 12)) ∧ 1 ≤ k1.toInt ∧ k1.toInt ≤ 4 ∧ ¬ k0.toInt = k1.toInt) ∧ (1 : Int32).toInt = 1 ∧ (0 : Int32).toInt = 0 ∧ (σ.2.1 46) = (σ.2.1 46)) ∨ ((((1 ≤ k0.toInt ∧ k0.toInt ≤ 5) ∨ (8 ≤ k0.toInt ∧ k0.toInt ≤ 12)) ∧ 1 ≤ k1.toInt ∧ k1.toInt ≤ 4 ∧ ¬ k0.toInt = k1.toInt) ∧ (1 : Int32).toInt = 0 ∧ (0 : Int32).toInt = ((σ.2.1 46) (5 * k0.toInt + k1.toInt).toNat).toInt ∧ (σ.2.1 46) = upd (σ.2.1 46) (5 * k0.toInt + k1.toInt).toNat k2) := by
  have q0 : (0 : Int32).toInt = 0 := by decide +kernel
  have q1 : (1 : Int32).toInt = 1 := by decide +kernel
  first
  | (refine Or.inl ⟨?_, ?_, ?_, ?_⟩ <;> first | assumption | rfl | omega | (congr 1; first | rfl | omega | (rw [clampN]; omega) | (simp only [clampN]; omega)))
  | (refine Or.inr ⟨?_, ?_, ?_, ?_⟩ <;> first | assumption | rfl | omega | (congr 1; first | rfl | omega | (rw [clampN]; omega) | (simp only [clampN]; omega)))
-- post @64
theorem v_converter_17 (σ : RS) (k0 : Int32) (k1 : Int32) (k2 : Int32) (hpre_0 : BLS (σ.2.1 46)) (hpre_1 : k2.toInt = 0 ∨ k2.toInt = 1) (c1 : 1 ≤ k0.toInt) (c5 : 5 < k0.toInt) (c22 : 8 ≤ k0.toInt) (c25 : 12 < k0.toInt) : (¬ (((1 ≤ k0.toInt ∧ k0.toInt ≤ 5) ∨ (8 ≤ k0.toInt ∧ k0.toInt ≤ 12)) ∧ 1 ≤ k1.toInt ∧ k1.toInt ≤ 4 ∧ ¬ k0.toInt = k1.toInt) ∧ (1 : Int32).toInt = 1 ∧ (0 : Int32).toInt = 0 ∧ (σ.2.1 46) = (σ.2.1 46)) ∨ ((((1 ≤ k0.toInt ∧ k0.toInt ≤ 5) ∨ (8 ≤ k0.toInt ∧ k0.toInt ≤ 12)) ∧ 1 ≤ k1.toInt ∧ k1.toInt ≤ 4 ∧ ¬ k0.toInt = k1.toInt) ∧ (1 : Int32).toInt = 0 ∧ (0 : Int32).toInt = ((σ.2.1 46) (5 * k0.toInt + k1.toInt).toNat).toInt ∧ (σ.2.1 46) = upd (σ.2.1 46) (5 * k0.toInt + k1.toInt).toNat k2) := by
  have q0 : (0 : Int32).toInt = 0 := by decide +kernel
  have q1 : (1 : Int32).toInt = 1 := by decide +kernel
  first
  | (refine Or.inl ⟨?_, ?_, ?_, ?_⟩ <;> first | assumption | rfl | omega | (congr 1; first | rfl | omega | (rw [clampN]; omega) | (simp only [clampN]; omega)))
  | (refine Or.inr ⟨?_, ?_, ?_, ?_⟩ <;> first | assumption | rfl | omega | (congr 1; first | rfl | omega | (rw [clampN]; omega) | (simp only [clampN]; omega)))
-- post @64
theorem v_converter_18 (σ : RS) (k0 : Int32) (k1 : Int32) (k2 : Int32) (hpre_0 : BLS (σ.2.1 46)) (hpre_1 : k2.toInt = 0 ∨ k2.toInt = 1) (c1 : 1 ≤ k0.toInt) (c5 : 5 < k0.toInt) (c22 : 8 ≤ k0.toInt) (c25 : k0.toInt ≤ 12) (c28 : k1.toInt < 1) : (¬ (((1 ≤ k0.toInt ∧ k0.toInt ≤ 5) ∨ (8 ≤ k0.toInt ∧ k0.toInt ≤ 12)) ∧ 1 ≤ k1.toInt ∧ k1.toInt ≤ 4 ∧ ¬ k0.toInt = k1.toInt) ∧ (1 : Int32).toInt = 1 ∧ (0 : Int32).toInt = 0 ∧ (σ.2.1 46) = (σ.2.1 46)) ∨ ((((1 ≤ k0.toInt ∧ k0.toInt ≤ 5) ∨ (8 ≤ k0.toInt ∧ k0.toInt ≤ 12)) ∧ 1 ≤ k1.toInt ∧ k1.toInt ≤ 4 ∧ ¬ k0.toInt = k1.toInt) ∧ (1 : Int32).toInt = 0 ∧ (0 : Int32).toInt = ((σ.2.1 46) (5 * k0.toInt + k1.toInt).toNat).toInt ∧ (σ.2.1 46) = upd (σ.2.1 46) (5 * k0.toInt + k1.toInt).toNat k2) := by
  have q0 : (0 : Int32).toInt = 0 := by decide +kernel
  have q1 : (1 : Int32).toInt = 1 := by decide +kernel
  first
  | (refine Or.inl ⟨?_, ?_, ?_, ?_⟩ <;> first | assumption | rfl | omega | (congr 1; first | rfl | omega | (rw [clampN]; omega) | (simp only [clampN]; omega)))
  | (refine Or.inr ⟨?_, ?_, ?_, ?_⟩ <;> first | assumption | rfl | omega | (congr 1; first | rfl | omega | (rw [clampN]; omega) | (simp only [clampN]; omega)))
-- post @64
theorem v_converter_19 (σ : RS) (k0 : Int32) (k1 : Int32) (k2 : Int32) (hpre_0 : BLS (σ.2.1 46)) (hpre_1 : k2.toInt = 0 ∨ k2.toInt = 1) (c1 : 1 ≤ k0.toInt) (c5 : 5 < k0.toInt) (c22 : 8 ≤ k0.toInt) (c25 : k0.toInt ≤ 12) (c28 : 1 ≤ k1.toInt) (c31 : 4 < k1.toInt) : (¬ (((1 ≤ k0.toInt ∧ k0.toInt ≤ 5) ∨ (8 ≤ k0.toInt ∧ k0.toInt ≤ 12)) ∧ 1 ≤ k1.toInt ∧ k1.toInt ≤ 4 ∧ ¬ k0.toInt = k1.toInt) ∧ (1 : Int32).toInt = 1 ∧ (0 : Int32).toInt = 0 ∧ (σ.2.1 46) = (σ.2.1 46)) ∨ ((((1 ≤ k0.toInt ∧ k0.toInt ≤ 5) ∨ (8 ≤ k0.toInt ∧ k0.toInt ≤ 12)) ∧ 1 ≤ k1.toInt ∧ k1.toInt ≤ 4 ∧ ¬ k0.toInt = k1.toInt) ∧ (1 : Int32).toInt = 0 ∧ (0 : Int32).toInt = ((σ.2.1 46) (5 * k0.toInt + k1.toInt).toNat).toInt ∧ (σ.2.1 46) = upd (σ.2.1 46) (5 * k0.toInt + k1.toInt).toNat k2) := by
  have q0 : (0 : Int32).toInt = 0 := by decide +kernel
  have q1 : (1 : Int32).toInt = 1 := by decide +kernel
  first
  | (refine Or.inl ⟨?_, ?_, ?_, ?_⟩ <;> first | assumption | rfl | omega | (congr 1; first | rfl | omega | (rw [clampN]; omega) | (simp only [clampN]; omega)))
  | (refine Or.inr ⟨?_, ?_, ?_, ?_⟩ <;> first | assumption | rfl | omega | (congr 1; first | rfl | omega | (rw [clampN]; omega) | (simp only [clampN]; omega)))
-- post @64
theorem v_converter_20 (σ : RS) (k0 : Int32) (k1 : Int32) (k2 : Int32) (hpre_0 : BLS (σ.2.1 46)) (hpre_1 : k2.toInt = 0 ∨ k2.toInt = 1) (c1 : 1 ≤ k0.toInt) (c5 : 5 < k0.toInt) (c22 : 8 ≤ k0.toInt) (c25 : k0.toInt ≤ 12) (c28 : 1 ≤ k1.toInt) (c31 : k1.toInt ≤ 4) (c34 : k0.toInt = k1.toInt) : (¬ (((1 ≤ k0.toInt ∧ k0.toInt ≤ 5) ∨ (8 ≤ k0.toInt ∧ k0.toInt ≤ 12)) ∧ 1 ≤ k1.toInt ∧ k1.toInt ≤ 4 ∧ ¬ k0.toInt = k1.toInt) ∧ (1 : Int32).toInt = 1 ∧ (0 : Int32).toInt = 0 ∧ (σ.2.1 46) = (σ.2.1 46)) ∨ ((((1 ≤ k0.toInt ∧ k0.toInt ≤ 5) ∨ (8 ≤ k0.toInt ∧ k0.toInt ≤ 12)) ∧ 1 ≤ k1.toInt ∧ k1.toInt ≤ 4 ∧ ¬ k0.toInt = k1.toInt) ∧ (1 : Int32).toInt = 0 ∧ (0 : Int32).toInt = ((σ.2.1 46) (5 * k0.toInt + k1.toInt).toNat).toInt ∧ (σ.2.1 46) = upd (σ.2.1 46) (5 * k0.toInt + k1.toInt).toNat k2) := by
  have q0 : (0 : Int32).toInt = 0 := by decide +kernel
  have q1 : (1 : Int32).toInt = 1 := by decide +kernel
  first
  | (refine Or.inl ⟨?_, ?_, ?_, ?_⟩ <;> first | assumption | rfl | omega | (congr 1; first | rfl | omega | (rw [clampN]; omega) | (simp only [clampN]; omega)))
  | (refine Or.inr ⟨?_, ?_, ?_, ?_⟩ <;> first | assumption | rfl | omega | (congr 1; first | rfl | omega | (rw [clampN]; omega) | (simp only [clampN]; omega)))
-- nw@71 @71
theorem v_converter_21 (k0 : Int32) (k1 : Int32) (x39 : Int32) (c1 : 1 ≤ k0.toInt) (c5 : 5 < k0.toInt) (c22 : 8 ≤ k0.toInt) (c25 : k0.toInt ≤ 12) (c28 : 1 ≤ k1.toInt) (c31 : k1.toInt ≤ 4) (c34 : ¬ k0.toInt = k1.toInt) (ex39 : x39 = (5 : Int32) * k0) : x39.toInt = 5 * k0.toInt := by
  have q5 : (5 : Int32).toInt = 5 := by decide +kernel
  have w0 : (5 : Int32).toInt = 5 := by decide +kernel
  rw [ex39, z_mulc 5 w0 (by omega) (by omega)]
-- nw@73 @73
theorem v_converter_22 (k0 : Int32) (k1 : Int32) (x39 : Int32) (x40 : Int32) (c1 : 1 ≤ k0.toInt) (c5 : 5 < k0.toInt) (c22 : 8 ≤ k0.toInt) (c25 : k0.toInt ≤ 12) (c28 : 1 ≤ k1.toInt) (c31 : k1.toInt ≤ 4) (c34 : ¬ k0.toInt = k1.toInt) (ex39 : x39 = (5 : Int32) * k0) (tx39 : x39.toInt = 5 * k0.toInt) (ex40 : x40 = x39 + k1) : x40.toInt = x39.toInt + k1.toInt := by
  have q5 : (5 : Int32).toInt = 5 := by decide +kernel
  rw [ex40, z_add (by omega) (by omega)]; first | done | omega
-- in@74 @74
theorem v_converter_23 (k0 : Int32) (k1 : Int32) (x39 : Int32) (x40 : Int32) (c1 : 1 ≤ k0.toInt) (c5 : 5 < k0.toInt) (c22 : 8 ≤ k0.toInt) (c25 : k0.toInt ≤ 12) (c28 : 1 ≤ k1.toInt) (c31 : k1.toInt ≤ 4) (c34 : ¬ k0.toInt = k1.toInt) (ex39 : x39 = (5 : Int32) * k0) (tx39 : x39.toInt = 5 * k0.toInt) (ex40 : x40 = x39 + k1) (tx40 : x40.toInt = x39.toInt + k1.toInt) : vp_in x40 65 := by
  have q5 : (5 : Int32).toInt = 5 := by decide +kernel
  exact vp_in_iff.mpr ⟨by omega, by omega⟩
-- nw@83 @83
theorem v_converter_24 (σ : RS) (k0 : Int32) (k1 : Int32) (x39 : Int32) (x40 : Int32) (x41 : Int32) (x42 : Int32) (hpre_0 : BLS (σ.2.1 46)) (c1 : 1 ≤ k0.toInt) (c5 : 5 < k0.toInt) (c22 : 8 ≤ k0.toInt) (c25 : k0.toInt ≤ 12) (c28 : 1 ≤ k1.toInt) (c31 : k1.toInt ≤ 4) (c34 : ¬ k0.toInt = k1.toInt) (ex39 : x39 = (5 : Int32) * k0) (tx39 : x39.toInt = 5 * k0.toInt) (ex40 : x40 = x39 + k1) (tx40 : x40.toInt = x39.toInt + k1.toInt) (ex41 : x41 = (σ.2.1 46) x40.toNatClampNeg) (tx41 : x41.toInt = ((σ.2.1 46) (x39.toInt + k1.toInt).toNat).toInt) (ex42 : x42 = (5 : Int32) * k0) : x42.toInt = 5 * k0.toInt := by
  have q5 : (5 : Int32).toInt = 5 := by decide +kernel
  have bl_x41 := hpre_0 ((x39.toInt + k1.toInt).toNat)
  have w0 : (5 : Int32).toInt = 5 := by decide +kernel
  rw [ex42, z_mulc 5 w0 (by omega) (by omega)]
-- nw@85 @85
theorem v_converter_25 (σ : RS) (k0 : Int32) (k1 : Int32) (x39 : Int32) (x40 : Int32) (x41 : Int32) (x42 : Int32) (x43 : Int32) (hpre_0 : BLS (σ.2.1 46)) (c1 : 1 ≤ k0.toInt) (c5 : 5 < k0.toInt) (c22 : 8 ≤ k0.toInt) (c25 : k0.toInt ≤ 12) (c28 : 1 ≤ k1.toInt) (c31 : k1.toInt ≤ 4) (c34 : ¬ k0.toInt = k1.toInt) (ex39 : x39 = (5 : Int32) * k0) (tx39 : x39.toInt = 5 * k0.toInt) (ex40 : x40 = x39 + k1) (tx40 : x40.toInt = x39.toInt + k1.toInt) (ex41 : x41 = (σ.2.1 46) x40.toNatClampNeg) (tx41 : x41.toInt = ((σ.2.1 46) (x39.toInt + k1.toInt).toNat).toInt) (ex42 : x42 = (5 : Int32) * k0) (tx42 : x42.toInt = 5 * k0.toInt) (ex43 : x43 = x42 + k1) : x43.toInt = x42.toInt + k1.toInt := by
  have q5 : (5 : Int32).toInt = 5 := by decide +kernel
  have bl_x41 := hpre_0 ((x39.toInt + k1.toInt).toNat)
  rw [ex43, z_add (by omega) (by omega)]; first | done | omega
-- in@87 @87
theorem v_converter_26 (σ : RS) (k0 : Int32) (k1 : Int32) (x39 : Int32) (x40 : Int32) (x41 : Int32) (x42 : Int32) (x43 : Int32) (hpre_0 : BLS (σ.2.1 46)) (c1 : 1 ≤ k0.toInt) (c5 : 5 < k0.toInt) (c22 : 8 ≤ k0.toInt) (c25 : k0.toInt ≤ 12) (c28 : 1 ≤ k1.toInt) (c31 : k1.toInt ≤ 4) (c34 : ¬ k0.toInt = k1.toInt) (ex39 : x39 = (5 : Int32) * k0) (tx39 : x39.toInt = 5 * k0.toInt) (ex40 : x40 = x39 + k1) (tx40 : x40.toInt = x39.toInt + k1.toInt) (ex41 : x41 = (σ.2.1 46) x40.toNatClampNeg) (tx41 : x41.toInt = ((σ.2.1 46) (x39.toInt + k1.toInt).toNat).toInt) (ex42 : x42 = (5 : Int32) * k0) (tx42 : x42.toInt = 5 * k0.toInt) (ex43 : x43 = x42 + k1) (tx43 : x43.toInt = x42.toInt + k1.toInt) : vp_in x43 65 := by
  have q5 : (5 : Int32).toInt = 5 := by decide +kernel
  have bl_x41 := hpre_0 ((x39.toInt + k1.toInt).toNat)
  exact vp_in_iff.mpr ⟨by omega, by omega⟩
-- post @90
theorem v_converter_27 (σ : RS) (k0 : Int32) (k1 : Int32) (k2 : Int32) (x39 : Int32) (x40 : Int32) (x41 : Int32) (x42 : Int32) (x43 : Int32) (hpre_0 : BLS (σ.2.1 46)) (hpre_1 : k2.toInt = 0 ∨ k2.toInt = 1) (c1 : 1 ≤ k0.toInt) (c5 : 5 < k0.toInt) (c22 : 8 ≤ k0.toInt) (c25 : k0.toInt ≤ 12) (c28 : 1 ≤ k1.toInt) (c31 : k1.toInt ≤ 4) (c34 : ¬ k0.toInt = k1.toInt) (ex39 : x39 = (5 : Int32) * k0) (tx39 : x39.toInt = 5 * k0.toInt) (ex40 : x40 = x39 + k1) (tx40 : x40.toInt = x39.toInt + k1.toInt) (ex41 : x41 = (σ.2.1 46) x40.toNatClampNeg) (tx41 : x41.toInt = ((σ.2.1 46) (x39.toInt + k1.toInt).toNat).toInt) (ex42 : x42 = (5 : Int32) * k0) (tx42 : x42.toInt = 5 * k0.toInt) (ex43 : x43 = x42 + k1) (tx43 : x43.toInt = x42.toInt + k1.toInt) : (¬ (((1 ≤ k0.toInt ∧ k0.toInt ≤ 5) ∨ (8 ≤ k0.toInt ∧ k0.toInt ≤ 12)) ∧ 1 ≤ k1.toInt ∧ k1.toInt ≤ 4 ∧ ¬ k0.toInt = k1.toInt) ∧ (0 : Int32).toInt = 1 ∧ x41.toInt = 0 ∧ (upd (σ.2.1 46) x43.toNatClampNeg k2) = (σ.2.1 46)) ∨ ((((1 ≤ k0.toInt ∧ k0.toInt ≤ 5) ∨ (8 ≤ k0.toInt ∧ k0.toInt ≤ 12)) ∧ 1 ≤ k1.toInt ∧ k1.toInt ≤ 4 ∧ ¬ k0.toInt = k1.toInt) ∧ (0 : Int32).toInt = 0 ∧ x41.toInt = ((σ.2.1 46) (5 * k0.toInt + k1.toInt).toNat).toInt ∧ (upd (σ.2.1 46) x43.toNatClampNeg k2) = upd (σ.2.1 46) (5 * k0.toInt + k1.toInt).toNat k2) := by
  have q0 : (0 : Int32).toInt = 0 := by decide +kernel
  have q5 : (5 : Int32).toInt = 5 := by decide +kernel
  have bl_x41 := hpre_0 ((x39.toInt + k1.toInt).toNat)
  first
  | (refine Or.inl ⟨?_, ?_, ?_, ?_⟩ <;> first | assumption | (rw [tx41, tx39]) | rfl | omega | (congr 1; first | rfl | omega | (rw [clampN]; omega) | (simp only [clampN]; omega)))
  | (refine Or.inr ⟨?_, ?_, ?_, ?_⟩ <;> first | assumption | (rw [tx41, tx39]) | rfl | omega | (congr 1; first | rfl | omega | (rw [clampN]; omega) | (simp only [clampN]; omega)))
-- bool@ret @90
theorem v_converter_28 (σ : RS) (k0 : Int32) (k1 : Int32) (x39 : Int32) (x40 : Int32) (x41 : Int32) (x42 : Int32) (x43 : Int32) (hpre_0 : BLS (σ.2.1 46)) (c1 : 1 ≤ k0.toInt) (c5 : 5 < k0.toInt) (c22 : 8 ≤ k0.toInt) (c25 : k0.toInt ≤ 12) (c28 : 1 ≤ k1.toInt) (c31 : k1.toInt ≤ 4) (c34 : ¬ k0.toInt = k1.toInt) (ex39 : x39 = (5 : Int32) * k0) (tx39 : x39.toInt = 5 * k0.toInt) (ex40 : x40 = x39 + k1) (tx40 : x40.toInt = x39.toInt + k1.toInt) (ex41 : x41 = (σ.2.1 46) x40.toNatClampNeg) (tx41 : x41.toInt = ((σ.2.1 46) (x39.toInt + k1.toInt).toNat).toInt) (ex42 : x42 = (5 : Int32) * k0) (tx42 : x42.toInt = 5 * k0.toInt) (ex43 : x43 = x42 + k1) (tx43 : x43.toInt = x42.toInt + k1.toInt) : x41 = 0 ∨ x41 = 1 := by
  have q5 : (5 : Int32).toInt = 5 := by decide +kernel
  have bl_x41 := hpre_0 ((x39.toInt + k1.toInt).toNat)
  first | exact Or.inl rfl | exact Or.inr rfl | exact bool_of (by omega)
set_option maxHeartbeats 4000000 in
set_option maxRecDepth 100000 in
theorem M_converter (l : Launch) (D : va_G) (cy : Nat → ClassId) (sz0 : Nat) (sa : Nat → Nat) (ad : Nat → Nat) (σ : RS) (sz : Nat) (k0 : Int32) (k1 : Int32) (k2 : Int32) (hpre : BLS (σ.2.1 46) ∧ (k2.toInt = 0 ∨ k2.toInt = 1)) : Met l yX12_converter (Cond.code yX12_converter cX12_converter 6 (some .boolean) :: GWm) ({ frames := 0, cells := 0, slots := 0, locals := 0 }) (PcR D cy sz0 sa ad [.ref (ad 0), .int k0, .int k1, .int k2] σ sz) (va_Qi (fun (r : Int32) (u : Int32 × (Nat → Int32)) => (¬ (((1 ≤ k0.toInt ∧ k0.toInt ≤ 5) ∨ (8 ≤ k0.toInt ∧ k0.toInt ≤ 12)) ∧ 1 ≤ k1.toInt ∧ k1.toInt ≤ 4 ∧ ¬ k0.toInt = k1.toInt) ∧ u.1.toInt = 1 ∧ r.toInt = 0 ∧ u.2 = (σ.2.1 46)) ∨ ((((1 ≤ k0.toInt ∧ k0.toInt ≤ 5) ∨ (8 ≤ k0.toInt ∧ k0.toInt ≤ 12)) ∧ 1 ≤ k1.toInt ∧ k1.toInt ≤ 4 ∧ ¬ k0.toInt = k1.toInt) ∧ u.1.toInt = 0 ∧ r.toInt = ((σ.2.1 46) (5 * k0.toInt + k1.toInt).toNat).toInt ∧ u.2 = upd (σ.2.1 46) (5 * k0.toInt + k1.toInt).toNat k2)) (fun (u : Int32 × (Nat → Int32)) (t : State) => RP D cy ad (rA (rS σ 0 u.1) 46 u.2) t.heap) (AR cy ad sz)) 0 0 (AR cy ad sz) := by
  refine RM_of (loc0 := [(0, .ref (ad 0)), (1, .int k0), (2, .int k1), (3, .int k2)]) (by decide) rfl rfl (Nat.le_of_ble_eq_true rfl) ?_
  intro p e s m below meth c ls hsz C hP hS hl
  have hx := C.1
  have hb := C.2.1
  have hown := C.2.2.2.2.1
  have hw := C.2.2.2.2.2.1
  clear hsz
  obtain ⟨hpre_0, hpre_1⟩ := hpre
  refine lv_iload_n hx hb dX12_converter_0 rfl (lv_at hl 1 rfl) ?_
  refine lv_iconst (v := 1) hx hb dX12_converter_1 (by decide +kernel) ?_
  refine lv_icmp_lt (tgt := 10) hx hb dX12_converter_2 (by decide) (fun c1 => ?_) (fun c1 => ?_)
  · have c1 : k0.toInt < 1 := by have h := z_lt c1; rw [show (1 : Int32).toInt = 1 from by decide +kernel] at h; exact h
    refine lv_iload_n hx hb dX12_converter_10 rfl (lv_at hl 1 rfl) ?_
    refine lv_bipush (v := 8) hx hb dX12_converter_11 (by decide +kernel) ?_
    refine lv_icmp_lt (tgt := 41) hx hb dX12_converter_13 (by decide) (fun c2 => ?_) (fun c2 => ?_)
    · have c2 : k0.toInt < 8 := by have h := z_lt c2; rw [show (8 : Int32).toInt = 8 from by decide +kernel] at h; exact h
      refine lv_iconst (v := 0) hx hb dX12_converter_41 (by decide +kernel) ?_
      refine lv_istore (lv' := [(4, .int 0), (0, .ref (ad 0)), (1, .int k0), (2, .int k1), (3, .int k2)]) hx hb dX12_converter_42 hl (by decide) rfl (fun ls hl => ?_)
      refine lv_aload_n hx hb dX12_converter_44 rfl (lv_at hl 1 rfl) ?_
      refine lv_iload hx hb dX12_converter_45 (lv_at hl 0 rfl) ?_
      refine lv_if_eq (tgt := 54) hx hb dX12_converter_47 (by decide) (fun _ => ?_) (fun c3 => absurd (by decide +kernel) c3)
      refine lv_iconst (v := 1) hx hb dX12_converter_54 (by decide +kernel) ?_
      refine rp_0 C hP hS wm_1 dX12_converter_55 (fun H locs hP hS => ?_)
      refine lv_iload hx hb dX12_converter_58 (lv_at hl 0 rfl) ?_
      refine lv_if_ne (tgt := 65) hx hb dX12_converter_60 (by decide) (fun c4 => absurd (by decide +kernel) c4) (fun _ => ?_)
      refine lv_iconst (v := 0) hx hb dX12_converter_63 (by decide +kernel) ?_
      have hP : RP D cy ad (rA (rS σ 0 (1 : Int32)) 46 (σ.2.1 46)) H := RP.cong hP (Eq.trans (b := (1 : Int32)) rfl rfl) (Eq.trans (b := (σ.1 1)) rfl rfl) (Eq.trans (b := (σ.2.1 2)) rfl rfl) (Eq.trans (b := (σ.1 3)) rfl rfl) (Eq.trans (b := (σ.2.1 4)) rfl rfl) (Eq.trans (b := (σ.2.1 5)) rfl rfl) (Eq.trans (b := (σ.2.2.1 6)) rfl rfl) (Eq.trans (b := (σ.2.1 7)) rfl rfl) (Eq.trans (b := (σ.1 8)) rfl rfl) (Eq.trans (b := (σ.1 9)) rfl rfl) (Eq.trans (b := (σ.1 10)) rfl rfl) (Eq.trans (b := (σ.2.1 11)) rfl rfl) (Eq.trans (b := (σ.2.2.1 12)) rfl rfl) (Eq.trans (b := (σ.2.1 13)) rfl rfl) (Eq.trans (b := (σ.1 14)) rfl rfl) (Eq.trans (b := (σ.1 15)) rfl rfl) (Eq.trans (b := (σ.1 16)) rfl rfl) (Eq.trans (b := (σ.1 17)) rfl rfl) (Eq.trans (b := (σ.1 18)) rfl rfl) (Eq.trans (b := (σ.1 19)) rfl rfl) (Eq.trans (b := (σ.2.1 20)) rfl rfl) (Eq.trans (b := (σ.2.1 21)) rfl rfl) (Eq.trans (b := (σ.2.1 22)) rfl rfl) (Eq.trans (b := (σ.2.1 23)) rfl rfl) (Eq.trans (b := (σ.2.1 24)) rfl rfl) (Eq.trans (b := (σ.2.1 25)) rfl rfl) (Eq.trans (b := (σ.2.1 26)) rfl rfl) (Eq.trans (b := (σ.2.1 27)) rfl rfl) (Eq.trans (b := (σ.2.1 28)) rfl rfl) (Eq.trans (b := (σ.1 29)) rfl rfl) (Eq.trans (b := (σ.2.1 30)) rfl rfl) (Eq.trans (b := (σ.2.1 31)) rfl rfl) (Eq.trans (b := (σ.2.1 32)) rfl rfl) (Eq.trans (b := (σ.1 33)) rfl rfl) (Eq.trans (b := (σ.1 34)) rfl rfl) (Eq.trans (b := (σ.1 35)) rfl rfl) (Eq.trans (b := (σ.2.1 36)) rfl rfl) (Eq.trans (b := (σ.2.1 37)) rfl rfl) (Eq.trans (b := (σ.2.1 38)) rfl rfl) (Eq.trans (b := (σ.2.1 39)) rfl rfl) (Eq.trans (b := (σ.2.1 40)) rfl rfl) (Eq.trans (b := (σ.2.1 41)) rfl rfl) (Eq.trans (b := (σ.2.1 42)) rfl rfl) (Eq.trans (b := (σ.2.1 43)) rfl rfl) (Eq.trans (b := (σ.2.1 44)) rfl rfl) (Eq.trans (b := (σ.2.1 45)) rfl rfl) (Eq.trans (b := (σ.2.1 46)) rfl rfl) (Eq.trans (b := (σ.1 47)) rfl rfl) (Eq.trans (b := (σ.2.1 48)) rfl rfl) (Eq.trans (b := (σ.1 49)) rfl rfl) (Eq.trans (b := (σ.2.1 50)) rfl rfl) (Eq.trans (b := (σ.2.1 51)) rfl rfl) (Eq.trans (b := (σ.2.2.1 52)) rfl rfl) (Eq.trans (b := (σ.2.2.1 53)) rfl rfl) (Eq.trans (b := (σ.2.2.2)) rfl rfl) (Eq.trans (b := (σ.1 55)) rfl rfl) (Eq.trans (b := (σ.1 56)) rfl rfl) (Eq.trans (b := (σ.1 57)) rfl rfl) (Eq.trans (b := (σ.2.1 58)) rfl rfl) (Eq.trans (b := (σ.1 59)) rfl rfl)
      exact r_retz C ⟨(1 : Int32), (σ.2.1 46)⟩ (v_converter_2  ) (v_converter_1 σ k0 k1 k2 hpre_0 hpre_1 c1 c2) hP hS dX12_converter_64
    · have c2 : 8 ≤ k0.toInt := by have h := z_nlt c2; rw [show (8 : Int32).toInt = 8 from by decide +kernel] at h; exact h
      exact absurd (v_converter_3 k0 c1 c2) id
  · have c1 : 1 ≤ k0.toInt := by have h := z_nlt c1; rw [show (1 : Int32).toInt = 1 from by decide +kernel] at h; exact h
    refine lv_iload_n hx hb dX12_converter_5 rfl (lv_at hl 1 rfl) ?_
    refine lv_iconst (v := 5) hx hb dX12_converter_6 (by decide +kernel) ?_
    refine lv_icmp_le (tgt := 22) hx hb dX12_converter_7 (by decide) (fun c5 => ?_) (fun c5 => ?_)
    · have c5 : k0.toInt ≤ 5 := by have h := z_le c5; rw [show (5 : Int32).toInt = 5 from by decide +kernel] at h; exact h
      refine lv_iload_n hx hb dX12_converter_22 rfl (lv_at hl 2 rfl) ?_
      refine lv_iconst (v := 1) hx hb dX12_converter_23 (by decide +kernel) ?_
      refine lv_icmp_lt (tgt := 41) hx hb dX12_converter_24 (by decide) (fun c6 => ?_) (fun c6 => ?_)
      · have c6 : k1.toInt < 1 := by have h := z_lt c6; rw [show (1 : Int32).toInt = 1 from by decide +kernel] at h; exact h
        refine lv_iconst (v := 0) hx hb dX12_converter_41 (by decide +kernel) ?_
        refine lv_istore (lv' := [(4, .int 0), (0, .ref (ad 0)), (1, .int k0), (2, .int k1), (3, .int k2)]) hx hb dX12_converter_42 hl (by decide) rfl (fun ls hl => ?_)
        refine lv_aload_n hx hb dX12_converter_44 rfl (lv_at hl 1 rfl) ?_
        refine lv_iload hx hb dX12_converter_45 (lv_at hl 0 rfl) ?_
        refine lv_if_eq (tgt := 54) hx hb dX12_converter_47 (by decide) (fun _ => ?_) (fun c7 => absurd (by decide +kernel) c7)
        refine lv_iconst (v := 1) hx hb dX12_converter_54 (by decide +kernel) ?_
        refine rp_0 C hP hS wm_1 dX12_converter_55 (fun H locs hP hS => ?_)
        refine lv_iload hx hb dX12_converter_58 (lv_at hl 0 rfl) ?_
        refine lv_if_ne (tgt := 65) hx hb dX12_converter_60 (by decide) (fun c8 => absurd (by decide +kernel) c8) (fun _ => ?_)
        refine lv_iconst (v := 0) hx hb dX12_converter_63 (by decide +kernel) ?_
        have hP : RP D cy ad (rA (rS σ 0 (1 : Int32)) 46 (σ.2.1 46)) H := RP.cong hP (Eq.trans (b := (1 : Int32)) rfl rfl) (Eq.trans (b := (σ.1 1)) rfl rfl) (Eq.trans (b := (σ.2.1 2)) rfl rfl) (Eq.trans (b := (σ.1 3)) rfl rfl) (Eq.trans (b := (σ.2.1 4)) rfl rfl) (Eq.trans (b := (σ.2.1 5)) rfl rfl) (Eq.trans (b := (σ.2.2.1 6)) rfl rfl) (Eq.trans (b := (σ.2.1 7)) rfl rfl) (Eq.trans (b := (σ.1 8)) rfl rfl) (Eq.trans (b := (σ.1 9)) rfl rfl) (Eq.trans (b := (σ.1 10)) rfl rfl) (Eq.trans (b := (σ.2.1 11)) rfl rfl) (Eq.trans (b := (σ.2.2.1 12)) rfl rfl) (Eq.trans (b := (σ.2.1 13)) rfl rfl) (Eq.trans (b := (σ.1 14)) rfl rfl) (Eq.trans (b := (σ.1 15)) rfl rfl) (Eq.trans (b := (σ.1 16)) rfl rfl) (Eq.trans (b := (σ.1 17)) rfl rfl) (Eq.trans (b := (σ.1 18)) rfl rfl) (Eq.trans (b := (σ.1 19)) rfl rfl) (Eq.trans (b := (σ.2.1 20)) rfl rfl) (Eq.trans (b := (σ.2.1 21)) rfl rfl) (Eq.trans (b := (σ.2.1 22)) rfl rfl) (Eq.trans (b := (σ.2.1 23)) rfl rfl) (Eq.trans (b := (σ.2.1 24)) rfl rfl) (Eq.trans (b := (σ.2.1 25)) rfl rfl) (Eq.trans (b := (σ.2.1 26)) rfl rfl) (Eq.trans (b := (σ.2.1 27)) rfl rfl) (Eq.trans (b := (σ.2.1 28)) rfl rfl) (Eq.trans (b := (σ.1 29)) rfl rfl) (Eq.trans (b := (σ.2.1 30)) rfl rfl) (Eq.trans (b := (σ.2.1 31)) rfl rfl) (Eq.trans (b := (σ.2.1 32)) rfl rfl) (Eq.trans (b := (σ.1 33)) rfl rfl) (Eq.trans (b := (σ.1 34)) rfl rfl) (Eq.trans (b := (σ.1 35)) rfl rfl) (Eq.trans (b := (σ.2.1 36)) rfl rfl) (Eq.trans (b := (σ.2.1 37)) rfl rfl) (Eq.trans (b := (σ.2.1 38)) rfl rfl) (Eq.trans (b := (σ.2.1 39)) rfl rfl) (Eq.trans (b := (σ.2.1 40)) rfl rfl) (Eq.trans (b := (σ.2.1 41)) rfl rfl) (Eq.trans (b := (σ.2.1 42)) rfl rfl) (Eq.trans (b := (σ.2.1 43)) rfl rfl) (Eq.trans (b := (σ.2.1 44)) rfl rfl) (Eq.trans (b := (σ.2.1 45)) rfl rfl) (Eq.trans (b := (σ.2.1 46)) rfl rfl) (Eq.trans (b := (σ.1 47)) rfl rfl) (Eq.trans (b := (σ.2.1 48)) rfl rfl) (Eq.trans (b := (σ.1 49)) rfl rfl) (Eq.trans (b := (σ.2.1 50)) rfl rfl) (Eq.trans (b := (σ.2.1 51)) rfl rfl) (Eq.trans (b := (σ.2.2.1 52)) rfl rfl) (Eq.trans (b := (σ.2.2.1 53)) rfl rfl) (Eq.trans (b := (σ.2.2.2)) rfl rfl) (Eq.trans (b := (σ.1 55)) rfl rfl) (Eq.trans (b := (σ.1 56)) rfl rfl) (Eq.trans (b := (σ.1 57)) rfl rfl) (Eq.trans (b := (σ.2.1 58)) rfl rfl) (Eq.trans (b := (σ.1 59)) rfl rfl)
        exact r_retz C ⟨(1 : Int32), (σ.2.1 46)⟩ (v_converter_2  ) (v_converter_4 σ k0 k1 k2 hpre_0 hpre_1 c1 c5 c6) hP hS dX12_converter_64
      · have c6 : 1 ≤ k1.toInt := by have h := z_nlt c6; rw [show (1 : Int32).toInt = 1 from by decide +kernel] at h; exact h
        refine lv_iload_n hx hb dX12_converter_27 rfl (lv_at hl 2 rfl) ?_
        refine lv_iconst (v := 4) hx hb dX12_converter_28 (by decide +kernel) ?_
        refine lv_icmp_gt (tgt := 41) hx hb dX12_converter_29 (by decide) (fun c9 => ?_) (fun c9 => ?_)
        · have c9 : 4 < k1.toInt := by have h := z_lt c9; rw [show (4 : Int32).toInt = 4 from by decide +kernel] at h; exact h
          refine lv_iconst (v := 0) hx hb dX12_converter_41 (by decide +kernel) ?_
          refine lv_istore (lv' := [(4, .int 0), (0, .ref (ad 0)), (1, .int k0), (2, .int k1), (3, .int k2)]) hx hb dX12_converter_42 hl (by decide) rfl (fun ls hl => ?_)
          refine lv_aload_n hx hb dX12_converter_44 rfl (lv_at hl 1 rfl) ?_
          refine lv_iload hx hb dX12_converter_45 (lv_at hl 0 rfl) ?_
          refine lv_if_eq (tgt := 54) hx hb dX12_converter_47 (by decide) (fun _ => ?_) (fun c10 => absurd (by decide +kernel) c10)
          refine lv_iconst (v := 1) hx hb dX12_converter_54 (by decide +kernel) ?_
          refine rp_0 C hP hS wm_1 dX12_converter_55 (fun H locs hP hS => ?_)
          refine lv_iload hx hb dX12_converter_58 (lv_at hl 0 rfl) ?_
          refine lv_if_ne (tgt := 65) hx hb dX12_converter_60 (by decide) (fun c11 => absurd (by decide +kernel) c11) (fun _ => ?_)
          refine lv_iconst (v := 0) hx hb dX12_converter_63 (by decide +kernel) ?_
          have hP : RP D cy ad (rA (rS σ 0 (1 : Int32)) 46 (σ.2.1 46)) H := RP.cong hP (Eq.trans (b := (1 : Int32)) rfl rfl) (Eq.trans (b := (σ.1 1)) rfl rfl) (Eq.trans (b := (σ.2.1 2)) rfl rfl) (Eq.trans (b := (σ.1 3)) rfl rfl) (Eq.trans (b := (σ.2.1 4)) rfl rfl) (Eq.trans (b := (σ.2.1 5)) rfl rfl) (Eq.trans (b := (σ.2.2.1 6)) rfl rfl) (Eq.trans (b := (σ.2.1 7)) rfl rfl) (Eq.trans (b := (σ.1 8)) rfl rfl) (Eq.trans (b := (σ.1 9)) rfl rfl) (Eq.trans (b := (σ.1 10)) rfl rfl) (Eq.trans (b := (σ.2.1 11)) rfl rfl) (Eq.trans (b := (σ.2.2.1 12)) rfl rfl) (Eq.trans (b := (σ.2.1 13)) rfl rfl) (Eq.trans (b := (σ.1 14)) rfl rfl) (Eq.trans (b := (σ.1 15)) rfl rfl) (Eq.trans (b := (σ.1 16)) rfl rfl) (Eq.trans (b := (σ.1 17)) rfl rfl) (Eq.trans (b := (σ.1 18)) rfl rfl) (Eq.trans (b := (σ.1 19)) rfl rfl) (Eq.trans (b := (σ.2.1 20)) rfl rfl) (Eq.trans (b := (σ.2.1 21)) rfl rfl) (Eq.trans (b := (σ.2.1 22)) rfl rfl) (Eq.trans (b := (σ.2.1 23)) rfl rfl) (Eq.trans (b := (σ.2.1 24)) rfl rfl) (Eq.trans (b := (σ.2.1 25)) rfl rfl) (Eq.trans (b := (σ.2.1 26)) rfl rfl) (Eq.trans (b := (σ.2.1 27)) rfl rfl) (Eq.trans (b := (σ.2.1 28)) rfl rfl) (Eq.trans (b := (σ.1 29)) rfl rfl) (Eq.trans (b := (σ.2.1 30)) rfl rfl) (Eq.trans (b := (σ.2.1 31)) rfl rfl) (Eq.trans (b := (σ.2.1 32)) rfl rfl) (Eq.trans (b := (σ.1 33)) rfl rfl) (Eq.trans (b := (σ.1 34)) rfl rfl) (Eq.trans (b := (σ.1 35)) rfl rfl) (Eq.trans (b := (σ.2.1 36)) rfl rfl) (Eq.trans (b := (σ.2.1 37)) rfl rfl) (Eq.trans (b := (σ.2.1 38)) rfl rfl) (Eq.trans (b := (σ.2.1 39)) rfl rfl) (Eq.trans (b := (σ.2.1 40)) rfl rfl) (Eq.trans (b := (σ.2.1 41)) rfl rfl) (Eq.trans (b := (σ.2.1 42)) rfl rfl) (Eq.trans (b := (σ.2.1 43)) rfl rfl) (Eq.trans (b := (σ.2.1 44)) rfl rfl) (Eq.trans (b := (σ.2.1 45)) rfl rfl) (Eq.trans (b := (σ.2.1 46)) rfl rfl) (Eq.trans (b := (σ.1 47)) rfl rfl) (Eq.trans (b := (σ.2.1 48)) rfl rfl) (Eq.trans (b := (σ.1 49)) rfl rfl) (Eq.trans (b := (σ.2.1 50)) rfl rfl) (Eq.trans (b := (σ.2.1 51)) rfl rfl) (Eq.trans (b := (σ.2.2.1 52)) rfl rfl) (Eq.trans (b := (σ.2.2.1 53)) rfl rfl) (Eq.trans (b := (σ.2.2.2)) rfl rfl) (Eq.trans (b := (σ.1 55)) rfl rfl) (Eq.trans (b := (σ.1 56)) rfl rfl) (Eq.trans (b := (σ.1 57)) rfl rfl) (Eq.trans (b := (σ.2.1 58)) rfl rfl) (Eq.trans (b := (σ.1 59)) rfl rfl)
          exact r_retz C ⟨(1 : Int32), (σ.2.1 46)⟩ (v_converter_2  ) (v_converter_5 σ k0 k1 k2 hpre_0 hpre_1 c1 c5 c6 c9) hP hS dX12_converter_64
        · have c9 : k1.toInt ≤ 4 := by have h := z_nlt c9; rw [show (4 : Int32).toInt = 4 from by decide +kernel] at h; exact h
          refine lv_iload_n hx hb dX12_converter_32 rfl (lv_at hl 1 rfl) ?_
          refine lv_iload_n hx hb dX12_converter_33 rfl (lv_at hl 2 rfl) ?_
          refine lv_icmp_eq (tgt := 41) hx hb dX12_converter_34 (by decide) (fun c12 => ?_) (fun c12 => ?_)
          · have c12 : k0.toInt = k1.toInt := by have h := z_eq c12; exact h
            refine lv_iconst (v := 0) hx hb dX12_converter_41 (by decide +kernel) ?_
            refine lv_istore (lv' := [(4, .int 0), (0, .ref (ad 0)), (1, .int k0), (2, .int k1), (3, .int k2)]) hx hb dX12_converter_42 hl (by decide) rfl (fun ls hl => ?_)
            refine lv_aload_n hx hb dX12_converter_44 rfl (lv_at hl 1 rfl) ?_
            refine lv_iload hx hb dX12_converter_45 (lv_at hl 0 rfl) ?_
            refine lv_if_eq (tgt := 54) hx hb dX12_converter_47 (by decide) (fun _ => ?_) (fun c13 => absurd (by decide +kernel) c13)
            refine lv_iconst (v := 1) hx hb dX12_converter_54 (by decide +kernel) ?_
            refine rp_0 C hP hS wm_1 dX12_converter_55 (fun H locs hP hS => ?_)
            refine lv_iload hx hb dX12_converter_58 (lv_at hl 0 rfl) ?_
            refine lv_if_ne (tgt := 65) hx hb dX12_converter_60 (by decide) (fun c14 => absurd (by decide +kernel) c14) (fun _ => ?_)
            refine lv_iconst (v := 0) hx hb dX12_converter_63 (by decide +kernel) ?_
            have hP : RP D cy ad (rA (rS σ 0 (1 : Int32)) 46 (σ.2.1 46)) H := RP.cong hP (Eq.trans (b := (1 : Int32)) rfl rfl) (Eq.trans (b := (σ.1 1)) rfl rfl) (Eq.trans (b := (σ.2.1 2)) rfl rfl) (Eq.trans (b := (σ.1 3)) rfl rfl) (Eq.trans (b := (σ.2.1 4)) rfl rfl) (Eq.trans (b := (σ.2.1 5)) rfl rfl) (Eq.trans (b := (σ.2.2.1 6)) rfl rfl) (Eq.trans (b := (σ.2.1 7)) rfl rfl) (Eq.trans (b := (σ.1 8)) rfl rfl) (Eq.trans (b := (σ.1 9)) rfl rfl) (Eq.trans (b := (σ.1 10)) rfl rfl) (Eq.trans (b := (σ.2.1 11)) rfl rfl) (Eq.trans (b := (σ.2.2.1 12)) rfl rfl) (Eq.trans (b := (σ.2.1 13)) rfl rfl) (Eq.trans (b := (σ.1 14)) rfl rfl) (Eq.trans (b := (σ.1 15)) rfl rfl) (Eq.trans (b := (σ.1 16)) rfl rfl) (Eq.trans (b := (σ.1 17)) rfl rfl) (Eq.trans (b := (σ.1 18)) rfl rfl) (Eq.trans (b := (σ.1 19)) rfl rfl) (Eq.trans (b := (σ.2.1 20)) rfl rfl) (Eq.trans (b := (σ.2.1 21)) rfl rfl) (Eq.trans (b := (σ.2.1 22)) rfl rfl) (Eq.trans (b := (σ.2.1 23)) rfl rfl) (Eq.trans (b := (σ.2.1 24)) rfl rfl) (Eq.trans (b := (σ.2.1 25)) rfl rfl) (Eq.trans (b := (σ.2.1 26)) rfl rfl) (Eq.trans (b := (σ.2.1 27)) rfl rfl) (Eq.trans (b := (σ.2.1 28)) rfl rfl) (Eq.trans (b := (σ.1 29)) rfl rfl) (Eq.trans (b := (σ.2.1 30)) rfl rfl) (Eq.trans (b := (σ.2.1 31)) rfl rfl) (Eq.trans (b := (σ.2.1 32)) rfl rfl) (Eq.trans (b := (σ.1 33)) rfl rfl) (Eq.trans (b := (σ.1 34)) rfl rfl) (Eq.trans (b := (σ.1 35)) rfl rfl) (Eq.trans (b := (σ.2.1 36)) rfl rfl) (Eq.trans (b := (σ.2.1 37)) rfl rfl) (Eq.trans (b := (σ.2.1 38)) rfl rfl) (Eq.trans (b := (σ.2.1 39)) rfl rfl) (Eq.trans (b := (σ.2.1 40)) rfl rfl) (Eq.trans (b := (σ.2.1 41)) rfl rfl) (Eq.trans (b := (σ.2.1 42)) rfl rfl) (Eq.trans (b := (σ.2.1 43)) rfl rfl) (Eq.trans (b := (σ.2.1 44)) rfl rfl) (Eq.trans (b := (σ.2.1 45)) rfl rfl) (Eq.trans (b := (σ.2.1 46)) rfl rfl) (Eq.trans (b := (σ.1 47)) rfl rfl) (Eq.trans (b := (σ.2.1 48)) rfl rfl) (Eq.trans (b := (σ.1 49)) rfl rfl) (Eq.trans (b := (σ.2.1 50)) rfl rfl) (Eq.trans (b := (σ.2.1 51)) rfl rfl) (Eq.trans (b := (σ.2.2.1 52)) rfl rfl) (Eq.trans (b := (σ.2.2.1 53)) rfl rfl) (Eq.trans (b := (σ.2.2.2)) rfl rfl) (Eq.trans (b := (σ.1 55)) rfl rfl) (Eq.trans (b := (σ.1 56)) rfl rfl) (Eq.trans (b := (σ.1 57)) rfl rfl) (Eq.trans (b := (σ.2.1 58)) rfl rfl) (Eq.trans (b := (σ.1 59)) rfl rfl)
            exact r_retz C ⟨(1 : Int32), (σ.2.1 46)⟩ (v_converter_2  ) (v_converter_6 σ k0 k1 k2 hpre_0 hpre_1 c1 c5 c6 c9 c12) hP hS dX12_converter_64
          · have c12 : ¬ k0.toInt = k1.toInt := by have h := z_ne c12; exact h
            refine lv_iconst (v := 1) hx hb dX12_converter_37 (by decide +kernel) ?_
            refine lv_goto (tgt := 42) hx hb dX12_converter_38 (by decide) ?_
            refine lv_istore (lv' := [(4, .int 1), (0, .ref (ad 0)), (1, .int k0), (2, .int k1), (3, .int k2)]) hx hb dX12_converter_42 hl (by decide) rfl (fun ls hl => ?_)
            refine lv_aload_n hx hb dX12_converter_44 rfl (lv_at hl 1 rfl) ?_
            refine lv_iload hx hb dX12_converter_45 (lv_at hl 0 rfl) ?_
            refine lv_if_eq (tgt := 54) hx hb dX12_converter_47 (by decide) (fun c15 => absurd c15 (by decide +kernel)) (fun _ => ?_)
            refine lv_iconst (v := 0) hx hb dX12_converter_50 (by decide +kernel) ?_
            refine lv_goto (tgt := 55) hx hb dX12_converter_51 (by decide) ?_
            refine rp_0 C hP hS wm_1 dX12_converter_55 (fun H locs hP hS => ?_)
            refine lv_iload hx hb dX12_converter_58 (lv_at hl 0 rfl) ?_
            refine lv_if_ne (tgt := 65) hx hb dX12_converter_60 (by decide) (fun _ => ?_) (fun c16 => absurd c16 (by decide +kernel))
            refine lv_aload_n hx hb dX12_converter_65 rfl (lv_at hl 1 rfl) ?_
            refine rg_46 C hP wm_203 dX12_converter_66 ?_
            refine lv_iconst (v := 5) hx hb dX12_converter_69 (by decide +kernel) ?_
            refine lv_iload_n hx hb dX12_converter_70 rfl (lv_at hl 2 rfl) ?_
            refine lv_imul hx hb dX12_converter_71 ?_
            refine lv_topi (fun x17 ex17 => ?_)
            have tx17 : x17.toInt = 5 * k0.toInt := (v_converter_7 k0 k1 x17 c1 c5 c6 c9 c12 ex17)
            refine lv_iload_n hx hb dX12_converter_72 rfl (lv_at hl 3 rfl) ?_
            refine lv_iadd hx hb dX12_converter_73 ?_
            refine lv_topi (fun x18 ex18 => ?_)
            have tx18 : x18.toInt = x17.toInt + k1.toInt := (v_converter_8 k0 k1 x17 x18 c1 c5 c6 c9 c12 ex17 tx17 ex18)
            refine ra_46 (f := (σ.2.1 46)) C hP rfl (v_converter_9 k0 k1 x17 x18 c1 c5 c6 c9 c12 ex17 tx17 ex18 tx18) dX12_converter_74 (fun x19 ex19 => ?_)
            have tx19 : x19.toInt = ((σ.2.1 46) (x17.toInt + k1.toInt).toNat).toInt := by rw [ex19, clampN, tx18]
            refine lv_istore (lv' := [(5, .int x19), (4, .int 1), (0, .ref (ad 0)), (1, .int k0), (2, .int k1), (3, .int k2)]) hx hb dX12_converter_75 hl (by decide) rfl (fun ls hl => ?_)
            refine lv_aload_n hx hb dX12_converter_77 rfl (lv_at hl 2 rfl) ?_
            refine rg_46 C hP wm_203 dX12_converter_78 ?_
            refine lv_iconst (v := 5) hx hb dX12_converter_81 (by decide +kernel) ?_
            refine lv_iload_n hx hb dX12_converter_82 rfl (lv_at hl 3 rfl) ?_
            refine lv_imul hx hb dX12_converter_83 ?_
            refine lv_topi (fun x20 ex20 => ?_)
            have tx20 : x20.toInt = 5 * k0.toInt := (v_converter_10 σ k0 k1 x17 x18 x19 x20 hpre_0 c1 c5 c6 c9 c12 ex17 tx17 ex18 tx18 ex19 tx19 ex20)
            refine lv_iload_n hx hb dX12_converter_84 rfl (lv_at hl 4 rfl) ?_
            refine lv_iadd hx hb dX12_converter_85 ?_
            refine lv_topi (fun x21 ex21 => ?_)
            have tx21 : x21.toInt = x20.toInt + k1.toInt := (v_converter_11 σ k0 k1 x17 x18 x19 x20 x21 hpre_0 c1 c5 c6 c9 c12 ex17 tx17 ex18 tx18 ex19 tx19 ex20 tx20 ex21)
            refine lv_iload_n hx hb dX12_converter_86 rfl (lv_at hl 5 rfl) ?_
            refine rw_46 (f := (σ.2.1 46)) C hP hS rfl (v_converter_13 k2 hpre_1) (v_converter_12 σ k0 k1 x17 x18 x19 x20 x21 hpre_0 c1 c5 c6 c9 c12 ex17 tx17 ex18 tx18 ex19 tx19 ex20 tx20 ex21 tx21) dX12_converter_87 (fun H locs hP hS => ?_)
            refine lv_iload hx hb dX12_converter_88 (lv_at hl 0 rfl) ?_
            exact r_retz C ⟨(0 : Int32), (upd (σ.2.1 46) x21.toNatClampNeg k2)⟩ (v_converter_15 σ k0 k1 x17 x18 x19 x20 x21 hpre_0 c1 c5 c6 c9 c12 ex17 tx17 ex18 tx18 ex19 tx19 ex20 tx20 ex21 tx21) (v_converter_14 σ k0 k1 k2 x17 x18 x19 x20 x21 hpre_0 hpre_1 c1 c5 c6 c9 c12 ex17 tx17 ex18 tx18 ex19 tx19 ex20 tx20 ex21 tx21) hP hS dX12_converter_90
    · have c5 : 5 < k0.toInt := by have h := z_nle c5; rw [show (5 : Int32).toInt = 5 from by decide +kernel] at h; exact h
      refine lv_iload_n hx hb dX12_converter_10 rfl (lv_at hl 1 rfl) ?_
      refine lv_bipush (v := 8) hx hb dX12_converter_11 (by decide +kernel) ?_
      refine lv_icmp_lt (tgt := 41) hx hb dX12_converter_13 (by decide) (fun c22 => ?_) (fun c22 => ?_)
      · have c22 : k0.toInt < 8 := by have h := z_lt c22; rw [show (8 : Int32).toInt = 8 from by decide +kernel] at h; exact h
        refine lv_iconst (v := 0) hx hb dX12_converter_41 (by decide +kernel) ?_
        refine lv_istore (lv' := [(4, .int 0), (0, .ref (ad 0)), (1, .int k0), (2, .int k1), (3, .int k2)]) hx hb dX12_converter_42 hl (by decide) rfl (fun ls hl => ?_)
        refine lv_aload_n hx hb dX12_converter_44 rfl (lv_at hl 1 rfl) ?_
        refine lv_iload hx hb dX12_converter_45 (lv_at hl 0 rfl) ?_
        refine lv_if_eq (tgt := 54) hx hb dX12_converter_47 (by decide) (fun _ => ?_) (fun c23 => absurd (by decide +kernel) c23)
        refine lv_iconst (v := 1) hx hb dX12_converter_54 (by decide +kernel) ?_
        refine rp_0 C hP hS wm_1 dX12_converter_55 (fun H locs hP hS => ?_)
        refine lv_iload hx hb dX12_converter_58 (lv_at hl 0 rfl) ?_
        refine lv_if_ne (tgt := 65) hx hb dX12_converter_60 (by decide) (fun c24 => absurd (by decide +kernel) c24) (fun _ => ?_)
        refine lv_iconst (v := 0) hx hb dX12_converter_63 (by decide +kernel) ?_
        have hP : RP D cy ad (rA (rS σ 0 (1 : Int32)) 46 (σ.2.1 46)) H := RP.cong hP (Eq.trans (b := (1 : Int32)) rfl rfl) (Eq.trans (b := (σ.1 1)) rfl rfl) (Eq.trans (b := (σ.2.1 2)) rfl rfl) (Eq.trans (b := (σ.1 3)) rfl rfl) (Eq.trans (b := (σ.2.1 4)) rfl rfl) (Eq.trans (b := (σ.2.1 5)) rfl rfl) (Eq.trans (b := (σ.2.2.1 6)) rfl rfl) (Eq.trans (b := (σ.2.1 7)) rfl rfl) (Eq.trans (b := (σ.1 8)) rfl rfl) (Eq.trans (b := (σ.1 9)) rfl rfl) (Eq.trans (b := (σ.1 10)) rfl rfl) (Eq.trans (b := (σ.2.1 11)) rfl rfl) (Eq.trans (b := (σ.2.2.1 12)) rfl rfl) (Eq.trans (b := (σ.2.1 13)) rfl rfl) (Eq.trans (b := (σ.1 14)) rfl rfl) (Eq.trans (b := (σ.1 15)) rfl rfl) (Eq.trans (b := (σ.1 16)) rfl rfl) (Eq.trans (b := (σ.1 17)) rfl rfl) (Eq.trans (b := (σ.1 18)) rfl rfl) (Eq.trans (b := (σ.1 19)) rfl rfl) (Eq.trans (b := (σ.2.1 20)) rfl rfl) (Eq.trans (b := (σ.2.1 21)) rfl rfl) (Eq.trans (b := (σ.2.1 22)) rfl rfl) (Eq.trans (b := (σ.2.1 23)) rfl rfl) (Eq.trans (b := (σ.2.1 24)) rfl rfl) (Eq.trans (b := (σ.2.1 25)) rfl rfl) (Eq.trans (b := (σ.2.1 26)) rfl rfl) (Eq.trans (b := (σ.2.1 27)) rfl rfl) (Eq.trans (b := (σ.2.1 28)) rfl rfl) (Eq.trans (b := (σ.1 29)) rfl rfl) (Eq.trans (b := (σ.2.1 30)) rfl rfl) (Eq.trans (b := (σ.2.1 31)) rfl rfl) (Eq.trans (b := (σ.2.1 32)) rfl rfl) (Eq.trans (b := (σ.1 33)) rfl rfl) (Eq.trans (b := (σ.1 34)) rfl rfl) (Eq.trans (b := (σ.1 35)) rfl rfl) (Eq.trans (b := (σ.2.1 36)) rfl rfl) (Eq.trans (b := (σ.2.1 37)) rfl rfl) (Eq.trans (b := (σ.2.1 38)) rfl rfl) (Eq.trans (b := (σ.2.1 39)) rfl rfl) (Eq.trans (b := (σ.2.1 40)) rfl rfl) (Eq.trans (b := (σ.2.1 41)) rfl rfl) (Eq.trans (b := (σ.2.1 42)) rfl rfl) (Eq.trans (b := (σ.2.1 43)) rfl rfl) (Eq.trans (b := (σ.2.1 44)) rfl rfl) (Eq.trans (b := (σ.2.1 45)) rfl rfl) (Eq.trans (b := (σ.2.1 46)) rfl rfl) (Eq.trans (b := (σ.1 47)) rfl rfl) (Eq.trans (b := (σ.2.1 48)) rfl rfl) (Eq.trans (b := (σ.1 49)) rfl rfl) (Eq.trans (b := (σ.2.1 50)) rfl rfl) (Eq.trans (b := (σ.2.1 51)) rfl rfl) (Eq.trans (b := (σ.2.2.1 52)) rfl rfl) (Eq.trans (b := (σ.2.2.1 53)) rfl rfl) (Eq.trans (b := (σ.2.2.2)) rfl rfl) (Eq.trans (b := (σ.1 55)) rfl rfl) (Eq.trans (b := (σ.1 56)) rfl rfl) (Eq.trans (b := (σ.1 57)) rfl rfl) (Eq.trans (b := (σ.2.1 58)) rfl rfl) (Eq.trans (b := (σ.1 59)) rfl rfl)
        exact r_retz C ⟨(1 : Int32), (σ.2.1 46)⟩ (v_converter_2  ) (v_converter_16 σ k0 k1 k2 hpre_0 hpre_1 c1 c5 c22) hP hS dX12_converter_64
      · have c22 : 8 ≤ k0.toInt := by have h := z_nlt c22; rw [show (8 : Int32).toInt = 8 from by decide +kernel] at h; exact h
        refine lv_iload_n hx hb dX12_converter_16 rfl (lv_at hl 1 rfl) ?_
        refine lv_bipush (v := 12) hx hb dX12_converter_17 (by decide +kernel) ?_
        refine lv_icmp_gt (tgt := 41) hx hb dX12_converter_19 (by decide) (fun c25 => ?_) (fun c25 => ?_)
        · have c25 : 12 < k0.toInt := by have h := z_lt c25; rw [show (12 : Int32).toInt = 12 from by decide +kernel] at h; exact h
          refine lv_iconst (v := 0) hx hb dX12_converter_41 (by decide +kernel) ?_
          refine lv_istore (lv' := [(4, .int 0), (0, .ref (ad 0)), (1, .int k0), (2, .int k1), (3, .int k2)]) hx hb dX12_converter_42 hl (by decide) rfl (fun ls hl => ?_)
          refine lv_aload_n hx hb dX12_converter_44 rfl (lv_at hl 1 rfl) ?_
          refine lv_iload hx hb dX12_converter_45 (lv_at hl 0 rfl) ?_
          refine lv_if_eq (tgt := 54) hx hb dX12_converter_47 (by decide) (fun _ => ?_) (fun c26 => absurd (by decide +kernel) c26)
          refine lv_iconst (v := 1) hx hb dX12_converter_54 (by decide +kernel) ?_
          refine rp_0 C hP hS wm_1 dX12_converter_55 (fun H locs hP hS => ?_)
          refine lv_iload hx hb dX12_converter_58 (lv_at hl 0 rfl) ?_
          refine lv_if_ne (tgt := 65) hx hb dX12_converter_60 (by decide) (fun c27 => absurd (by decide +kernel) c27) (fun _ => ?_)
          refine lv_iconst (v := 0) hx hb dX12_converter_63 (by decide +kernel) ?_
          have hP : RP D cy ad (rA (rS σ 0 (1 : Int32)) 46 (σ.2.1 46)) H := RP.cong hP (Eq.trans (b := (1 : Int32)) rfl rfl) (Eq.trans (b := (σ.1 1)) rfl rfl) (Eq.trans (b := (σ.2.1 2)) rfl rfl) (Eq.trans (b := (σ.1 3)) rfl rfl) (Eq.trans (b := (σ.2.1 4)) rfl rfl) (Eq.trans (b := (σ.2.1 5)) rfl rfl) (Eq.trans (b := (σ.2.2.1 6)) rfl rfl) (Eq.trans (b := (σ.2.1 7)) rfl rfl) (Eq.trans (b := (σ.1 8)) rfl rfl) (Eq.trans (b := (σ.1 9)) rfl rfl) (Eq.trans (b := (σ.1 10)) rfl rfl) (Eq.trans (b := (σ.2.1 11)) rfl rfl) (Eq.trans (b := (σ.2.2.1 12)) rfl rfl) (Eq.trans (b := (σ.2.1 13)) rfl rfl) (Eq.trans (b := (σ.1 14)) rfl rfl) (Eq.trans (b := (σ.1 15)) rfl rfl) (Eq.trans (b := (σ.1 16)) rfl rfl) (Eq.trans (b := (σ.1 17)) rfl rfl) (Eq.trans (b := (σ.1 18)) rfl rfl) (Eq.trans (b := (σ.1 19)) rfl rfl) (Eq.trans (b := (σ.2.1 20)) rfl rfl) (Eq.trans (b := (σ.2.1 21)) rfl rfl) (Eq.trans (b := (σ.2.1 22)) rfl rfl) (Eq.trans (b := (σ.2.1 23)) rfl rfl) (Eq.trans (b := (σ.2.1 24)) rfl rfl) (Eq.trans (b := (σ.2.1 25)) rfl rfl) (Eq.trans (b := (σ.2.1 26)) rfl rfl) (Eq.trans (b := (σ.2.1 27)) rfl rfl) (Eq.trans (b := (σ.2.1 28)) rfl rfl) (Eq.trans (b := (σ.1 29)) rfl rfl) (Eq.trans (b := (σ.2.1 30)) rfl rfl) (Eq.trans (b := (σ.2.1 31)) rfl rfl) (Eq.trans (b := (σ.2.1 32)) rfl rfl) (Eq.trans (b := (σ.1 33)) rfl rfl) (Eq.trans (b := (σ.1 34)) rfl rfl) (Eq.trans (b := (σ.1 35)) rfl rfl) (Eq.trans (b := (σ.2.1 36)) rfl rfl) (Eq.trans (b := (σ.2.1 37)) rfl rfl) (Eq.trans (b := (σ.2.1 38)) rfl rfl) (Eq.trans (b := (σ.2.1 39)) rfl rfl) (Eq.trans (b := (σ.2.1 40)) rfl rfl) (Eq.trans (b := (σ.2.1 41)) rfl rfl) (Eq.trans (b := (σ.2.1 42)) rfl rfl) (Eq.trans (b := (σ.2.1 43)) rfl rfl) (Eq.trans (b := (σ.2.1 44)) rfl rfl) (Eq.trans (b := (σ.2.1 45)) rfl rfl) (Eq.trans (b := (σ.2.1 46)) rfl rfl) (Eq.trans (b := (σ.1 47)) rfl rfl) (Eq.trans (b := (σ.2.1 48)) rfl rfl) (Eq.trans (b := (σ.1 49)) rfl rfl) (Eq.trans (b := (σ.2.1 50)) rfl rfl) (Eq.trans (b := (σ.2.1 51)) rfl rfl) (Eq.trans (b := (σ.2.2.1 52)) rfl rfl) (Eq.trans (b := (σ.2.2.1 53)) rfl rfl) (Eq.trans (b := (σ.2.2.2)) rfl rfl) (Eq.trans (b := (σ.1 55)) rfl rfl) (Eq.trans (b := (σ.1 56)) rfl rfl) (Eq.trans (b := (σ.1 57)) rfl rfl) (Eq.trans (b := (σ.2.1 58)) rfl rfl) (Eq.trans (b := (σ.1 59)) rfl rfl)
          exact r_retz C ⟨(1 : Int32), (σ.2.1 46)⟩ (v_converter_2  ) (v_converter_17 σ k0 k1 k2 hpre_0 hpre_1 c1 c5 c22 c25) hP hS dX12_converter_64
        · have c25 : k0.toInt ≤ 12 := by have h := z_nlt c25; rw [show (12 : Int32).toInt = 12 from by decide +kernel] at h; exact h
          refine lv_iload_n hx hb dX12_converter_22 rfl (lv_at hl 2 rfl) ?_
          refine lv_iconst (v := 1) hx hb dX12_converter_23 (by decide +kernel) ?_
          refine lv_icmp_lt (tgt := 41) hx hb dX12_converter_24 (by decide) (fun c28 => ?_) (fun c28 => ?_)
          · have c28 : k1.toInt < 1 := by have h := z_lt c28; rw [show (1 : Int32).toInt = 1 from by decide +kernel] at h; exact h
            refine lv_iconst (v := 0) hx hb dX12_converter_41 (by decide +kernel) ?_
            refine lv_istore (lv' := [(4, .int 0), (0, .ref (ad 0)), (1, .int k0), (2, .int k1), (3, .int k2)]) hx hb dX12_converter_42 hl (by decide) rfl (fun ls hl => ?_)
            refine lv_aload_n hx hb dX12_converter_44 rfl (lv_at hl 1 rfl) ?_
            refine lv_iload hx hb dX12_converter_45 (lv_at hl 0 rfl) ?_
            refine lv_if_eq (tgt := 54) hx hb dX12_converter_47 (by decide) (fun _ => ?_) (fun c29 => absurd (by decide +kernel) c29)
            refine lv_iconst (v := 1) hx hb dX12_converter_54 (by decide +kernel) ?_
            refine rp_0 C hP hS wm_1 dX12_converter_55 (fun H locs hP hS => ?_)
            refine lv_iload hx hb dX12_converter_58 (lv_at hl 0 rfl) ?_
            refine lv_if_ne (tgt := 65) hx hb dX12_converter_60 (by decide) (fun c30 => absurd (by decide +kernel) c30) (fun _ => ?_)
            refine lv_iconst (v := 0) hx hb dX12_converter_63 (by decide +kernel) ?_
            have hP : RP D cy ad (rA (rS σ 0 (1 : Int32)) 46 (σ.2.1 46)) H := RP.cong hP (Eq.trans (b := (1 : Int32)) rfl rfl) (Eq.trans (b := (σ.1 1)) rfl rfl) (Eq.trans (b := (σ.2.1 2)) rfl rfl) (Eq.trans (b := (σ.1 3)) rfl rfl) (Eq.trans (b := (σ.2.1 4)) rfl rfl) (Eq.trans (b := (σ.2.1 5)) rfl rfl) (Eq.trans (b := (σ.2.2.1 6)) rfl rfl) (Eq.trans (b := (σ.2.1 7)) rfl rfl) (Eq.trans (b := (σ.1 8)) rfl rfl) (Eq.trans (b := (σ.1 9)) rfl rfl) (Eq.trans (b := (σ.1 10)) rfl rfl) (Eq.trans (b := (σ.2.1 11)) rfl rfl) (Eq.trans (b := (σ.2.2.1 12)) rfl rfl) (Eq.trans (b := (σ.2.1 13)) rfl rfl) (Eq.trans (b := (σ.1 14)) rfl rfl) (Eq.trans (b := (σ.1 15)) rfl rfl) (Eq.trans (b := (σ.1 16)) rfl rfl) (Eq.trans (b := (σ.1 17)) rfl rfl) (Eq.trans (b := (σ.1 18)) rfl rfl) (Eq.trans (b := (σ.1 19)) rfl rfl) (Eq.trans (b := (σ.2.1 20)) rfl rfl) (Eq.trans (b := (σ.2.1 21)) rfl rfl) (Eq.trans (b := (σ.2.1 22)) rfl rfl) (Eq.trans (b := (σ.2.1 23)) rfl rfl) (Eq.trans (b := (σ.2.1 24)) rfl rfl) (Eq.trans (b := (σ.2.1 25)) rfl rfl) (Eq.trans (b := (σ.2.1 26)) rfl rfl) (Eq.trans (b := (σ.2.1 27)) rfl rfl) (Eq.trans (b := (σ.2.1 28)) rfl rfl) (Eq.trans (b := (σ.1 29)) rfl rfl) (Eq.trans (b := (σ.2.1 30)) rfl rfl) (Eq.trans (b := (σ.2.1 31)) rfl rfl) (Eq.trans (b := (σ.2.1 32)) rfl rfl) (Eq.trans (b := (σ.1 33)) rfl rfl) (Eq.trans (b := (σ.1 34)) rfl rfl) (Eq.trans (b := (σ.1 35)) rfl rfl) (Eq.trans (b := (σ.2.1 36)) rfl rfl) (Eq.trans (b := (σ.2.1 37)) rfl rfl) (Eq.trans (b := (σ.2.1 38)) rfl rfl) (Eq.trans (b := (σ.2.1 39)) rfl rfl) (Eq.trans (b := (σ.2.1 40)) rfl rfl) (Eq.trans (b := (σ.2.1 41)) rfl rfl) (Eq.trans (b := (σ.2.1 42)) rfl rfl) (Eq.trans (b := (σ.2.1 43)) rfl rfl) (Eq.trans (b := (σ.2.1 44)) rfl rfl) (Eq.trans (b := (σ.2.1 45)) rfl rfl) (Eq.trans (b := (σ.2.1 46)) rfl rfl) (Eq.trans (b := (σ.1 47)) rfl rfl) (Eq.trans (b := (σ.2.1 48)) rfl rfl) (Eq.trans (b := (σ.1 49)) rfl rfl) (Eq.trans (b := (σ.2.1 50)) rfl rfl) (Eq.trans (b := (σ.2.1 51)) rfl rfl) (Eq.trans (b := (σ.2.2.1 52)) rfl rfl) (Eq.trans (b := (σ.2.2.1 53)) rfl rfl) (Eq.trans (b := (σ.2.2.2)) rfl rfl) (Eq.trans (b := (σ.1 55)) rfl rfl) (Eq.trans (b := (σ.1 56)) rfl rfl) (Eq.trans (b := (σ.1 57)) rfl rfl) (Eq.trans (b := (σ.2.1 58)) rfl rfl) (Eq.trans (b := (σ.1 59)) rfl rfl)
            exact r_retz C ⟨(1 : Int32), (σ.2.1 46)⟩ (v_converter_2  ) (v_converter_18 σ k0 k1 k2 hpre_0 hpre_1 c1 c5 c22 c25 c28) hP hS dX12_converter_64
          · have c28 : 1 ≤ k1.toInt := by have h := z_nlt c28; rw [show (1 : Int32).toInt = 1 from by decide +kernel] at h; exact h
            refine lv_iload_n hx hb dX12_converter_27 rfl (lv_at hl 2 rfl) ?_
            refine lv_iconst (v := 4) hx hb dX12_converter_28 (by decide +kernel) ?_
            refine lv_icmp_gt (tgt := 41) hx hb dX12_converter_29 (by decide) (fun c31 => ?_) (fun c31 => ?_)
            · have c31 : 4 < k1.toInt := by have h := z_lt c31; rw [show (4 : Int32).toInt = 4 from by decide +kernel] at h; exact h
              refine lv_iconst (v := 0) hx hb dX12_converter_41 (by decide +kernel) ?_
              refine lv_istore (lv' := [(4, .int 0), (0, .ref (ad 0)), (1, .int k0), (2, .int k1), (3, .int k2)]) hx hb dX12_converter_42 hl (by decide) rfl (fun ls hl => ?_)
              refine lv_aload_n hx hb dX12_converter_44 rfl (lv_at hl 1 rfl) ?_
              refine lv_iload hx hb dX12_converter_45 (lv_at hl 0 rfl) ?_
              refine lv_if_eq (tgt := 54) hx hb dX12_converter_47 (by decide) (fun _ => ?_) (fun c32 => absurd (by decide +kernel) c32)
              refine lv_iconst (v := 1) hx hb dX12_converter_54 (by decide +kernel) ?_
              refine rp_0 C hP hS wm_1 dX12_converter_55 (fun H locs hP hS => ?_)
              refine lv_iload hx hb dX12_converter_58 (lv_at hl 0 rfl) ?_
              refine lv_if_ne (tgt := 65) hx hb dX12_converter_60 (by decide) (fun c33 => absurd (by decide +kernel) c33) (fun _ => ?_)
              refine lv_iconst (v := 0) hx hb dX12_converter_63 (by decide +kernel) ?_
              have hP : RP D cy ad (rA (rS σ 0 (1 : Int32)) 46 (σ.2.1 46)) H := RP.cong hP (Eq.trans (b := (1 : Int32)) rfl rfl) (Eq.trans (b := (σ.1 1)) rfl rfl) (Eq.trans (b := (σ.2.1 2)) rfl rfl) (Eq.trans (b := (σ.1 3)) rfl rfl) (Eq.trans (b := (σ.2.1 4)) rfl rfl) (Eq.trans (b := (σ.2.1 5)) rfl rfl) (Eq.trans (b := (σ.2.2.1 6)) rfl rfl) (Eq.trans (b := (σ.2.1 7)) rfl rfl) (Eq.trans (b := (σ.1 8)) rfl rfl) (Eq.trans (b := (σ.1 9)) rfl rfl) (Eq.trans (b := (σ.1 10)) rfl rfl) (Eq.trans (b := (σ.2.1 11)) rfl rfl) (Eq.trans (b := (σ.2.2.1 12)) rfl rfl) (Eq.trans (b := (σ.2.1 13)) rfl rfl) (Eq.trans (b := (σ.1 14)) rfl rfl) (Eq.trans (b := (σ.1 15)) rfl rfl) (Eq.trans (b := (σ.1 16)) rfl rfl) (Eq.trans (b := (σ.1 17)) rfl rfl) (Eq.trans (b := (σ.1 18)) rfl rfl) (Eq.trans (b := (σ.1 19)) rfl rfl) (Eq.trans (b := (σ.2.1 20)) rfl rfl) (Eq.trans (b := (σ.2.1 21)) rfl rfl) (Eq.trans (b := (σ.2.1 22)) rfl rfl) (Eq.trans (b := (σ.2.1 23)) rfl rfl) (Eq.trans (b := (σ.2.1 24)) rfl rfl) (Eq.trans (b := (σ.2.1 25)) rfl rfl) (Eq.trans (b := (σ.2.1 26)) rfl rfl) (Eq.trans (b := (σ.2.1 27)) rfl rfl) (Eq.trans (b := (σ.2.1 28)) rfl rfl) (Eq.trans (b := (σ.1 29)) rfl rfl) (Eq.trans (b := (σ.2.1 30)) rfl rfl) (Eq.trans (b := (σ.2.1 31)) rfl rfl) (Eq.trans (b := (σ.2.1 32)) rfl rfl) (Eq.trans (b := (σ.1 33)) rfl rfl) (Eq.trans (b := (σ.1 34)) rfl rfl) (Eq.trans (b := (σ.1 35)) rfl rfl) (Eq.trans (b := (σ.2.1 36)) rfl rfl) (Eq.trans (b := (σ.2.1 37)) rfl rfl) (Eq.trans (b := (σ.2.1 38)) rfl rfl) (Eq.trans (b := (σ.2.1 39)) rfl rfl) (Eq.trans (b := (σ.2.1 40)) rfl rfl) (Eq.trans (b := (σ.2.1 41)) rfl rfl) (Eq.trans (b := (σ.2.1 42)) rfl rfl) (Eq.trans (b := (σ.2.1 43)) rfl rfl) (Eq.trans (b := (σ.2.1 44)) rfl rfl) (Eq.trans (b := (σ.2.1 45)) rfl rfl) (Eq.trans (b := (σ.2.1 46)) rfl rfl) (Eq.trans (b := (σ.1 47)) rfl rfl) (Eq.trans (b := (σ.2.1 48)) rfl rfl) (Eq.trans (b := (σ.1 49)) rfl rfl) (Eq.trans (b := (σ.2.1 50)) rfl rfl) (Eq.trans (b := (σ.2.1 51)) rfl rfl) (Eq.trans (b := (σ.2.2.1 52)) rfl rfl) (Eq.trans (b := (σ.2.2.1 53)) rfl rfl) (Eq.trans (b := (σ.2.2.2)) rfl rfl) (Eq.trans (b := (σ.1 55)) rfl rfl) (Eq.trans (b := (σ.1 56)) rfl rfl) (Eq.trans (b := (σ.1 57)) rfl rfl) (Eq.trans (b := (σ.2.1 58)) rfl rfl) (Eq.trans (b := (σ.1 59)) rfl rfl)
              exact r_retz C ⟨(1 : Int32), (σ.2.1 46)⟩ (v_converter_2  ) (v_converter_19 σ k0 k1 k2 hpre_0 hpre_1 c1 c5 c22 c25 c28 c31) hP hS dX12_converter_64
            · have c31 : k1.toInt ≤ 4 := by have h := z_nlt c31; rw [show (4 : Int32).toInt = 4 from by decide +kernel] at h; exact h
              refine lv_iload_n hx hb dX12_converter_32 rfl (lv_at hl 1 rfl) ?_
              refine lv_iload_n hx hb dX12_converter_33 rfl (lv_at hl 2 rfl) ?_
              refine lv_icmp_eq (tgt := 41) hx hb dX12_converter_34 (by decide) (fun c34 => ?_) (fun c34 => ?_)
              · have c34 : k0.toInt = k1.toInt := by have h := z_eq c34; exact h
                refine lv_iconst (v := 0) hx hb dX12_converter_41 (by decide +kernel) ?_
                refine lv_istore (lv' := [(4, .int 0), (0, .ref (ad 0)), (1, .int k0), (2, .int k1), (3, .int k2)]) hx hb dX12_converter_42 hl (by decide) rfl (fun ls hl => ?_)
                refine lv_aload_n hx hb dX12_converter_44 rfl (lv_at hl 1 rfl) ?_
                refine lv_iload hx hb dX12_converter_45 (lv_at hl 0 rfl) ?_
                refine lv_if_eq (tgt := 54) hx hb dX12_converter_47 (by decide) (fun _ => ?_) (fun c35 => absurd (by decide +kernel) c35)
                refine lv_iconst (v := 1) hx hb dX12_converter_54 (by decide +kernel) ?_
                refine rp_0 C hP hS wm_1 dX12_converter_55 (fun H locs hP hS => ?_)
                refine lv_iload hx hb dX12_converter_58 (lv_at hl 0 rfl) ?_
                refine lv_if_ne (tgt := 65) hx hb dX12_converter_60 (by decide) (fun c36 => absurd (by decide +kernel) c36) (fun _ => ?_)
                refine lv_iconst (v := 0) hx hb dX12_converter_63 (by decide +kernel) ?_
                have hP : RP D cy ad (rA (rS σ 0 (1 : Int32)) 46 (σ.2.1 46)) H := RP.cong hP (Eq.trans (b := (1 : Int32)) rfl rfl) (Eq.trans (b := (σ.1 1)) rfl rfl) (Eq.trans (b := (σ.2.1 2)) rfl rfl) (Eq.trans (b := (σ.1 3)) rfl rfl) (Eq.trans (b := (σ.2.1 4)) rfl rfl) (Eq.trans (b := (σ.2.1 5)) rfl rfl) (Eq.trans (b := (σ.2.2.1 6)) rfl rfl) (Eq.trans (b := (σ.2.1 7)) rfl rfl) (Eq.trans (b := (σ.1 8)) rfl rfl) (Eq.trans (b := (σ.1 9)) rfl rfl) (Eq.trans (b := (σ.1 10)) rfl rfl) (Eq.trans (b := (σ.2.1 11)) rfl rfl) (Eq.trans (b := (σ.2.2.1 12)) rfl rfl) (Eq.trans (b := (σ.2.1 13)) rfl rfl) (Eq.trans (b := (σ.1 14)) rfl rfl) (Eq.trans (b := (σ.1 15)) rfl rfl) (Eq.trans (b := (σ.1 16)) rfl rfl) (Eq.trans (b := (σ.1 17)) rfl rfl) (Eq.trans (b := (σ.1 18)) rfl rfl) (Eq.trans (b := (σ.1 19)) rfl rfl) (Eq.trans (b := (σ.2.1 20)) rfl rfl) (Eq.trans (b := (σ.2.1 21)) rfl rfl) (Eq.trans (b := (σ.2.1 22)) rfl rfl) (Eq.trans (b := (σ.2.1 23)) rfl rfl) (Eq.trans (b := (σ.2.1 24)) rfl rfl) (Eq.trans (b := (σ.2.1 25)) rfl rfl) (Eq.trans (b := (σ.2.1 26)) rfl rfl) (Eq.trans (b := (σ.2.1 27)) rfl rfl) (Eq.trans (b := (σ.2.1 28)) rfl rfl) (Eq.trans (b := (σ.1 29)) rfl rfl) (Eq.trans (b := (σ.2.1 30)) rfl rfl) (Eq.trans (b := (σ.2.1 31)) rfl rfl) (Eq.trans (b := (σ.2.1 32)) rfl rfl) (Eq.trans (b := (σ.1 33)) rfl rfl) (Eq.trans (b := (σ.1 34)) rfl rfl) (Eq.trans (b := (σ.1 35)) rfl rfl) (Eq.trans (b := (σ.2.1 36)) rfl rfl) (Eq.trans (b := (σ.2.1 37)) rfl rfl) (Eq.trans (b := (σ.2.1 38)) rfl rfl) (Eq.trans (b := (σ.2.1 39)) rfl rfl) (Eq.trans (b := (σ.2.1 40)) rfl rfl) (Eq.trans (b := (σ.2.1 41)) rfl rfl) (Eq.trans (b := (σ.2.1 42)) rfl rfl) (Eq.trans (b := (σ.2.1 43)) rfl rfl) (Eq.trans (b := (σ.2.1 44)) rfl rfl) (Eq.trans (b := (σ.2.1 45)) rfl rfl) (Eq.trans (b := (σ.2.1 46)) rfl rfl) (Eq.trans (b := (σ.1 47)) rfl rfl) (Eq.trans (b := (σ.2.1 48)) rfl rfl) (Eq.trans (b := (σ.1 49)) rfl rfl) (Eq.trans (b := (σ.2.1 50)) rfl rfl) (Eq.trans (b := (σ.2.1 51)) rfl rfl) (Eq.trans (b := (σ.2.2.1 52)) rfl rfl) (Eq.trans (b := (σ.2.2.1 53)) rfl rfl) (Eq.trans (b := (σ.2.2.2)) rfl rfl) (Eq.trans (b := (σ.1 55)) rfl rfl) (Eq.trans (b := (σ.1 56)) rfl rfl) (Eq.trans (b := (σ.1 57)) rfl rfl) (Eq.trans (b := (σ.2.1 58)) rfl rfl) (Eq.trans (b := (σ.1 59)) rfl rfl)
                exact r_retz C ⟨(1 : Int32), (σ.2.1 46)⟩ (v_converter_2  ) (v_converter_20 σ k0 k1 k2 hpre_0 hpre_1 c1 c5 c22 c25 c28 c31 c34) hP hS dX12_converter_64
              · have c34 : ¬ k0.toInt = k1.toInt := by have h := z_ne c34; exact h
                refine lv_iconst (v := 1) hx hb dX12_converter_37 (by decide +kernel) ?_
                refine lv_goto (tgt := 42) hx hb dX12_converter_38 (by decide) ?_
                refine lv_istore (lv' := [(4, .int 1), (0, .ref (ad 0)), (1, .int k0), (2, .int k1), (3, .int k2)]) hx hb dX12_converter_42 hl (by decide) rfl (fun ls hl => ?_)
                refine lv_aload_n hx hb dX12_converter_44 rfl (lv_at hl 1 rfl) ?_
                refine lv_iload hx hb dX12_converter_45 (lv_at hl 0 rfl) ?_
                refine lv_if_eq (tgt := 54) hx hb dX12_converter_47 (by decide) (fun c37 => absurd c37 (by decide +kernel)) (fun _ => ?_)
                refine lv_iconst (v := 0) hx hb dX12_converter_50 (by decide +kernel) ?_
                refine lv_goto (tgt := 55) hx hb dX12_converter_51 (by decide) ?_
                refine rp_0 C hP hS wm_1 dX12_converter_55 (fun H locs hP hS => ?_)
                refine lv_iload hx hb dX12_converter_58 (lv_at hl 0 rfl) ?_
                refine lv_if_ne (tgt := 65) hx hb dX12_converter_60 (by decide) (fun _ => ?_) (fun c38 => absurd c38 (by decide +kernel))
                refine lv_aload_n hx hb dX12_converter_65 rfl (lv_at hl 1 rfl) ?_
                refine rg_46 C hP wm_203 dX12_converter_66 ?_
                refine lv_iconst (v := 5) hx hb dX12_converter_69 (by decide +kernel) ?_
                refine lv_iload_n hx hb dX12_converter_70 rfl (lv_at hl 2 rfl) ?_
                refine lv_imul hx hb dX12_converter_71 ?_
                refine lv_topi (fun x39 ex39 => ?_)
                have tx39 : x39.toInt = 5 * k0.toInt := (v_converter_21 k0 k1 x39 c1 c5 c22 c25 c28 c31 c34 ex39)
                refine lv_iload_n hx hb dX12_converter_72 rfl (lv_at hl 3 rfl) ?_
                refine lv_iadd hx hb dX12_converter_73 ?_
                refine lv_topi (fun x40 ex40 => ?_)
                have tx40 : x40.toInt = x39.toInt + k1.toInt := (v_converter_22 k0 k1 x39 x40 c1 c5 c22 c25 c28 c31 c34 ex39 tx39 ex40)
                refine ra_46 (f := (σ.2.1 46)) C hP rfl (v_converter_23 k0 k1 x39 x40 c1 c5 c22 c25 c28 c31 c34 ex39 tx39 ex40 tx40) dX12_converter_74 (fun x41 ex41 => ?_)
                have tx41 : x41.toInt = ((σ.2.1 46) (x39.toInt + k1.toInt).toNat).toInt := by rw [ex41, clampN, tx40]
                refine lv_istore (lv' := [(5, .int x41), (4, .int 1), (0, .ref (ad 0)), (1, .int k0), (2, .int k1), (3, .int k2)]) hx hb dX12_converter_75 hl (by decide) rfl (fun ls hl => ?_)
                refine lv_aload_n hx hb dX12_converter_77 rfl (lv_at hl 2 rfl) ?_
                refine rg_46 C hP wm_203 dX12_converter_78 ?_
                refine lv_iconst (v := 5) hx hb dX12_converter_81 (by decide +kernel) ?_
                refine lv_iload_n hx hb dX12_converter_82 rfl (lv_at hl 3 rfl) ?_
                refine lv_imul hx hb dX12_converter_83 ?_
                refine lv_topi (fun x42 ex42 => ?_)
                have tx42 : x42.toInt = 5 * k0.toInt := (v_converter_24 σ k0 k1 x39 x40 x41 x42 hpre_0 c1 c5 c22 c25 c28 c31 c34 ex39 tx39 ex40 tx40 ex41 tx41 ex42)
                refine lv_iload_n hx hb dX12_converter_84 rfl (lv_at hl 4 rfl) ?_
                refine lv_iadd hx hb dX12_converter_85 ?_
                refine lv_topi (fun x43 ex43 => ?_)
                have tx43 : x43.toInt = x42.toInt + k1.toInt := (v_converter_25 σ k0 k1 x39 x40 x41 x42 x43 hpre_0 c1 c5 c22 c25 c28 c31 c34 ex39 tx39 ex40 tx40 ex41 tx41 ex42 tx42 ex43)
                refine lv_iload_n hx hb dX12_converter_86 rfl (lv_at hl 5 rfl) ?_
                refine rw_46 (f := (σ.2.1 46)) C hP hS rfl (v_converter_13 k2 hpre_1) (v_converter_26 σ k0 k1 x39 x40 x41 x42 x43 hpre_0 c1 c5 c22 c25 c28 c31 c34 ex39 tx39 ex40 tx40 ex41 tx41 ex42 tx42 ex43 tx43) dX12_converter_87 (fun H locs hP hS => ?_)
                refine lv_iload hx hb dX12_converter_88 (lv_at hl 0 rfl) ?_
                exact r_retz C ⟨(0 : Int32), (upd (σ.2.1 46) x43.toNatClampNeg k2)⟩ (v_converter_28 σ k0 k1 x39 x40 x41 x42 x43 hpre_0 c1 c5 c22 c25 c28 c31 c34 ex39 tx39 ex40 tx40 ex41 tx41 ex42 tx42 ex43 tx43) (v_converter_27 σ k0 k1 k2 x39 x40 x41 x42 x43 hpre_0 hpre_1 c1 c5 c22 c25 c28 c31 c34 ex39 tx39 ex40 tx40 ex41 tx41 ex42 tx42 ex43 tx43) hP hS dX12_converter_90
