-- pre:X11_familyAt@2 @2
theorem vX11_field_1 (κ : KS) (hpre_0 : 0 ≤ (κ.1 1).toInt) (hpre_1 : (κ.1 1).toInt ≤ 5) : 0 ≤ (κ.1 1).toInt ∧ (κ.1 1).toInt ≤ 5 := by
  refine ⟨?_, ?_⟩ <;> first | assumption | omega | (subst_vars; omega) | trivial
-- thrown @27
theorem vX11_field_2 (κ : KS) (k0 : Int32) (k1 : Int32) (k2 : Int32) (hpre_0 : 0 ≤ (κ.1 1).toInt) (hpre_1 : (κ.1 1).toInt ≤ 5) (hr1_1_0 : (0 ≤ k0.toInt ∧ k0.toInt < (κ.1 1).toInt) → on1 none = 1) (hr1_1_1 : ¬ (0 ≤ k0.toInt ∧ k0.toInt < (κ.1 1).toInt) → on1 none = 0) (hr1_1_2 : (0 ≤ k0.toInt ∧ k0.toInt < (κ.1 1).toInt) → none = (κ.2.2.2.1 7) k0.toNatClampNeg) : ¬ ((0 ≤ k0.toInt ∧ k0.toInt < (κ.1 1).toInt) ∧ (1 ≤ k1.toInt ∧ k1.toInt ≤ 14348906) ∧ ((1 ≤ k2.toInt ∧ k2.toInt ≤ 5) ∨ (8 ≤ k2.toInt ∧ k2.toInt < 8 + (κ.1 1).toInt))) := by
  have zo0 : on1 none = 0 := rfl
  omega
-- xpost @27
theorem vX11_field_3 (κ : KS)  : κ.2.2.2.2 = κ.2.2.2.2 := by
  first | assumption | omega | (subst_vars; omega) | trivial
-- thrown @27
theorem vX11_field_4 (κ : KS) (k0 : Int32) (k1 : Int32) (k2 : Int32) (b2 : Nat) (r3 : Int32) (hpre_0 : 0 ≤ (κ.1 1).toInt) (hpre_1 : (κ.1 1).toInt ≤ 5) (hr1_1_0 : (0 ≤ k0.toInt ∧ k0.toInt < (κ.1 1).toInt) → on1 (some b2) = 1) (hr1_1_1 : ¬ (0 ≤ k0.toInt ∧ k0.toInt < (κ.1 1).toInt) → on1 (some b2) = 0) (hr1_1_2 : (0 ≤ k0.toInt ∧ k0.toInt < (κ.1 1).toInt) → (some b2) = (κ.2.2.2.1 7) k0.toNatClampNeg) (hr3_0_0 : 0 ≤ r3.toInt) (hr3_0_1 : r3.toInt ≤ 1) (hr3_1_0 : (1 ≤ k1.toInt ∧ k1.toInt ≤ 14348906) → r3.toInt = 1) (hr3_1_1 : ¬ (1 ≤ k1.toInt ∧ k1.toInt ≤ 14348906) → r3.toInt = 0) (c4 : r3.toInt = 0) : ¬ ((0 ≤ k0.toInt ∧ k0.toInt < (κ.1 1).toInt) ∧ (1 ≤ k1.toInt ∧ k1.toInt ≤ 14348906) ∧ ((1 ≤ k2.toInt ∧ k2.toInt ≤ 5) ∨ (8 ≤ k2.toInt ∧ k2.toInt < 8 + (κ.1 1).toInt))) := by
  have zo0 : on1 (some b2) = 1 := rfl
  omega
-- pre:X11_isType@21 @21
theorem vX11_field_5 (κ : KS) (k0 : Int32) (b2 : Nat) (hpre_0 : 0 ≤ (κ.1 1).toInt) (hpre_1 : (κ.1 1).toInt ≤ 5) (hr1_1_0 : (0 ≤ k0.toInt ∧ k0.toInt < (κ.1 1).toInt) → on1 (some b2) = 1) (hr1_1_1 : ¬ (0 ≤ k0.toInt ∧ k0.toInt < (κ.1 1).toInt) → on1 (some b2) = 0) (hr1_1_2 : (0 ≤ k0.toInt ∧ k0.toInt < (κ.1 1).toInt) → (some b2) = (κ.2.2.2.1 7) k0.toNatClampNeg) : 0 ≤ (κ.1 1).toInt ∧ (κ.1 1).toInt ≤ 5 := by
  have zo0 : on1 (some b2) = 1 := rfl
  refine ⟨?_, ?_⟩ <;> first | assumption | omega | (subst_vars; omega) | trivial
-- thrown @63
theorem vX11_field_6 (κ : KS) (k0 : Int32) (k1 : Int32) (k2 : Int32) (b2 : Nat) (r3 : Int32) (r5 : Int32) (x7 : Int32) (hpre_0 : 0 ≤ (κ.1 1).toInt) (hpre_1 : (κ.1 1).toInt ≤ 5) (hr1_1_0 : (0 ≤ k0.toInt ∧ k0.toInt < (κ.1 1).toInt) → on1 (some b2) = 1) (hr1_1_1 : ¬ (0 ≤ k0.toInt ∧ k0.toInt < (κ.1 1).toInt) → on1 (some b2) = 0) (hr1_1_2 : (0 ≤ k0.toInt ∧ k0.toInt < (κ.1 1).toInt) → (some b2) = (κ.2.2.2.1 7) k0.toNatClampNeg) (hr3_0_0 : 0 ≤ r3.toInt) (hr3_0_1 : r3.toInt ≤ 1) (hr3_1_0 : (1 ≤ k1.toInt ∧ k1.toInt ≤ 14348906) → r3.toInt = 1) (hr3_1_1 : ¬ (1 ≤ k1.toInt ∧ k1.toInt ≤ 14348906) → r3.toInt = 0) (c4 : ¬ r3.toInt = 0) (hr5_0_0 : 0 ≤ r5.toInt) (hr5_0_1 : r5.toInt ≤ 1) (hr5_1_0 : ((1 ≤ k2.toInt ∧ k2.toInt ≤ 5) ∨ (8 ≤ k2.toInt ∧ k2.toInt < 8 + (κ.1 1).toInt)) → r5.toInt = 1) (hr5_1_1 : ¬ ((1 ≤ k2.toInt ∧ k2.toInt ≤ 5) ∨ (8 ≤ k2.toInt ∧ k2.toInt < 8 + (κ.1 1).toInt)) → r5.toInt = 0) (c6 : ¬ r5.toInt = 0) (ex7 : oI κ.2.2.2.2 8 b2 = x7) (bx7_0 : 0 ≤ x7.toInt) (bx7_1 : x7.toInt ≤ 6) (c8 : 6 ≤ x7.toInt) : ((0 ≤ k0.toInt ∧ k0.toInt < (κ.1 1).toInt) ∧ (1 ≤ k1.toInt ∧ k1.toInt ≤ 14348906) ∧ ((1 ≤ k2.toInt ∧ k2.toInt ≤ 5) ∨ (8 ≤ k2.toInt ∧ k2.toInt < 8 + (κ.1 1).toInt))) ∧ ∃ a, (κ.2.2.2.1 7) k0.toNatClampNeg = some a ∧ (6 ≤ (oI κ.2.2.2.2 8 a).toInt ∨ ON κ.2.2.2.2 a (oI κ.2.2.2.2 8 a).toInt k1 ∨ 0 < (κ.1 2).toInt) := by
  have zo0 : on1 (some b2) = 1 := rfl
  refine ⟨by omega, _, (hr1_1_2 (by omega)).symm, ?_⟩
  first
  | (left; rw [ex7]; omega)
  | (right; right; omega)
-- xpost @63
theorem vX11_field_7 (κ : KS) (k0 : Int32) (b2 : Nat) (x7 : Int32) (hpre_0 : 0 ≤ (κ.1 1).toInt) (hpre_1 : (κ.1 1).toInt ≤ 5) (hr1_1_0 : (0 ≤ k0.toInt ∧ k0.toInt < (κ.1 1).toInt) → on1 (some b2) = 1) (hr1_1_1 : ¬ (0 ≤ k0.toInt ∧ k0.toInt < (κ.1 1).toInt) → on1 (some b2) = 0) (hr1_1_2 : (0 ≤ k0.toInt ∧ k0.toInt < (κ.1 1).toInt) → (some b2) = (κ.2.2.2.1 7) k0.toNatClampNeg) (ex7 : oI κ.2.2.2.2 8 b2 = x7) (bx7_0 : 0 ≤ x7.toInt) (bx7_1 : x7.toInt ≤ 6) (c8 : 6 ≤ x7.toInt) : κ.2.2.2.2 = κ.2.2.2.2 := by
  have zo0 : on1 (some b2) = 1 := rfl
  first | assumption | omega | (subst_vars; omega) | trivial
-- post @85
theorem vX11_field_8 (κ : KS) (k0 : Int32) (k1 : Int32) (k2 : Int32) (b2 : Nat) (r3 : Int32) (r5 : Int32) (x7 : Int32) (P13 : PL) (x15 : Int32) (hpre_0 : 0 ≤ (κ.1 1).toInt) (hpre_1 : (κ.1 1).toInt ≤ 5) (hr1_1_0 : (0 ≤ k0.toInt ∧ k0.toInt < (κ.1 1).toInt) → on1 (some b2) = 1) (hr1_1_1 : ¬ (0 ≤ k0.toInt ∧ k0.toInt < (κ.1 1).toInt) → on1 (some b2) = 0) (hr1_1_2 : (0 ≤ k0.toInt ∧ k0.toInt < (κ.1 1).toInt) → (some b2) = (κ.2.2.2.1 7) k0.toNatClampNeg) (hr3_0_0 : 0 ≤ r3.toInt) (hr3_0_1 : r3.toInt ≤ 1) (hr3_1_0 : (1 ≤ k1.toInt ∧ k1.toInt ≤ 14348906) → r3.toInt = 1) (hr3_1_1 : ¬ (1 ≤ k1.toInt ∧ k1.toInt ≤ 14348906) → r3.toInt = 0) (c4 : ¬ r3.toInt = 0) (hr5_0_0 : 0 ≤ r5.toInt) (hr5_0_1 : r5.toInt ≤ 1) (hr5_1_0 : ((1 ≤ k2.toInt ∧ k2.toInt ≤ 5) ∨ (8 ≤ k2.toInt ∧ k2.toInt < 8 + (κ.1 1).toInt)) → r5.toInt = 1) (hr5_1_1 : ¬ ((1 ≤ k2.toInt ∧ k2.toInt ≤ 5) ∨ (8 ≤ k2.toInt ∧ k2.toInt < 8 + (κ.1 1).toInt)) → r5.toInt = 0) (c6 : ¬ r5.toInt = 0) (ex7 : oI κ.2.2.2.2 8 b2 = x7) (bx7_0 : 0 ≤ x7.toInt) (bx7_1 : x7.toInt ≤ 6) (c8 : x7.toInt < 6) (hr9_1_0 : (none : Option Nat) = none → ¬ ON κ.2.2.2.2 b2 (oI κ.2.2.2.2 8 b2).toInt k1) (hr9_1_1 : ∀ f9 : Nat, (none : Option Nat) = some f9 → ON κ.2.2.2.2 b2 (oI κ.2.2.2.2 8 b2).toInt k1) (c11 : (κ.1 2).toInt ≤ 0) (hr12_2_0 : FC 7 κ.2.2.2.2 P13 b2) (hr12_2_1 : (oI κ.2.2.2.2 8 b2).toInt < 6 → (oI P13 8 b2).toInt = (oI κ.2.2.2.2 8 b2).toInt + 1) (hr12_2_2 : (oI κ.2.2.2.2 8 b2).toInt < 6 → AF κ.2.2.2.2 P13 b2 k1) (ex15 : oI P13 8 b2 = x15) (bx15_0 : 0 ≤ x15.toInt) (bx15_1 : x15.toInt ≤ 6) : ((0 ≤ k0.toInt ∧ k0.toInt < (κ.1 1).toInt) ∧ (1 ≤ k1.toInt ∧ k1.toInt ≤ 14348906) ∧ ((1 ≤ k2.toInt ∧ k2.toInt ≤ 5) ∨ (8 ≤ k2.toInt ∧ k2.toInt < 8 + (κ.1 1).toInt))) := by
  have zo0 : on1 (some b2) = 1 := rfl
  refine ⟨?_, ?_, ?_⟩ <;> first | assumption | omega | (subst_vars; omega) | trivial
-- thrown @63
theorem vX11_field_9 (κ : KS) (k0 : Int32) (k1 : Int32) (k2 : Int32) (b2 : Nat) (r3 : Int32) (r5 : Int32) (x7 : Int32) (hpre_0 : 0 ≤ (κ.1 1).toInt) (hpre_1 : (κ.1 1).toInt ≤ 5) (hr1_1_0 : (0 ≤ k0.toInt ∧ k0.toInt < (κ.1 1).toInt) → on1 (some b2) = 1) (hr1_1_1 : ¬ (0 ≤ k0.toInt ∧ k0.toInt < (κ.1 1).toInt) → on1 (some b2) = 0) (hr1_1_2 : (0 ≤ k0.toInt ∧ k0.toInt < (κ.1 1).toInt) → (some b2) = (κ.2.2.2.1 7) k0.toNatClampNeg) (hr3_0_0 : 0 ≤ r3.toInt) (hr3_0_1 : r3.toInt ≤ 1) (hr3_1_0 : (1 ≤ k1.toInt ∧ k1.toInt ≤ 14348906) → r3.toInt = 1) (hr3_1_1 : ¬ (1 ≤ k1.toInt ∧ k1.toInt ≤ 14348906) → r3.toInt = 0) (c4 : ¬ r3.toInt = 0) (hr5_0_0 : 0 ≤ r5.toInt) (hr5_0_1 : r5.toInt ≤ 1) (hr5_1_0 : ((1 ≤ k2.toInt ∧ k2.toInt ≤ 5) ∨ (8 ≤ k2.toInt ∧ k2.toInt < 8 + (κ.1 1).toInt)) → r5.toInt = 1) (hr5_1_1 : ¬ ((1 ≤ k2.toInt ∧ k2.toInt ≤ 5) ∨ (8 ≤ k2.toInt ∧ k2.toInt < 8 + (κ.1 1).toInt)) → r5.toInt = 0) (c6 : ¬ r5.toInt = 0) (ex7 : oI κ.2.2.2.2 8 b2 = x7) (bx7_0 : 0 ≤ x7.toInt) (bx7_1 : x7.toInt ≤ 6) (c8 : x7.toInt < 6) (hr9_1_0 : (none : Option Nat) = none → ¬ ON κ.2.2.2.2 b2 (oI κ.2.2.2.2 8 b2).toInt k1) (hr9_1_1 : ∀ f9 : Nat, (none : Option Nat) = some f9 → ON κ.2.2.2.2 b2 (oI κ.2.2.2.2 8 b2).toInt k1) (c11 : 0 < (κ.1 2).toInt) : ((0 ≤ k0.toInt ∧ k0.toInt < (κ.1 1).toInt) ∧ (1 ≤ k1.toInt ∧ k1.toInt ≤ 14348906) ∧ ((1 ≤ k2.toInt ∧ k2.toInt ≤ 5) ∨ (8 ≤ k2.toInt ∧ k2.toInt < 8 + (κ.1 1).toInt))) ∧ ∃ a, (κ.2.2.2.1 7) k0.toNatClampNeg = some a ∧ (6 ≤ (oI κ.2.2.2.2 8 a).toInt ∨ ON κ.2.2.2.2 a (oI κ.2.2.2.2 8 a).toInt k1 ∨ 0 < (κ.1 2).toInt) := by
  have zo0 : on1 (some b2) = 1 := rfl
  refine ⟨by omega, _, (hr1_1_2 (by omega)).symm, ?_⟩
  first
  | (left; rw [ex7]; omega)
  | (right; right; omega)
  | (right; left; exact hr9_1_1 _ rfl)
-- xpost @63
theorem vX11_field_10 (κ : KS) (k0 : Int32) (k1 : Int32) (b2 : Nat) (r3 : Int32) (x7 : Int32) (hpre_0 : 0 ≤ (κ.1 1).toInt) (hpre_1 : (κ.1 1).toInt ≤ 5) (hr1_1_0 : (0 ≤ k0.toInt ∧ k0.toInt < (κ.1 1).toInt) → on1 (some b2) = 1) (hr1_1_1 : ¬ (0 ≤ k0.toInt ∧ k0.toInt < (κ.1 1).toInt) → on1 (some b2) = 0) (hr1_1_2 : (0 ≤ k0.toInt ∧ k0.toInt < (κ.1 1).toInt) → (some b2) = (κ.2.2.2.1 7) k0.toNatClampNeg) (hr3_0_0 : 0 ≤ r3.toInt) (hr3_0_1 : r3.toInt ≤ 1) (hr3_1_0 : (1 ≤ k1.toInt ∧ k1.toInt ≤ 14348906) → r3.toInt = 1) (hr3_1_1 : ¬ (1 ≤ k1.toInt ∧ k1.toInt ≤ 14348906) → r3.toInt = 0) (c4 : ¬ r3.toInt = 0) (ex7 : oI κ.2.2.2.2 8 b2 = x7) (bx7_0 : 0 ≤ x7.toInt) (bx7_1 : x7.toInt ≤ 6) (c8 : x7.toInt < 6) (hr9_1_0 : (none : Option Nat) = none → ¬ ON κ.2.2.2.2 b2 (oI κ.2.2.2.2 8 b2).toInt k1) (hr9_1_1 : ∀ f9 : Nat, (none : Option Nat) = some f9 → ON κ.2.2.2.2 b2 (oI κ.2.2.2.2 8 b2).toInt k1) : κ.2.2.2.2 = κ.2.2.2.2 := by
  have zo0 : on1 (some b2) = 1 := rfl
  first | assumption | omega | (subst_vars; omega) | trivial
-- thrown @63
theorem vX11_field_11 (κ : KS) (k0 : Int32) (k1 : Int32) (k2 : Int32) (b2 : Nat) (r3 : Int32) (r5 : Int32) (x7 : Int32) (b10 : Nat) (hpre_0 : 0 ≤ (κ.1 1).toInt) (hpre_1 : (κ.1 1).toInt ≤ 5) (hr1_1_0 : (0 ≤ k0.toInt ∧ k0.toInt < (κ.1 1).toInt) → on1 (some b2) = 1) (hr1_1_1 : ¬ (0 ≤ k0.toInt ∧ k0.toInt < (κ.1 1).toInt) → on1 (some b2) = 0) (hr1_1_2 : (0 ≤ k0.toInt ∧ k0.toInt < (κ.1 1).toInt) → (some b2) = (κ.2.2.2.1 7) k0.toNatClampNeg) (hr3_0_0 : 0 ≤ r3.toInt) (hr3_0_1 : r3.toInt ≤ 1) (hr3_1_0 : (1 ≤ k1.toInt ∧ k1.toInt ≤ 14348906) → r3.toInt = 1) (hr3_1_1 : ¬ (1 ≤ k1.toInt ∧ k1.toInt ≤ 14348906) → r3.toInt = 0) (c4 : ¬ r3.toInt = 0) (hr5_0_0 : 0 ≤ r5.toInt) (hr5_0_1 : r5.toInt ≤ 1) (hr5_1_0 : ((1 ≤ k2.toInt ∧ k2.toInt ≤ 5) ∨ (8 ≤ k2.toInt ∧ k2.toInt < 8 + (κ.1 1).toInt)) → r5.toInt = 1) (hr5_1_1 : ¬ ((1 ≤ k2.toInt ∧ k2.toInt ≤ 5) ∨ (8 ≤ k2.toInt ∧ k2.toInt < 8 + (κ.1 1).toInt)) → r5.toInt = 0) (c6 : ¬ r5.toInt = 0) (ex7 : oI κ.2.2.2.2 8 b2 = x7) (bx7_0 : 0 ≤ x7.toInt) (bx7_1 : x7.toInt ≤ 6) (c8 : x7.toInt < 6) (hr9_1_0 : ((some b10) : Option Nat) = none → ¬ ON κ.2.2.2.2 b2 (oI κ.2.2.2.2 8 b2).toInt k1) (hr9_1_1 : ∀ f9 : Nat, ((some b10) : Option Nat) = some f9 → ON κ.2.2.2.2 b2 (oI κ.2.2.2.2 8 b2).toInt k1) : ((0 ≤ k0.toInt ∧ k0.toInt < (κ.1 1).toInt) ∧ (1 ≤ k1.toInt ∧ k1.toInt ≤ 14348906) ∧ ((1 ≤ k2.toInt ∧ k2.toInt ≤ 5) ∨ (8 ≤ k2.toInt ∧ k2.toInt < 8 + (κ.1 1).toInt))) ∧ ∃ a, (κ.2.2.2.1 7) k0.toNatClampNeg = some a ∧ (6 ≤ (oI κ.2.2.2.2 8 a).toInt ∨ ON κ.2.2.2.2 a (oI κ.2.2.2.2 8 a).toInt k1 ∨ 0 < (κ.1 2).toInt) := by
  have zo0 : on1 (some b2) = 1 := rfl
  refine ⟨by omega, _, (hr1_1_2 (by omega)).symm, ?_⟩
  first
  | (left; rw [ex7]; omega)
  | (right; right; omega)
  | (right; left; exact hr9_1_1 _ rfl)
-- xpost @63
theorem vX11_field_12 (κ : KS) (k0 : Int32) (k1 : Int32) (b2 : Nat) (r3 : Int32) (x7 : Int32) (b10 : Nat) (hpre_0 : 0 ≤ (κ.1 1).toInt) (hpre_1 : (κ.1 1).toInt ≤ 5) (hr1_1_0 : (0 ≤ k0.toInt ∧ k0.toInt < (κ.1 1).toInt) → on1 (some b2) = 1) (hr1_1_1 : ¬ (0 ≤ k0.toInt ∧ k0.toInt < (κ.1 1).toInt) → on1 (some b2) = 0) (hr1_1_2 : (0 ≤ k0.toInt ∧ k0.toInt < (κ.1 1).toInt) → (some b2) = (κ.2.2.2.1 7) k0.toNatClampNeg) (hr3_0_0 : 0 ≤ r3.toInt) (hr3_0_1 : r3.toInt ≤ 1) (hr3_1_0 : (1 ≤ k1.toInt ∧ k1.toInt ≤ 14348906) → r3.toInt = 1) (hr3_1_1 : ¬ (1 ≤ k1.toInt ∧ k1.toInt ≤ 14348906) → r3.toInt = 0) (c4 : ¬ r3.toInt = 0) (ex7 : oI κ.2.2.2.2 8 b2 = x7) (bx7_0 : 0 ≤ x7.toInt) (bx7_1 : x7.toInt ≤ 6) (c8 : x7.toInt < 6) (hr9_1_0 : ((some b10) : Option Nat) = none → ¬ ON κ.2.2.2.2 b2 (oI κ.2.2.2.2 8 b2).toInt k1) (hr9_1_1 : ∀ f9 : Nat, ((some b10) : Option Nat) = some f9 → ON κ.2.2.2.2 b2 (oI κ.2.2.2.2 8 b2).toInt k1) : κ.2.2.2.2 = κ.2.2.2.2 := by
  have zo0 : on1 (some b2) = 1 := rfl
  first | assumption | omega | (subst_vars; omega) | trivial
-- thrown @27
theorem vX11_field_13 (κ : KS) (k0 : Int32) (k1 : Int32) (k2 : Int32) (b2 : Nat) (r3 : Int32) (r5 : Int32) (hpre_0 : 0 ≤ (κ.1 1).toInt) (hpre_1 : (κ.1 1).toInt ≤ 5) (hr1_1_0 : (0 ≤ k0.toInt ∧ k0.toInt < (κ.1 1).toInt) → on1 (some b2) = 1) (hr1_1_1 : ¬ (0 ≤ k0.toInt ∧ k0.toInt < (κ.1 1).toInt) → on1 (some b2) = 0) (hr1_1_2 : (0 ≤ k0.toInt ∧ k0.toInt < (κ.1 1).toInt) → (some b2) = (κ.2.2.2.1 7) k0.toNatClampNeg) (hr3_0_0 : 0 ≤ r3.toInt) (hr3_0_1 : r3.toInt ≤ 1) (hr3_1_0 : (1 ≤ k1.toInt ∧ k1.toInt ≤ 14348906) → r3.toInt = 1) (hr3_1_1 : ¬ (1 ≤ k1.toInt ∧ k1.toInt ≤ 14348906) → r3.toInt = 0) (c4 : ¬ r3.toInt = 0) (hr5_0_0 : 0 ≤ r5.toInt) (hr5_0_1 : r5.toInt ≤ 1) (hr5_1_0 : ((1 ≤ k2.toInt ∧ k2.toInt ≤ 5) ∨ (8 ≤ k2.toInt ∧ k2.toInt < 8 + (κ.1 1).toInt)) → r5.toInt = 1) (hr5_1_1 : ¬ ((1 ≤ k2.toInt ∧ k2.toInt ≤ 5) ∨ (8 ≤ k2.toInt ∧ k2.toInt < 8 + (κ.1 1).toInt)) → r5.toInt = 0) (c6 : r5.toInt = 0) : ¬ ((0 ≤ k0.toInt ∧ k0.toInt < (κ.1 1).toInt) ∧ (1 ≤ k1.toInt ∧ k1.toInt ≤ 14348906) ∧ ((1 ≤ k2.toInt ∧ k2.toInt ≤ 5) ∨ (8 ≤ k2.toInt ∧ k2.toInt < 8 + (κ.1 1).toInt))) := by
  have zo0 : on1 (some b2) = 1 := rfl
  omega
set_option maxHeartbeats 4000000 in
set_option maxRecDepth 100000 in
theorem NX11_field (l : Launch) (D : va_G) (cy : Nat → ClassId) (ad : Nat → Nat) (A : Nat → Prop) (sz0 : Nat) (sa : Nat → Nat) (hfl : l.stackTraces = false) (κ : KS) (sz sl : Nat) (hAF : ∀ q, A q → Fr sz0 q) (hAn : ∀ q : Nat, sz ≤ q → A q) (k0 : Int32) (k1 : Int32) (k2 : Int32) (hPV : PV sa κ.2.2.2.2) (hSV : SV ad κ.2.2.2.2 (κ.2.1 0) (κ.2.1 1) (κ.2.2.2.1 6) (κ.2.2.2.1 7) (κ.2.2.2.1 8) (κ.2.2.2.1 13) (κ.2.2.2.1 15) (κ.2.2.2.1 17) (κ.1 1).toInt) (hpre : 0 ≤ (κ.1 1).toInt ∧ (κ.1 1).toInt ≤ 5) : vx_Met l yX11_field (Cond.code yX11_field cX11_field 5 (some .int) :: GWc) ({ frames := 6, cells := 1, slots := 6, locals := 90 }) (PcC D cy ad A sz0 sa [.ref (ad 0), .int k0, .int k1, .int k2] κ sz sl) (va_Qi (fun (r : Int32) (u : PL) => (TK κ.2.2.2.2 u) ∧ (PV sa u) ∧ (SV ad u (κ.2.1 0) (κ.2.1 1) (κ.2.2.2.1 6) (κ.2.2.2.1 7) (κ.2.2.2.1 8) (κ.2.2.2.1 13) (κ.2.2.2.1 15) (κ.2.2.2.1 17) (κ.1 1).toInt) ∧ (((0 ≤ k0.toInt ∧ k0.toInt < (κ.1 1).toInt) ∧ (1 ≤ k1.toInt ∧ k1.toInt ≤ 14348906) ∧ ((1 ≤ k2.toInt ∧ k2.toInt ≤ 5) ∨ (8 ≤ k2.toInt ∧ k2.toInt < 8 + (κ.1 1).toInt))) ∧ (∃ a, (κ.2.2.2.1 7) k0.toNatClampNeg = some a ∧ oT κ.2.2.2.2 a = 3 ∧ (oI κ.2.2.2.2 8 a).toInt < 6 ∧ ¬ ON κ.2.2.2.2 a (oI κ.2.2.2.2 8 a).toInt k1 ∧ ¬ 0 < (κ.1 2).toInt ∧ r.toInt = (oI κ.2.2.2.2 8 a).toInt + 1 ∧ (oI u 8 a).toInt = (oI κ.2.2.2.2 8 a).toInt + 1 ∧ FC 7 κ.2.2.2.2 u a ∧ AF κ.2.2.2.2 u a k1))) (fun (u : PL) (t : State) => Bx D cy ad A sz sl (tP κ u) (1) (3) t) A) (TX D cy ad A (fun (E : String) (u : PL) => (TK κ.2.2.2.2 u) ∧ (PV sa u) ∧ (SV ad u (κ.2.1 0) (κ.2.1 1) (κ.2.2.2.1 6) (κ.2.2.2.1 7) (κ.2.2.2.1 8) (κ.2.2.2.1 13) (κ.2.2.2.1 15) (κ.2.2.2.1 17) (κ.1 1).toInt) ∧ ((E = tIAE ∧ (¬ ((0 ≤ k0.toInt ∧ k0.toInt < (κ.1 1).toInt) ∧ (1 ≤ k1.toInt ∧ k1.toInt ≤ 14348906) ∧ ((1 ≤ k2.toInt ∧ k2.toInt ≤ 5) ∨ (8 ≤ k2.toInt ∧ k2.toInt < 8 + (κ.1 1).toInt))))) ∨ (E = tISE ∧ (((0 ≤ k0.toInt ∧ k0.toInt < (κ.1 1).toInt) ∧ (1 ≤ k1.toInt ∧ k1.toInt ≤ 14348906) ∧ ((1 ≤ k2.toInt ∧ k2.toInt ≤ 5) ∨ (8 ≤ k2.toInt ∧ k2.toInt < 8 + (κ.1 1).toInt))) ∧ ∃ a, (κ.2.2.2.1 7) k0.toNatClampNeg = some a ∧ (6 ≤ (oI κ.2.2.2.2 8 a).toInt ∨ ON κ.2.2.2.2 a (oI κ.2.2.2.2 8 a).toInt k1 ∨ 0 < (κ.1 2).toInt)))) ∧ (u = κ.2.2.2.2)) (fun (u : PL) => (tP κ u))) (1) (6) A := by
  refine CM_ofX (loc0 := [(0, .ref (ad 0)), (1, .int k0), (2, .int k1), (3, .int k2)]) (own := RX11) (nm := "field") (by decide) rfl rfl rfl (Nat.le_of_ble_eq_true rfl) hAF hAn ?_
  intro p e s m below meth c ls hsz hsl hout C hP hS hl
  obtain ⟨hpre_0, hpre_1⟩ := hpre
  refine lv_aload_n C.x C.b dX11_field_0 rfl (lv_at hl 0 rfl) ?_
  refine lv_iload_n C.x C.b dX11_field_1 rfl (lv_at hl 1 rfl) ?_
  refine c_callVq (n := 1) (As := [.int k0]) (rest := []) C hP hS hl.1 (NX11_familyAt l D cy ad A sz0 sa κ s.heap.size (SLT s.heap) C.f (fun q h => C.a q (Nat.le_trans hS.1 h)) k0 hPV hSV (vX11_field_1 κ hpre_0 hpre_1)) ⟨cw_907, cw_911, by decide +kernel⟩ ⟨cw_908, cw_909, cw_910⟩ rfl (hP.recvS (k := 0) (ci := 13) C.K rfl rfl) rfl rfl (lv_room (Nat.le_of_ble_eq_true rfl)) ⟨Nat.le_of_ble_eq_true rfl, Nat.le_of_ble_eq_true rfl⟩ ⟨(Nat.le_of_ble_eq_true rfl), (Nat.le_of_ble_eq_true rfl)⟩ dX11_field_2 (fun r1 u H locs hr1 hP hS => ?_)
  have hr1 : (NT κ.2.2.2.2 3 r1) ∧ (((0 ≤ k0.toInt ∧ k0.toInt < (κ.1 1).toInt) → on1 r1 = 1) ∧ (¬ (0 ≤ k0.toInt ∧ k0.toInt < (κ.1 1).toInt) → on1 r1 = 0) ∧ ((0 ≤ k0.toInt ∧ k0.toInt < (κ.1 1).toInt) → r1 = (κ.2.2.2.1 7) k0.toNatClampNeg)) := hr1
  obtain ⟨hr1_0, hr1_1⟩ := hr1
  obtain ⟨hr1_1_0, hr1_1_1, hr1_1_2⟩ := hr1_1
  refine lq_astore (lv' := [(4, va_rf r1), (0, .ref (ad 0)), (1, .int k0), (2, .int k1), (3, .int k2)]) C.x C.b dX11_field_5 hl (by decide) (by cases r1 <;> rfl) (fun ls hl => ?_)
  refine lq_aload C.x C.b dX11_field_7 (lv_at hl 0 rfl) ?_
  cases r1 with
  | none =>
    refine lv_ifnullN (tgt := 27) C.x C.b dX11_field_9 (by decide) ?_
    have hP : CH D cy ad A (tP κ κ.2.2.2.2) H := CH.cong hP rfl rfl rfl rfl rfl rfl rfl rfl rfl rfl rfl rfl rfl rfl rfl rfl rfl rfl rfl rfl rfl rfl rfl rfl rfl rfl rfl
    exact c_iae C hfl hout κ.2.2.2.2 ⟨TK.rf, hPV, hSV, (Or.inl ⟨rfl, (vX11_field_2 κ k0 k1 k2 hpre_0 hpre_1 hr1_1_0 hr1_1_1 hr1_1_2)⟩), (vX11_field_3 κ )⟩ hP hS hl.1 cw_888 cw_889 (is := 111) (text := "no such class, name or type") (by decide +kernel) dX11_field_27 dX11_field_30 dX11_field_31 dX11_field_33 dX11_field_36 (Nat.le_of_ble_eq_true rfl) (Nat.le_of_ble_eq_true rfl) ⟨(Nat.le_of_ble_eq_true rfl), (Nat.le_of_ble_eq_true rfl)⟩ ⟨(Nat.le_of_ble_eq_true rfl), (Nat.le_of_ble_eq_true rfl)⟩
  | some b2 =>
    have hb2 : oT κ.2.2.2.2 b2 = 3 := hr1_0 b2 rfl
    refine lv_ifnull C.x C.b dX11_field_9 ?_
    refine lv_iload_n C.x C.b dX11_field_12 rfl (lv_at hl 3 rfl) ?_
    refine c_callSi (C2 := "") (b := 0) (n := 1) (As := [.int k1]) (rest := []) C hP hS hl.1 (NX11_isName l D cy ad A sz0 sa κ H.size (SLT H) C.f (fun q h => C.a q (Nat.le_trans hS.1 h)) k1 ) ⟨cw_917, cw_919, by decide +kernel⟩ ⟨cw_918, cw_910⟩ rfl rfl (lv_room (Nat.le_of_ble_eq_true rfl)) ⟨Nat.le_of_ble_eq_true rfl, Nat.le_of_ble_eq_true rfl⟩ ⟨(Nat.le_of_ble_eq_true rfl), (Nat.le_of_ble_eq_true rfl)⟩ dX11_field_13 (fun r3 u H locs hr3 hP hS => ?_)
    have hr3 : (0 ≤ r3.toInt ∧ r3.toInt ≤ 1) ∧ (((1 ≤ k1.toInt ∧ k1.toInt ≤ 14348906) → r3.toInt = 1) ∧ (¬ (1 ≤ k1.toInt ∧ k1.toInt ≤ 14348906) → r3.toInt = 0)) := hr3
    obtain ⟨hr3_0, hr3_1⟩ := hr3
    obtain ⟨hr3_0_0, hr3_0_1⟩ := hr3_0
    obtain ⟨hr3_1_0, hr3_1_1⟩ := hr3_1
    refine lv_if_eq (tgt := 27) C.x C.b dX11_field_16 (by decide) (fun c4 => ?_) (fun c4 => ?_)
    · have c4 : r3.toInt = 0 := by have h := z_eq c4; rw [show (0 : Int32).toInt = 0 from by decide +kernel] at h; exact h
      have hP : CH D cy ad A (tP κ κ.2.2.2.2) H := CH.cong hP rfl rfl rfl rfl rfl rfl rfl rfl rfl rfl rfl rfl rfl rfl rfl rfl rfl rfl rfl rfl rfl rfl rfl rfl rfl rfl rfl
      exact c_iae C hfl hout κ.2.2.2.2 ⟨TK.rf, hPV, hSV, (Or.inl ⟨rfl, (vX11_field_4 κ k0 k1 k2 b2 r3 hpre_0 hpre_1 hr1_1_0 hr1_1_1 hr1_1_2 hr3_0_0 hr3_0_1 hr3_1_0 hr3_1_1 c4)⟩), (vX11_field_3 κ )⟩ hP hS hl.1 cw_888 cw_889 (is := 111) (text := "no such class, name or type") (by decide +kernel) dX11_field_27 dX11_field_30 dX11_field_31 dX11_field_33 dX11_field_36 (Nat.le_of_ble_eq_true rfl) (Nat.le_of_ble_eq_true rfl) ⟨(Nat.le_of_ble_eq_true rfl), (Nat.le_of_ble_eq_true rfl)⟩ ⟨(Nat.le_of_ble_eq_true rfl), (Nat.le_of_ble_eq_true rfl)⟩
    · have c4 : ¬ r3.toInt = 0 := by have h := z_ne c4; rw [show (0 : Int32).toInt = 0 from by decide +kernel] at h; exact h
      refine lv_aload_n C.x C.b dX11_field_19 rfl (lv_at hl 1 rfl) ?_
      refine lv_iload_n C.x C.b dX11_field_20 rfl (lv_at hl 4 rfl) ?_
      refine c_callVi (n := 1) (As := [.int k2]) (rest := []) C hP hS hl.1 (NX11_isType l D cy ad A sz0 sa κ H.size (SLT H) C.f (fun q h => C.a q (Nat.le_trans hS.1 h)) k2 (vX11_field_5 κ k0 b2 hpre_0 hpre_1 hr1_1_0 hr1_1_1 hr1_1_2)) ⟨cw_921, cw_924, by decide +kernel⟩ ⟨cw_922, cw_923, cw_910⟩ rfl (hP.recvS (k := 0) (ci := 13) C.K rfl rfl) rfl rfl (lv_room (Nat.le_of_ble_eq_true rfl)) ⟨Nat.le_of_ble_eq_true rfl, Nat.le_of_ble_eq_true rfl⟩ ⟨(Nat.le_of_ble_eq_true rfl), (Nat.le_of_ble_eq_true rfl)⟩ dX11_field_21 (fun r5 u H locs hr5 hP hS => ?_)
      have hr5 : (0 ≤ r5.toInt ∧ r5.toInt ≤ 1) ∧ ((((1 ≤ k2.toInt ∧ k2.toInt ≤ 5) ∨ (8 ≤ k2.toInt ∧ k2.toInt < 8 + (κ.1 1).toInt)) → r5.toInt = 1) ∧ (¬ ((1 ≤ k2.toInt ∧ k2.toInt ≤ 5) ∨ (8 ≤ k2.toInt ∧ k2.toInt < 8 + (κ.1 1).toInt)) → r5.toInt = 0)) := hr5
      obtain ⟨hr5_0, hr5_1⟩ := hr5
      obtain ⟨hr5_0_0, hr5_0_1⟩ := hr5_0
      obtain ⟨hr5_1_0, hr5_1_1⟩ := hr5_1
      refine lv_if_ne (tgt := 37) C.x C.b dX11_field_24 (by decide) (fun c6 => ?_) (fun c6 => ?_)
      · have c6 : ¬ r5.toInt = 0 := by have h := z_ne c6; rw [show (0 : Int32).toInt = 0 from by decide +kernel] at h; exact h
        refine lv_aload C.x C.b dX11_field_37 (lv_at hl 0 rfl) ?_
        obtain ⟨x7, ex7⟩ : ∃ z, oI κ.2.2.2.2 8 b2 = z := ⟨_, rfl⟩
        refine pg_X1_4 (v := x7) C hP (t20 (a := b2) (t := 3) hb2) ex7 cw_915 dX11_field_39 ?_
        have bx7 : 0 ≤ x7.toInt ∧ x7.toInt ≤ 6 := by rw [← ex7]; exact (hPV.t3 hb2).2.2.2.1
        obtain ⟨bx7_0, bx7_1⟩ := bx7
        refine lv_bipush (v := 6) C.x C.b dX11_field_42 (by decide +kernel) ?_
        refine lv_icmp_ge (tgt := 63) C.x C.b dX11_field_44 (by decide) (fun c8 => ?_) (fun c8 => ?_)
        · have c8 : 6 ≤ x7.toInt := by have h := z_le c8; rw [show (6 : Int32).toInt = 6 from by decide +kernel] at h; exact h
          have hP : CH D cy ad A (tP κ κ.2.2.2.2) H := CH.cong hP rfl rfl rfl rfl rfl rfl rfl rfl rfl rfl rfl rfl rfl rfl rfl rfl rfl rfl rfl rfl rfl rfl rfl rfl rfl rfl rfl
          exact c_ise C hfl hout κ.2.2.2.2 ⟨TK.rf, hPV, hSV, (Or.inr ⟨rfl, (vX11_field_6 κ k0 k1 k2 b2 r3 r5 x7 hpre_0 hpre_1 hr1_1_0 hr1_1_1 hr1_1_2 hr3_0_0 hr3_0_1 hr3_1_0 hr3_1_1 c4 hr5_0_0 hr5_0_1 hr5_1_0 hr5_1_1 c6 ex7 bx7_0 bx7_1 c8)⟩), (vX11_field_7 κ k0 b2 x7 hpre_0 hpre_1 hr1_1_0 hr1_1_1 hr1_1_2 ex7 bx7_0 bx7_1 c8)⟩ hP hS hl.1 cw_890 cw_891 (is := 123) (text := "the class can't get this field") (by decide +kernel) dX11_field_63 dX11_field_66 dX11_field_67 dX11_field_69 dX11_field_72 (Nat.le_of_ble_eq_true rfl) (Nat.le_of_ble_eq_true rfl) ⟨(Nat.le_of_ble_eq_true rfl), (Nat.le_of_ble_eq_true rfl)⟩ ⟨(Nat.le_of_ble_eq_true rfl), (Nat.le_of_ble_eq_true rfl)⟩
        · have c8 : x7.toInt < 6 := by have h := z_nle c8; rw [show (6 : Int32).toInt = 6 from by decide +kernel] at h; exact h
          refine lv_aload C.x C.b dX11_field_47 (lv_at hl 0 rfl) ?_
          refine lv_iload_n C.x C.b dX11_field_49 rfl (lv_at hl 3 rfl) ?_
          refine c_callVq (n := 1) (As := [.int k1]) (rest := []) C hP hS hl.1 (NX1_ownField l D cy ad A sz0 sa κ H.size (SLT H) C.f (fun q h => C.a q (Nat.le_trans hS.1 h)) b2 k1 hb2 hPV) ⟨cw_925, cw_399, by decide +kernel⟩ ⟨cw_403, cw_404, cw_405⟩ rfl (hP.recvP (t := 3) (ci := 3) C.K (t20 (a := b2) (t := 3) hb2) (by decide) rfl rfl) rfl rfl (lv_room (Nat.le_of_ble_eq_true rfl)) ⟨Nat.le_of_ble_eq_true rfl, Nat.le_of_ble_eq_true rfl⟩ ⟨(Nat.le_of_ble_eq_true rfl), (Nat.le_of_ble_eq_true rfl)⟩ dX11_field_50 (fun r9 u H locs hr9 hP hS => ?_)
          have hr9 : (NT κ.2.2.2.2 4 r9) ∧ (((r9 : Option Nat) = none → ¬ ON κ.2.2.2.2 b2 (oI κ.2.2.2.2 8 b2).toInt k1) ∧ (∀ f9 : Nat, (r9 : Option Nat) = some f9 → ON κ.2.2.2.2 b2 (oI κ.2.2.2.2 8 b2).toInt k1)) := hr9
          obtain ⟨hr9_0, hr9_1⟩ := hr9
          obtain ⟨hr9_1_0, hr9_1_1⟩ := hr9_1
          cases r9 with
          | none =>
            refine lv_ifnonnullN C.x C.b dX11_field_53 ?_
            refine lv_aload_n C.x C.b dX11_field_56 rfl (lv_at hl 1 rfl) ?_
            refine cg_X11_7 (v := (κ.1 2)) C hP rfl cw_916 dX11_field_57 ?_
            refine lv_if_le (tgt := 73) C.x C.b dX11_field_60 (by decide) (fun c11 => ?_) (fun c11 => ?_)
            · have c11 : (κ.1 2).toInt ≤ 0 := by have h := z_le c11; rw [show (0 : Int32).toInt = 0 from by decide +kernel] at h; exact h
              refine lv_aload C.x C.b dX11_field_73 (lv_at hl 0 rfl) ?_
              refine lv_iload_n C.x C.b dX11_field_75 rfl (lv_at hl 3 rfl) ?_
              refine lv_iload_n C.x C.b dX11_field_76 rfl (lv_at hl 4 rfl) ?_
              refine c_callVv (n := 2) (As := [.int k1, .int k2]) (rest := []) C hP hS hl.1 (NX1_addField l D cy ad A sz0 sa κ H.size (SLT H) C.f (fun q h => C.a q (Nat.le_trans hS.1 h)) b2 k1 k2 hb2 hPV) ⟨cw_926, cw_385, by decide +kernel⟩ ⟨cw_927, cw_928, cw_405⟩ rfl (hP.recvP (t := 3) (ci := 3) C.K (t20 (a := b2) (t := 3) hb2) (by decide) rfl rfl) rfl rfl (lv_room (Nat.le_of_ble_eq_true rfl)) ⟨Nat.le_of_ble_eq_true rfl, Nat.le_of_ble_eq_true rfl⟩ ⟨(Nat.le_of_ble_eq_true rfl), (Nat.le_of_ble_eq_true rfl)⟩ dX11_field_77 (fun u H locs hr12 hP hS => ?_)
              obtain ⟨P13, rfl⟩ : ∃ z, z = u := ⟨_, rfl⟩
              have hP : CH D cy ad A (tP κ P13) H := hP
              have hr12 : (TK κ.2.2.2.2 P13) ∧ (PV sa P13) ∧ (FC 7 κ.2.2.2.2 P13 b2 ∧ ((oI κ.2.2.2.2 8 b2).toInt < 6 → (oI P13 8 b2).toInt = (oI κ.2.2.2.2 8 b2).toInt + 1) ∧ ((oI κ.2.2.2.2 8 b2).toInt < 6 → AF κ.2.2.2.2 P13 b2 k1)) := hr12
              obtain ⟨hr12_0, hr12_1, hr12_2⟩ := hr12
              obtain ⟨hr12_2_0, hr12_2_1, hr12_2_2⟩ := hr12_2
              have svz14 : SV ad P13 (κ.2.1 0) (κ.2.1 1) (κ.2.2.2.1 6) (κ.2.2.2.1 7) (κ.2.2.2.1 8) (κ.2.2.2.1 13) (κ.2.2.2.1 15) (κ.2.2.2.1 17) (κ.1 1).toInt := hSV.tk hr12_0
              refine lv_aload C.x C.b dX11_field_80 (lv_at hl 0 rfl) ?_
              obtain ⟨x15, ex15⟩ : ∃ z, oI P13 8 b2 = z := ⟨_, rfl⟩
              refine pg_X1_4 (v := x15) C hP (t20 (a := b2) (t := 3) (hr12_0.T hb2 (by decide))) ex15 cw_915 dX11_field_82 ?_
              have bx15 : 0 ≤ x15.toInt ∧ x15.toInt ≤ 6 := by rw [← ex15]; exact (hr12_1.t3 (hr12_0.T hb2 (by decide))).2.2.2.1
              obtain ⟨bx15_0, bx15_1⟩ := bx15
              refine vx_ret ?_
              exact c_reti C hsz hsl P13 ⟨hr12_0, hr12_1, svz14, (by have o1 : on1 (some b2) = 1 := rfl; have l9 : (oI κ.2.2.2.2 8 b2).toInt < 6 := (by rw [ex7]; omega); have e9 := hr12_2_1 l9; exact ⟨(vX11_field_8 κ k0 k1 k2 b2 r3 r5 x7 P13 x15 hpre_0 hpre_1 hr1_1_0 hr1_1_1 hr1_1_2 hr3_0_0 hr3_0_1 hr3_1_0 hr3_1_1 c4 hr5_0_0 hr5_0_1 hr5_1_0 hr5_1_1 c6 ex7 bx7_0 bx7_1 c8 hr9_1_0 hr9_1_1 c11 hr12_2_0 hr12_2_1 hr12_2_2 ex15 bx15_0 bx15_1), b2, (hr1_1_2 (by omega)).symm, hb2, l9, hr9_1_0 rfl, by omega, by rw [← ex15]; exact e9, e9, hr12_2_0, hr12_2_2 l9⟩)⟩ hP hS ⟨(Nat.le_of_ble_eq_true rfl), (Nat.le_of_ble_eq_true rfl)⟩ ⟨(Nat.le_of_ble_eq_true rfl), (Nat.le_of_ble_eq_true rfl)⟩ dX11_field_85
            · have c11 : 0 < (κ.1 2).toInt := by have h := z_nle c11; rw [show (0 : Int32).toInt = 0 from by decide +kernel] at h; exact h
              have hP : CH D cy ad A (tP κ κ.2.2.2.2) H := CH.cong hP rfl rfl rfl rfl rfl rfl rfl rfl rfl rfl rfl rfl rfl rfl rfl rfl rfl rfl rfl rfl rfl rfl rfl rfl rfl rfl rfl
              exact c_ise C hfl hout κ.2.2.2.2 ⟨TK.rf, hPV, hSV, (Or.inr ⟨rfl, (vX11_field_9 κ k0 k1 k2 b2 r3 r5 x7 hpre_0 hpre_1 hr1_1_0 hr1_1_1 hr1_1_2 hr3_0_0 hr3_0_1 hr3_1_0 hr3_1_1 c4 hr5_0_0 hr5_0_1 hr5_1_0 hr5_1_1 c6 ex7 bx7_0 bx7_1 c8 hr9_1_0 hr9_1_1 c11)⟩), (vX11_field_10 κ k0 k1 b2 r3 x7 hpre_0 hpre_1 hr1_1_0 hr1_1_1 hr1_1_2 hr3_0_0 hr3_0_1 hr3_1_0 hr3_1_1 c4 ex7 bx7_0 bx7_1 c8 hr9_1_0 hr9_1_1)⟩ hP hS hl.1 cw_890 cw_891 (is := 123) (text := "the class can't get this field") (by decide +kernel) dX11_field_63 dX11_field_66 dX11_field_67 dX11_field_69 dX11_field_72 (Nat.le_of_ble_eq_true rfl) (Nat.le_of_ble_eq_true rfl) ⟨(Nat.le_of_ble_eq_true rfl), (Nat.le_of_ble_eq_true rfl)⟩ ⟨(Nat.le_of_ble_eq_true rfl), (Nat.le_of_ble_eq_true rfl)⟩
          | some b10 =>
            have hb10 : oT κ.2.2.2.2 b10 = 4 := hr9_0 b10 rfl
            refine lv_ifnonnull (tgt := 63) C.x C.b dX11_field_53 (by decide) ?_
            have hP : CH D cy ad A (tP κ κ.2.2.2.2) H := CH.cong hP rfl rfl rfl rfl rfl rfl rfl rfl rfl rfl rfl rfl rfl rfl rfl rfl rfl rfl rfl rfl rfl rfl rfl rfl rfl rfl rfl
            exact c_ise C hfl hout κ.2.2.2.2 ⟨TK.rf, hPV, hSV, (Or.inr ⟨rfl, (vX11_field_11 κ k0 k1 k2 b2 r3 r5 x7 b10 hpre_0 hpre_1 hr1_1_0 hr1_1_1 hr1_1_2 hr3_0_0 hr3_0_1 hr3_1_0 hr3_1_1 c4 hr5_0_0 hr5_0_1 hr5_1_0 hr5_1_1 c6 ex7 bx7_0 bx7_1 c8 hr9_1_0 hr9_1_1)⟩), (vX11_field_12 κ k0 k1 b2 r3 x7 b10 hpre_0 hpre_1 hr1_1_0 hr1_1_1 hr1_1_2 hr3_0_0 hr3_0_1 hr3_1_0 hr3_1_1 c4 ex7 bx7_0 bx7_1 c8 hr9_1_0 hr9_1_1)⟩ hP hS hl.1 cw_890 cw_891 (is := 123) (text := "the class can't get this field") (by decide +kernel) dX11_field_63 dX11_field_66 dX11_field_67 dX11_field_69 dX11_field_72 (Nat.le_of_ble_eq_true rfl) (Nat.le_of_ble_eq_true rfl) ⟨(Nat.le_of_ble_eq_true rfl), (Nat.le_of_ble_eq_true rfl)⟩ ⟨(Nat.le_of_ble_eq_true rfl), (Nat.le_of_ble_eq_true rfl)⟩
      · have c6 : r5.toInt = 0 := by have h := z_eq c6; rw [show (0 : Int32).toInt = 0 from by decide +kernel] at h; exact h
        have hP : CH D cy ad A (tP κ κ.2.2.2.2) H := CH.cong hP rfl rfl rfl rfl rfl rfl rfl rfl rfl rfl rfl rfl rfl rfl rfl rfl rfl rfl rfl rfl rfl rfl rfl rfl rfl rfl rfl
        exact c_iae C hfl hout κ.2.2.2.2 ⟨TK.rf, hPV, hSV, (Or.inl ⟨rfl, (vX11_field_13 κ k0 k1 k2 b2 r3 r5 hpre_0 hpre_1 hr1_1_0 hr1_1_1 hr1_1_2 hr3_0_0 hr3_0_1 hr3_1_0 hr3_1_1 c4 hr5_0_0 hr5_0_1 hr5_1_0 hr5_1_1 c6)⟩), (vX11_field_3 κ )⟩ hP hS hl.1 cw_888 cw_889 (is := 111) (text := "no such class, name or type") (by decide +kernel) dX11_field_27 dX11_field_30 dX11_field_31 dX11_field_33 dX11_field_36 (Nat.le_of_ble_eq_true rfl) (Nat.le_of_ble_eq_true rfl) ⟨(Nat.le_of_ble_eq_true rfl), (Nat.le_of_ble_eq_true rfl)⟩ ⟨(Nat.le_of_ble_eq_true rfl), (Nat.le_of_ble_eq_true rfl)⟩

-- pre:X11_familyAt@2 @2
theorem vX11_method_1 (κ : KS) (hpre_0 : 0 ≤ (κ.1 1).toInt) (hpre_1 : (κ.1 1).toInt ≤ 5) : 0 ≤ (κ.1 1).toInt ∧ (κ.1 1).toInt ≤ 5 := by
  refine ⟨?_, ?_⟩ <;> first | assumption | omega | (subst_vars; omega) | trivial
-- thrown @40
theorem vX11_method_2 (κ : KS) (k0 : Int32) (k1 : Int32) (k2 : Int32) (k3 : Int32) (k4 : Int32) (hpre_0 : 0 ≤ (κ.1 1).toInt) (hpre_1 : (κ.1 1).toInt ≤ 5) (hr1_1_0 : (0 ≤ k0.toInt ∧ k0.toInt < (κ.1 1).toInt) → on1 none = 1) (hr1_1_1 : ¬ (0 ≤ k0.toInt ∧ k0.toInt < (κ.1 1).toInt) → on1 none = 0) (hr1_1_2 : (0 ≤ k0.toInt ∧ k0.toInt < (κ.1 1).toInt) → none = (κ.2.2.2.1 7) k0.toNatClampNeg) : ¬ ((0 ≤ k0.toInt ∧ k0.toInt < (κ.1 1).toInt) ∧ (1 ≤ k1.toInt ∧ k1.toInt ≤ 14348906) ∧ 0 ≤ k4.toInt ∧ k4.toInt ≤ 5 ∧ ((k2.toInt = 0 ∧ k3.toInt = 0) ∨ (¬ k2.toInt = 0 ∧ ((1 ≤ k2.toInt ∧ k2.toInt ≤ 5) ∨ (8 ≤ k2.toInt ∧ k2.toInt < 8 + (κ.1 1).toInt)) ∧ (k3.toInt = 0 ∨ ((1 ≤ k3.toInt ∧ k3.toInt ≤ 5) ∨ (8 ≤ k3.toInt ∧ k3.toInt < 8 + (κ.1 1).toInt)))))) := by
  have zo0 : on1 none = 0 := rfl
  omega
-- xpost @40
theorem vX11_method_3 (κ : KS)  : κ.2.2.2.2 = κ.2.2.2.2 := by
  first | assumption | omega | (subst_vars; omega) | trivial
-- thrown @40
theorem vX11_method_4 (κ : KS) (k0 : Int32) (k1 : Int32) (k2 : Int32) (k3 : Int32) (k4 : Int32) (b2 : Nat) (r3 : Int32) (hpre_0 : 0 ≤ (κ.1 1).toInt) (hpre_1 : (κ.1 1).toInt ≤ 5) (hr1_1_0 : (0 ≤ k0.toInt ∧ k0.toInt < (κ.1 1).toInt) → on1 (some b2) = 1) (hr1_1_1 : ¬ (0 ≤ k0.toInt ∧ k0.toInt < (κ.1 1).toInt) → on1 (some b2) = 0) (hr1_1_2 : (0 ≤ k0.toInt ∧ k0.toInt < (κ.1 1).toInt) → (some b2) = (κ.2.2.2.1 7) k0.toNatClampNeg) (hr3_0_0 : 0 ≤ r3.toInt) (hr3_0_1 : r3.toInt ≤ 1) (hr3_1_0 : (1 ≤ k1.toInt ∧ k1.toInt ≤ 14348906) → r3.toInt = 1) (hr3_1_1 : ¬ (1 ≤ k1.toInt ∧ k1.toInt ≤ 14348906) → r3.toInt = 0) (c4 : r3.toInt = 0) : ¬ ((0 ≤ k0.toInt ∧ k0.toInt < (κ.1 1).toInt) ∧ (1 ≤ k1.toInt ∧ k1.toInt ≤ 14348906) ∧ 0 ≤ k4.toInt ∧ k4.toInt ≤ 5 ∧ ((k2.toInt = 0 ∧ k3.toInt = 0) ∨ (¬ k2.toInt = 0 ∧ ((1 ≤ k2.toInt ∧ k2.toInt ≤ 5) ∨ (8 ≤ k2.toInt ∧ k2.toInt < 8 + (κ.1 1).toInt)) ∧ (k3.toInt = 0 ∨ ((1 ≤ k3.toInt ∧ k3.toInt ≤ 5) ∨ (8 ≤ k3.toInt ∧ k3.toInt < 8 + (κ.1 1).toInt)))))) := by
  have zo0 : on1 (some b2) = 1 := rfl
  omega
-- thrown @40
theorem vX11_method_5 (κ : KS) (k0 : Int32) (k1 : Int32) (k2 : Int32) (k3 : Int32) (k4 : Int32) (b2 : Nat) (r3 : Int32) (hpre_0 : 0 ≤ (κ.1 1).toInt) (hpre_1 : (κ.1 1).toInt ≤ 5) (hr1_1_0 : (0 ≤ k0.toInt ∧ k0.toInt < (κ.1 1).toInt) → on1 (some b2) = 1) (hr1_1_1 : ¬ (0 ≤ k0.toInt ∧ k0.toInt < (κ.1 1).toInt) → on1 (some b2) = 0) (hr1_1_2 : (0 ≤ k0.toInt ∧ k0.toInt < (κ.1 1).toInt) → (some b2) = (κ.2.2.2.1 7) k0.toNatClampNeg) (hr3_0_0 : 0 ≤ r3.toInt) (hr3_0_1 : r3.toInt ≤ 1) (hr3_1_0 : (1 ≤ k1.toInt ∧ k1.toInt ≤ 14348906) → r3.toInt = 1) (hr3_1_1 : ¬ (1 ≤ k1.toInt ∧ k1.toInt ≤ 14348906) → r3.toInt = 0) (c4 : ¬ r3.toInt = 0) (c5 : k4.toInt < 0) : ¬ ((0 ≤ k0.toInt ∧ k0.toInt < (κ.1 1).toInt) ∧ (1 ≤ k1.toInt ∧ k1.toInt ≤ 14348906) ∧ 0 ≤ k4.toInt ∧ k4.toInt ≤ 5 ∧ ((k2.toInt = 0 ∧ k3.toInt = 0) ∨ (¬ k2.toInt = 0 ∧ ((1 ≤ k2.toInt ∧ k2.toInt ≤ 5) ∨ (8 ≤ k2.toInt ∧ k2.toInt < 8 + (κ.1 1).toInt)) ∧ (k3.toInt = 0 ∨ ((1 ≤ k3.toInt ∧ k3.toInt ≤ 5) ∨ (8 ≤ k3.toInt ∧ k3.toInt < 8 + (κ.1 1).toInt)))))) := by
  have zo0 : on1 (some b2) = 1 := rfl
  omega
-- thrown @40
theorem vX11_method_6 (κ : KS) (k0 : Int32) (k1 : Int32) (k2 : Int32) (k3 : Int32) (k4 : Int32) (b2 : Nat) (r3 : Int32) (hpre_0 : 0 ≤ (κ.1 1).toInt) (hpre_1 : (κ.1 1).toInt ≤ 5) (hr1_1_0 : (0 ≤ k0.toInt ∧ k0.toInt < (κ.1 1).toInt) → on1 (some b2) = 1) (hr1_1_1 : ¬ (0 ≤ k0.toInt ∧ k0.toInt < (κ.1 1).toInt) → on1 (some b2) = 0) (hr1_1_2 : (0 ≤ k0.toInt ∧ k0.toInt < (κ.1 1).toInt) → (some b2) = (κ.2.2.2.1 7) k0.toNatClampNeg) (hr3_0_0 : 0 ≤ r3.toInt) (hr3_0_1 : r3.toInt ≤ 1) (hr3_1_0 : (1 ≤ k1.toInt ∧ k1.toInt ≤ 14348906) → r3.toInt = 1) (hr3_1_1 : ¬ (1 ≤ k1.toInt ∧ k1.toInt ≤ 14348906) → r3.toInt = 0) (c4 : ¬ r3.toInt = 0) (c5 : 0 ≤ k4.toInt) (c6 : 5 < k4.toInt) : ¬ ((0 ≤ k0.toInt ∧ k0.toInt < (κ.1 1).toInt) ∧ (1 ≤ k1.toInt ∧ k1.toInt ≤ 14348906) ∧ 0 ≤ k4.toInt ∧ k4.toInt ≤ 5 ∧ ((k2.toInt = 0 ∧ k3.toInt = 0) ∨ (¬ k2.toInt = 0 ∧ ((1 ≤ k2.toInt ∧ k2.toInt ≤ 5) ∨ (8 ≤ k2.toInt ∧ k2.toInt < 8 + (κ.1 1).toInt)) ∧ (k3.toInt = 0 ∨ ((1 ≤ k3.toInt ∧ k3.toInt ≤ 5) ∨ (8 ≤ k3.toInt ∧ k3.toInt < 8 + (κ.1 1).toInt)))))) := by
  have zo0 : on1 (some b2) = 1 := rfl
  omega
-- pre:X11_areParameters@34 @34
theorem vX11_method_7 (κ : KS) (k0 : Int32) (b2 : Nat) (hpre_0 : 0 ≤ (κ.1 1).toInt) (hpre_1 : (κ.1 1).toInt ≤ 5) (hr1_1_0 : (0 ≤ k0.toInt ∧ k0.toInt < (κ.1 1).toInt) → on1 (some b2) = 1) (hr1_1_1 : ¬ (0 ≤ k0.toInt ∧ k0.toInt < (κ.1 1).toInt) → on1 (some b2) = 0) (hr1_1_2 : (0 ≤ k0.toInt ∧ k0.toInt < (κ.1 1).toInt) → (some b2) = (κ.2.2.2.1 7) k0.toNatClampNeg) : 0 ≤ (κ.1 1).toInt ∧ (κ.1 1).toInt ≤ 5 := by
  have zo0 : on1 (some b2) = 1 := rfl
  refine ⟨?_, ?_⟩ <;> first | assumption | omega | (subst_vars; omega) | trivial
-- post @95
theorem vX11_method_8 (κ : KS) (k0 : Int32) (k1 : Int32) (k2 : Int32) (k3 : Int32) (k4 : Int32) (b2 : Nat) (r3 : Int32) (r7 : Int32) (x9 : Int32) (P14 : PL) (P17 : PL) (x19 : Int32) (hpre_0 : 0 ≤ (κ.1 1).toInt) (hpre_1 : (κ.1 1).toInt ≤ 5) (hr1_1_0 : (0 ≤ k0.toInt ∧ k0.toInt < (κ.1 1).toInt) → on1 (some b2) = 1) (hr1_1_1 : ¬ (0 ≤ k0.toInt ∧ k0.toInt < (κ.1 1).toInt) → on1 (some b2) = 0) (hr1_1_2 : (0 ≤ k0.toInt ∧ k0.toInt < (κ.1 1).toInt) → (some b2) = (κ.2.2.2.1 7) k0.toNatClampNeg) (hr3_0_0 : 0 ≤ r3.toInt) (hr3_0_1 : r3.toInt ≤ 1) (hr3_1_0 : (1 ≤ k1.toInt ∧ k1.toInt ≤ 14348906) → r3.toInt = 1) (hr3_1_1 : ¬ (1 ≤ k1.toInt ∧ k1.toInt ≤ 14348906) → r3.toInt = 0) (c4 : ¬ r3.toInt = 0) (c5 : 0 ≤ k4.toInt) (c6 : k4.toInt ≤ 5) (hr7_0_0 : 0 ≤ r7.toInt) (hr7_0_1 : r7.toInt ≤ 1) (hr7_1_0 : ((k2.toInt = 0 ∧ k3.toInt = 0) ∨ (¬ k2.toInt = 0 ∧ ((1 ≤ k2.toInt ∧ k2.toInt ≤ 5) ∨ (8 ≤ k2.toInt ∧ k2.toInt < 8 + (κ.1 1).toInt)) ∧ (k3.toInt = 0 ∨ ((1 ≤ k3.toInt ∧ k3.toInt ≤ 5) ∨ (8 ≤ k3.toInt ∧ k3.toInt < 8 + (κ.1 1).toInt))))) → r7.toInt = 1) (hr7_1_1 : ¬ ((k2.toInt = 0 ∧ k3.toInt = 0) ∨ (¬ k2.toInt = 0 ∧ ((1 ≤ k2.toInt ∧ k2.toInt ≤ 5) ∨ (8 ≤ k2.toInt ∧ k2.toInt < 8 + (κ.1 1).toInt)) ∧ (k3.toInt = 0 ∨ ((1 ≤ k3.toInt ∧ k3.toInt ≤ 5) ∨ (8 ≤ k3.toInt ∧ k3.toInt < 8 + (κ.1 1).toInt))))) → r7.toInt = 0) (c8 : ¬ r7.toInt = 0) (ex9 : oI κ.2.2.2.2 9 b2 = x9) (bx9_0 : 0 ≤ x9.toInt) (bx9_1 : x9.toInt ≤ 6) (c10 : x9.toInt < 6) (hr16_2_0 : FC 8 P14 P17 b2) (hr16_2_1 : (oI P14 9 b2).toInt < 6 → (oI P17 9 b2).toInt = (oI P14 9 b2).toInt + 1) (ex19 : oI P17 9 b2 = x19) (bx19_0 : 0 ≤ x19.toInt) (bx19_1 : x19.toInt ≤ 6) : ((0 ≤ k0.toInt ∧ k0.toInt < (κ.1 1).toInt) ∧ (1 ≤ k1.toInt ∧ k1.toInt ≤ 14348906) ∧ 0 ≤ k4.toInt ∧ k4.toInt ≤ 5 ∧ ((k2.toInt = 0 ∧ k3.toInt = 0) ∨ (¬ k2.toInt = 0 ∧ ((1 ≤ k2.toInt ∧ k2.toInt ≤ 5) ∨ (8 ≤ k2.toInt ∧ k2.toInt < 8 + (κ.1 1).toInt)) ∧ (k3.toInt = 0 ∨ ((1 ≤ k3.toInt ∧ k3.toInt ≤ 5) ∨ (8 ≤ k3.toInt ∧ k3.toInt < 8 + (κ.1 1).toInt)))))) := by
  have zo0 : on1 (some b2) = 1 := rfl
  refine ⟨?_, ?_, ?_, ?_, ?_⟩ <;> first | assumption | omega | (subst_vars; omega) | trivial
-- thrown @60
theorem vX11_method_9 (κ : KS) (k0 : Int32) (k1 : Int32) (k2 : Int32) (k3 : Int32) (k4 : Int32) (b2 : Nat) (r3 : Int32) (r7 : Int32) (x9 : Int32) (hpre_0 : 0 ≤ (κ.1 1).toInt) (hpre_1 : (κ.1 1).toInt ≤ 5) (hr1_1_0 : (0 ≤ k0.toInt ∧ k0.toInt < (κ.1 1).toInt) → on1 (some b2) = 1) (hr1_1_1 : ¬ (0 ≤ k0.toInt ∧ k0.toInt < (κ.1 1).toInt) → on1 (some b2) = 0) (hr1_1_2 : (0 ≤ k0.toInt ∧ k0.toInt < (κ.1 1).toInt) → (some b2) = (κ.2.2.2.1 7) k0.toNatClampNeg) (hr3_0_0 : 0 ≤ r3.toInt) (hr3_0_1 : r3.toInt ≤ 1) (hr3_1_0 : (1 ≤ k1.toInt ∧ k1.toInt ≤ 14348906) → r3.toInt = 1) (hr3_1_1 : ¬ (1 ≤ k1.toInt ∧ k1.toInt ≤ 14348906) → r3.toInt = 0) (c4 : ¬ r3.toInt = 0) (c5 : 0 ≤ k4.toInt) (c6 : k4.toInt ≤ 5) (hr7_0_0 : 0 ≤ r7.toInt) (hr7_0_1 : r7.toInt ≤ 1) (hr7_1_0 : ((k2.toInt = 0 ∧ k3.toInt = 0) ∨ (¬ k2.toInt = 0 ∧ ((1 ≤ k2.toInt ∧ k2.toInt ≤ 5) ∨ (8 ≤ k2.toInt ∧ k2.toInt < 8 + (κ.1 1).toInt)) ∧ (k3.toInt = 0 ∨ ((1 ≤ k3.toInt ∧ k3.toInt ≤ 5) ∨ (8 ≤ k3.toInt ∧ k3.toInt < 8 + (κ.1 1).toInt))))) → r7.toInt = 1) (hr7_1_1 : ¬ ((k2.toInt = 0 ∧ k3.toInt = 0) ∨ (¬ k2.toInt = 0 ∧ ((1 ≤ k2.toInt ∧ k2.toInt ≤ 5) ∨ (8 ≤ k2.toInt ∧ k2.toInt < 8 + (κ.1 1).toInt)) ∧ (k3.toInt = 0 ∨ ((1 ≤ k3.toInt ∧ k3.toInt ≤ 5) ∨ (8 ≤ k3.toInt ∧ k3.toInt < 8 + (κ.1 1).toInt))))) → r7.toInt = 0) (c8 : ¬ r7.toInt = 0) (ex9 : oI κ.2.2.2.2 9 b2 = x9) (bx9_0 : 0 ≤ x9.toInt) (bx9_1 : x9.toInt ≤ 6) (c10 : 6 ≤ x9.toInt) : ((0 ≤ k0.toInt ∧ k0.toInt < (κ.1 1).toInt) ∧ (1 ≤ k1.toInt ∧ k1.toInt ≤ 14348906) ∧ 0 ≤ k4.toInt ∧ k4.toInt ≤ 5 ∧ ((k2.toInt = 0 ∧ k3.toInt = 0) ∨ (¬ k2.toInt = 0 ∧ ((1 ≤ k2.toInt ∧ k2.toInt ≤ 5) ∨ (8 ≤ k2.toInt ∧ k2.toInt < 8 + (κ.1 1).toInt)) ∧ (k3.toInt = 0 ∨ ((1 ≤ k3.toInt ∧ k3.toInt ≤ 5) ∨ (8 ≤ k3.toInt ∧ k3.toInt < 8 + (κ.1 1).toInt)))))) ∧ ∃ a, (κ.2.2.2.1 7) k0.toNatClampNeg = some a ∧ 6 ≤ (oI κ.2.2.2.2 9 a).toInt := by
  have zo0 : on1 (some b2) = 1 := rfl
  refine ⟨by omega, _, (hr1_1_2 (by omega)).symm, ?_⟩
  rw [ex9]; omega
-- xpost @60
theorem vX11_method_10 (κ : KS) (k0 : Int32) (b2 : Nat) (x9 : Int32) (hpre_0 : 0 ≤ (κ.1 1).toInt) (hpre_1 : (κ.1 1).toInt ≤ 5) (hr1_1_0 : (0 ≤ k0.toInt ∧ k0.toInt < (κ.1 1).toInt) → on1 (some b2) = 1) (hr1_1_1 : ¬ (0 ≤ k0.toInt ∧ k0.toInt < (κ.1 1).toInt) → on1 (some b2) = 0) (hr1_1_2 : (0 ≤ k0.toInt ∧ k0.toInt < (κ.1 1).toInt) → (some b2) = (κ.2.2.2.1 7) k0.toNatClampNeg) (ex9 : oI κ.2.2.2.2 9 b2 = x9) (bx9_0 : 0 ≤ x9.toInt) (bx9_1 : x9.toInt ≤ 6) (c10 : 6 ≤ x9.toInt) : κ.2.2.2.2 = κ.2.2.2.2 := by
  have zo0 : on1 (some b2) = 1 := rfl
  first | assumption | omega | (subst_vars; omega) | trivial
-- thrown @40
theorem vX11_method_11 (κ : KS) (k0 : Int32) (k1 : Int32) (k2 : Int32) (k3 : Int32) (k4 : Int32) (b2 : Nat) (r3 : Int32) (r7 : Int32) (hpre_0 : 0 ≤ (κ.1 1).toInt) (hpre_1 : (κ.1 1).toInt ≤ 5) (hr1_1_0 : (0 ≤ k0.toInt ∧ k0.toInt < (κ.1 1).toInt) → on1 (some b2) = 1) (hr1_1_1 : ¬ (0 ≤ k0.toInt ∧ k0.toInt < (κ.1 1).toInt) → on1 (some b2) = 0) (hr1_1_2 : (0 ≤ k0.toInt ∧ k0.toInt < (κ.1 1).toInt) → (some b2) = (κ.2.2.2.1 7) k0.toNatClampNeg) (hr3_0_0 : 0 ≤ r3.toInt) (hr3_0_1 : r3.toInt ≤ 1) (hr3_1_0 : (1 ≤ k1.toInt ∧ k1.toInt ≤ 14348906) → r3.toInt = 1) (hr3_1_1 : ¬ (1 ≤ k1.toInt ∧ k1.toInt ≤ 14348906) → r3.toInt = 0) (c4 : ¬ r3.toInt = 0) (c5 : 0 ≤ k4.toInt) (c6 : k4.toInt ≤ 5) (hr7_0_0 : 0 ≤ r7.toInt) (hr7_0_1 : r7.toInt ≤ 1) (hr7_1_0 : ((k2.toInt = 0 ∧ k3.toInt = 0) ∨ (¬ k2.toInt = 0 ∧ ((1 ≤ k2.toInt ∧ k2.toInt ≤ 5) ∨ (8 ≤ k2.toInt ∧ k2.toInt < 8 + (κ.1 1).toInt)) ∧ (k3.toInt = 0 ∨ ((1 ≤ k3.toInt ∧ k3.toInt ≤ 5) ∨ (8 ≤ k3.toInt ∧ k3.toInt < 8 + (κ.1 1).toInt))))) → r7.toInt = 1) (hr7_1_1 : ¬ ((k2.toInt = 0 ∧ k3.toInt = 0) ∨ (¬ k2.toInt = 0 ∧ ((1 ≤ k2.toInt ∧ k2.toInt ≤ 5) ∨ (8 ≤ k2.toInt ∧ k2.toInt < 8 + (κ.1 1).toInt)) ∧ (k3.toInt = 0 ∨ ((1 ≤ k3.toInt ∧ k3.toInt ≤ 5) ∨ (8 ≤ k3.toInt ∧ k3.toInt < 8 + (κ.1 1).toInt))))) → r7.toInt = 0) (c8 : r7.toInt = 0) : ¬ ((0 ≤ k0.toInt ∧ k0.toInt < (κ.1 1).toInt) ∧ (1 ≤ k1.toInt ∧ k1.toInt ≤ 14348906) ∧ 0 ≤ k4.toInt ∧ k4.toInt ≤ 5 ∧ ((k2.toInt = 0 ∧ k3.toInt = 0) ∨ (¬ k2.toInt = 0 ∧ ((1 ≤ k2.toInt ∧ k2.toInt ≤ 5) ∨ (8 ≤ k2.toInt ∧ k2.toInt < 8 + (κ.1 1).toInt)) ∧ (k3.toInt = 0 ∨ ((1 ≤ k3.toInt ∧ k3.toInt ≤ 5) ∨ (8 ≤ k3.toInt ∧ k3.toInt < 8 + (κ.1 1).toInt)))))) := by
  have zo0 : on1 (some b2) = 1 := rfl
  omega
set_option maxHeartbeats 4000000 in
set_option maxRecDepth 100000 in
theorem NX11_method (l : Launch) (D : va_G) (cy : Nat → ClassId) (ad : Nat → Nat) (A : Nat → Prop) (sz0 : Nat) (sa : Nat → Nat) (hfl : l.stackTraces = false) (κ : KS) (sz sl : Nat) (hAF : ∀ q, A q → Fr sz0 q) (hAn : ∀ q : Nat, sz ≤ q → A q) (k0 : Int32) (k1 : Int32) (k2 : Int32) (k3 : Int32) (k4 : Int32) (k5 : Int32) (hPV : PV sa κ.2.2.2.2) (hSV : SV ad κ.2.2.2.2 (κ.2.1 0) (κ.2.1 1) (κ.2.2.2.1 6) (κ.2.2.2.1 7) (κ.2.2.2.1 8) (κ.2.2.2.1 13) (κ.2.2.2.1 15) (κ.2.2.2.1 17) (κ.1 1).toInt) (hpre : 0 ≤ (κ.1 1).toInt ∧ (κ.1 1).toInt ≤ 5) : vx_Met l yX11_method (Cond.code yX11_method cX11_method 8 (some .int) :: GWc) ({ frames := 6, cells := 1, slots := 6, locals := 90 }) (PcC D cy ad A sz0 sa [.ref (ad 0), .int k0, .int k1, .int k2, .int k3, .int k4, .int k5] κ sz sl) (va_Qi (fun (r : Int32) (u : PL) => (TK κ.2.2.2.2 u) ∧ (PV sa u) ∧ (SV ad u (κ.2.1 0) (κ.2.1 1) (κ.2.2.2.1 6) (κ.2.2.2.1 7) (κ.2.2.2.1 8) (κ.2.2.2.1 13) (κ.2.2.2.1 15) (κ.2.2.2.1 17) (κ.1 1).toInt) ∧ (((0 ≤ k0.toInt ∧ k0.toInt < (κ.1 1).toInt) ∧ (1 ≤ k1.toInt ∧ k1.toInt ≤ 14348906) ∧ 0 ≤ k4.toInt ∧ k4.toInt ≤ 5 ∧ ((k2.toInt = 0 ∧ k3.toInt = 0) ∨ (¬ k2.toInt = 0 ∧ ((1 ≤ k2.toInt ∧ k2.toInt ≤ 5) ∨ (8 ≤ k2.toInt ∧ k2.toInt < 8 + (κ.1 1).toInt)) ∧ (k3.toInt = 0 ∨ ((1 ≤ k3.toInt ∧ k3.toInt ≤ 5) ∨ (8 ≤ k3.toInt ∧ k3.toInt < 8 + (κ.1 1).toInt)))))) ∧ (∃ a, (κ.2.2.2.1 7) k0.toNatClampNeg = some a ∧ oT κ.2.2.2.2 a = 3 ∧ (oI κ.2.2.2.2 9 a).toInt < 6 ∧ r.toInt = (oI κ.2.2.2.2 9 a).toInt + 1 ∧ (oI u 9 a).toInt = (oI κ.2.2.2.2 9 a).toInt + 1 ∧ FC 8 κ.2.2.2.2 u a))) (fun (u : PL) (t : State) => Bx D cy ad A sz sl (tP κ u) (1) (6) t) A) (TX D cy ad A (fun (E : String) (u : PL) => (TK κ.2.2.2.2 u) ∧ (PV sa u) ∧ (SV ad u (κ.2.1 0) (κ.2.1 1) (κ.2.2.2.1 6) (κ.2.2.2.1 7) (κ.2.2.2.1 8) (κ.2.2.2.1 13) (κ.2.2.2.1 15) (κ.2.2.2.1 17) (κ.1 1).toInt) ∧ ((E = tIAE ∧ (¬ ((0 ≤ k0.toInt ∧ k0.toInt < (κ.1 1).toInt) ∧ (1 ≤ k1.toInt ∧ k1.toInt ≤ 14348906) ∧ 0 ≤ k4.toInt ∧ k4.toInt ≤ 5 ∧ ((k2.toInt = 0 ∧ k3.toInt = 0) ∨ (¬ k2.toInt = 0 ∧ ((1 ≤ k2.toInt ∧ k2.toInt ≤ 5) ∨ (8 ≤ k2.toInt ∧ k2.toInt < 8 + (κ.1 1).toInt)) ∧ (k3.toInt = 0 ∨ ((1 ≤ k3.toInt ∧ k3.toInt ≤ 5) ∨ (8 ≤ k3.toInt ∧ k3.toInt < 8 + (κ.1 1).toInt)))))))) ∨ (E = tISE ∧ (((0 ≤ k0.toInt ∧ k0.toInt < (κ.1 1).toInt) ∧ (1 ≤ k1.toInt ∧ k1.toInt ≤ 14348906) ∧ 0 ≤ k4.toInt ∧ k4.toInt ≤ 5 ∧ ((k2.toInt = 0 ∧ k3.toInt = 0) ∨ (¬ k2.toInt = 0 ∧ ((1 ≤ k2.toInt ∧ k2.toInt ≤ 5) ∨ (8 ≤ k2.toInt ∧ k2.toInt < 8 + (κ.1 1).toInt)) ∧ (k3.toInt = 0 ∨ ((1 ≤ k3.toInt ∧ k3.toInt ≤ 5) ∨ (8 ≤ k3.toInt ∧ k3.toInt < 8 + (κ.1 1).toInt)))))) ∧ ∃ a, (κ.2.2.2.1 7) k0.toNatClampNeg = some a ∧ 6 ≤ (oI κ.2.2.2.2 9 a).toInt))) ∧ (u = κ.2.2.2.2)) (fun (u : PL) => (tP κ u))) (1) (6) A := by
  refine CM_ofX (loc0 := [(0, .ref (ad 0)), (1, .int k0), (2, .int k1), (3, .int k2), (4, .int k3), (5, .int k4), (6, .int k5)]) (own := RX11) (nm := "method") (by decide) rfl rfl rfl (Nat.le_of_ble_eq_true rfl) hAF hAn ?_
  intro p e s m below meth c ls hsz hsl hout C hP hS hl
  obtain ⟨hpre_0, hpre_1⟩ := hpre
  refine lv_aload_n C.x C.b dX11_method_0 rfl (lv_at hl 0 rfl) ?_
  refine lv_iload_n C.x C.b dX11_method_1 rfl (lv_at hl 1 rfl) ?_
  refine c_callVq (n := 1) (As := [.int k0]) (rest := []) C hP hS hl.1 (NX11_familyAt l D cy ad A sz0 sa κ s.heap.size (SLT s.heap) C.f (fun q h => C.a q (Nat.le_trans hS.1 h)) k0 hPV hSV (vX11_method_1 κ hpre_0 hpre_1)) ⟨cw_907, cw_911, by decide +kernel⟩ ⟨cw_908, cw_909, cw_910⟩ rfl (hP.recvS (k := 0) (ci := 13) C.K rfl rfl) rfl rfl (lv_room (Nat.le_of_ble_eq_true rfl)) ⟨Nat.le_of_ble_eq_true rfl, Nat.le_of_ble_eq_true rfl⟩ ⟨(Nat.le_of_ble_eq_true rfl), (Nat.le_of_ble_eq_true rfl)⟩ dX11_method_2 (fun r1 u H locs hr1 hP hS => ?_)
  have hr1 : (NT κ.2.2.2.2 3 r1) ∧ (((0 ≤ k0.toInt ∧ k0.toInt < (κ.1 1).toInt) → on1 r1 = 1) ∧ (¬ (0 ≤ k0.toInt ∧ k0.toInt < (κ.1 1).toInt) → on1 r1 = 0) ∧ ((0 ≤ k0.toInt ∧ k0.toInt < (κ.1 1).toInt) → r1 = (κ.2.2.2.1 7) k0.toNatClampNeg)) := hr1
  obtain ⟨hr1_0, hr1_1⟩ := hr1
  obtain ⟨hr1_1_0, hr1_1_1, hr1_1_2⟩ := hr1_1
  refine lq_astore (lv' := [(7, va_rf r1), (0, .ref (ad 0)), (1, .int k0), (2, .int k1), (3, .int k2), (4, .int k3), (5, .int k4), (6, .int k5)]) C.x C.b dX11_method_5 hl (by decide) (by cases r1 <;> rfl) (fun ls hl => ?_)
  refine lq_aload C.x C.b dX11_method_7 (lv_at hl 0 rfl) ?_
  cases r1 with
  | none =>
    refine lv_ifnullN (tgt := 40) C.x C.b dX11_method_9 (by decide) ?_
    have hP : CH D cy ad A (tP κ κ.2.2.2.2) H := CH.cong hP rfl rfl rfl rfl rfl rfl rfl rfl rfl rfl rfl rfl rfl rfl rfl rfl rfl rfl rfl rfl rfl rfl rfl rfl rfl rfl rfl
    exact c_iae C hfl hout κ.2.2.2.2 ⟨TK.rf, hPV, hSV, (Or.inl ⟨rfl, (vX11_method_2 κ k0 k1 k2 k3 k4 hpre_0 hpre_1 hr1_1_0 hr1_1_1 hr1_1_2)⟩), (vX11_method_3 κ )⟩ hP hS hl.1 cw_888 cw_889 (is := 133) (text := "no such class, name, type or action") (by decide +kernel) dX11_method_40 dX11_method_43 dX11_method_44 dX11_method_46 dX11_method_49 (Nat.le_of_ble_eq_true rfl) (Nat.le_of_ble_eq_true rfl) ⟨(Nat.le_of_ble_eq_true rfl), (Nat.le_of_ble_eq_true rfl)⟩ ⟨(Nat.le_of_ble_eq_true rfl), (Nat.le_of_ble_eq_true rfl)⟩
  | some b2 =>
    have hb2 : oT κ.2.2.2.2 b2 = 3 := hr1_0 b2 rfl
    refine lv_ifnull C.x C.b dX11_method_9 ?_
    refine lv_iload_n C.x C.b dX11_method_12 rfl (lv_at hl 3 rfl) ?_
    refine c_callSi (C2 := "") (b := 0) (n := 1) (As := [.int k1]) (rest := []) C hP hS hl.1 (NX11_isName l D cy ad A sz0 sa κ H.size (SLT H) C.f (fun q h => C.a q (Nat.le_trans hS.1 h)) k1 ) ⟨cw_917, cw_919, by decide +kernel⟩ ⟨cw_918, cw_910⟩ rfl rfl (lv_room (Nat.le_of_ble_eq_true rfl)) ⟨Nat.le_of_ble_eq_true rfl, Nat.le_of_ble_eq_true rfl⟩ ⟨(Nat.le_of_ble_eq_true rfl), (Nat.le_of_ble_eq_true rfl)⟩ dX11_method_13 (fun r3 u H locs hr3 hP hS => ?_)
    have hr3 : (0 ≤ r3.toInt ∧ r3.toInt ≤ 1) ∧ (((1 ≤ k1.toInt ∧ k1.toInt ≤ 14348906) → r3.toInt = 1) ∧ (¬ (1 ≤ k1.toInt ∧ k1.toInt ≤ 14348906) → r3.toInt = 0)) := hr3
    obtain ⟨hr3_0, hr3_1⟩ := hr3
    obtain ⟨hr3_0_0, hr3_0_1⟩ := hr3_0
    obtain ⟨hr3_1_0, hr3_1_1⟩ := hr3_1
    refine lv_if_eq (tgt := 40) C.x C.b dX11_method_16 (by decide) (fun c4 => ?_) (fun c4 => ?_)
    · have c4 : r3.toInt = 0 := by have h := z_eq c4; rw [show (0 : Int32).toInt = 0 from by decide +kernel] at h; exact h
      have hP : CH D cy ad A (tP κ κ.2.2.2.2) H := CH.cong hP rfl rfl rfl rfl rfl rfl rfl rfl rfl rfl rfl rfl rfl rfl rfl rfl rfl rfl rfl rfl rfl rfl rfl rfl rfl rfl rfl
      exact c_iae C hfl hout κ.2.2.2.2 ⟨TK.rf, hPV, hSV, (Or.inl ⟨rfl, (vX11_method_4 κ k0 k1 k2 k3 k4 b2 r3 hpre_0 hpre_1 hr1_1_0 hr1_1_1 hr1_1_2 hr3_0_0 hr3_0_1 hr3_1_0 hr3_1_1 c4)⟩), (vX11_method_3 κ )⟩ hP hS hl.1 cw_888 cw_889 (is := 133) (text := "no such class, name, type or action") (by decide +kernel) dX11_method_40 dX11_method_43 dX11_method_44 dX11_method_46 dX11_method_49 (Nat.le_of_ble_eq_true rfl) (Nat.le_of_ble_eq_true rfl) ⟨(Nat.le_of_ble_eq_true rfl), (Nat.le_of_ble_eq_true rfl)⟩ ⟨(Nat.le_of_ble_eq_true rfl), (Nat.le_of_ble_eq_true rfl)⟩
    · have c4 : ¬ r3.toInt = 0 := by have h := z_ne c4; rw [show (0 : Int32).toInt = 0 from by decide +kernel] at h; exact h
      refine lv_iload C.x C.b dX11_method_19 (lv_at hl 6 rfl) ?_
      refine lv_if_lt (tgt := 40) C.x C.b dX11_method_21 (by decide) (fun c5 => ?_) (fun c5 => ?_)
      · have c5 : k4.toInt < 0 := by have h := z_lt c5; rw [show (0 : Int32).toInt = 0 from by decide +kernel] at h; exact h
        have hP : CH D cy ad A (tP κ κ.2.2.2.2) H := CH.cong hP rfl rfl rfl rfl rfl rfl rfl rfl rfl rfl rfl rfl rfl rfl rfl rfl rfl rfl rfl rfl rfl rfl rfl rfl rfl rfl rfl
        exact c_iae C hfl hout κ.2.2.2.2 ⟨TK.rf, hPV, hSV, (Or.inl ⟨rfl, (vX11_method_5 κ k0 k1 k2 k3 k4 b2 r3 hpre_0 hpre_1 hr1_1_0 hr1_1_1 hr1_1_2 hr3_0_0 hr3_0_1 hr3_1_0 hr3_1_1 c4 c5)⟩), (vX11_method_3 κ )⟩ hP hS hl.1 cw_888 cw_889 (is := 133) (text := "no such class, name, type or action") (by decide +kernel) dX11_method_40 dX11_method_43 dX11_method_44 dX11_method_46 dX11_method_49 (Nat.le_of_ble_eq_true rfl) (Nat.le_of_ble_eq_true rfl) ⟨(Nat.le_of_ble_eq_true rfl), (Nat.le_of_ble_eq_true rfl)⟩ ⟨(Nat.le_of_ble_eq_true rfl), (Nat.le_of_ble_eq_true rfl)⟩
      · have c5 : 0 ≤ k4.toInt := by have h := z_nlt c5; rw [show (0 : Int32).toInt = 0 from by decide +kernel] at h; exact h
        refine lv_iload C.x C.b dX11_method_24 (lv_at hl 6 rfl) ?_
        refine lv_iconst (v := 5) C.x C.b dX11_method_26 (by decide +kernel) ?_
        refine lv_icmp_gt (tgt := 40) C.x C.b dX11_method_27 (by decide) (fun c6 => ?_) (fun c6 => ?_)
        · have c6 : 5 < k4.toInt := by have h := z_lt c6; rw [show (5 : Int32).toInt = 5 from by decide +kernel] at h; exact h
          have hP : CH D cy ad A (tP κ κ.2.2.2.2) H := CH.cong hP rfl rfl rfl rfl rfl rfl rfl rfl rfl rfl rfl rfl rfl rfl rfl rfl rfl rfl rfl rfl rfl rfl rfl rfl rfl rfl rfl
          exact c_iae C hfl hout κ.2.2.2.2 ⟨TK.rf, hPV, hSV, (Or.inl ⟨rfl, (vX11_method_6 κ k0 k1 k2 k3 k4 b2 r3 hpre_0 hpre_1 hr1_1_0 hr1_1_1 hr1_1_2 hr3_0_0 hr3_0_1 hr3_1_0 hr3_1_1 c4 c5 c6)⟩), (vX11_method_3 κ )⟩ hP hS hl.1 cw_888 cw_889 (is := 133) (text := "no such class, name, type or action") (by decide +kernel) dX11_method_40 dX11_method_43 dX11_method_44 dX11_method_46 dX11_method_49 (Nat.le_of_ble_eq_true rfl) (Nat.le_of_ble_eq_true rfl) ⟨(Nat.le_of_ble_eq_true rfl), (Nat.le_of_ble_eq_true rfl)⟩ ⟨(Nat.le_of_ble_eq_true rfl), (Nat.le_of_ble_eq_true rfl)⟩
        · have c6 : k4.toInt ≤ 5 := by have h := z_nlt c6; rw [show (5 : Int32).toInt = 5 from by decide +kernel] at h; exact h
          refine lv_aload_n C.x C.b dX11_method_30 rfl (lv_at hl 1 rfl) ?_
          refine lv_iload_n C.x C.b dX11_method_31 rfl (lv_at hl 4 rfl) ?_
          refine lv_iload C.x C.b dX11_method_32 (lv_at hl 5 rfl) ?_
          refine c_callVi (n := 2) (As := [.int k2, .int k3]) (rest := []) C hP hS hl.1 (NX11_areParameters l D cy ad A sz0 sa κ H.size (SLT H) C.f (fun q h => C.a q (Nat.le_trans hS.1 h)) k2 k3 (vX11_method_7 κ k0 b2 hpre_0 hpre_1 hr1_1_0 hr1_1_1 hr1_1_2)) ⟨cw_934, cw_937, by decide +kernel⟩ ⟨cw_935, cw_936, cw_910⟩ rfl (hP.recvS (k := 0) (ci := 13) C.K rfl rfl) rfl rfl (lv_room (Nat.le_of_ble_eq_true rfl)) ⟨Nat.le_of_ble_eq_true rfl, Nat.le_of_ble_eq_true rfl⟩ ⟨(Nat.le_of_ble_eq_true rfl), (Nat.le_of_ble_eq_true rfl)⟩ dX11_method_34 (fun r7 u H locs hr7 hP hS => ?_)
          have hr7 : (0 ≤ r7.toInt ∧ r7.toInt ≤ 1) ∧ ((((k2.toInt = 0 ∧ k3.toInt = 0) ∨ (¬ k2.toInt = 0 ∧ ((1 ≤ k2.toInt ∧ k2.toInt ≤ 5) ∨ (8 ≤ k2.toInt ∧ k2.toInt < 8 + (κ.1 1).toInt)) ∧ (k3.toInt = 0 ∨ ((1 ≤ k3.toInt ∧ k3.toInt ≤ 5) ∨ (8 ≤ k3.toInt ∧ k3.toInt < 8 + (κ.1 1).toInt))))) → r7.toInt = 1) ∧ (¬ ((k2.toInt = 0 ∧ k3.toInt = 0) ∨ (¬ k2.toInt = 0 ∧ ((1 ≤ k2.toInt ∧ k2.toInt ≤ 5) ∨ (8 ≤ k2.toInt ∧ k2.toInt < 8 + (κ.1 1).toInt)) ∧ (k3.toInt = 0 ∨ ((1 ≤ k3.toInt ∧ k3.toInt ≤ 5) ∨ (8 ≤ k3.toInt ∧ k3.toInt < 8 + (κ.1 1).toInt))))) → r7.toInt = 0)) := hr7
          obtain ⟨hr7_0, hr7_1⟩ := hr7
          obtain ⟨hr7_0_0, hr7_0_1⟩ := hr7_0
          obtain ⟨hr7_1_0, hr7_1_1⟩ := hr7_1
          refine lv_if_ne (tgt := 50) C.x C.b dX11_method_37 (by decide) (fun c8 => ?_) (fun c8 => ?_)
          · have c8 : ¬ r7.toInt = 0 := by have h := z_ne c8; rw [show (0 : Int32).toInt = 0 from by decide +kernel] at h; exact h
            refine lv_aload C.x C.b dX11_method_50 (lv_at hl 0 rfl) ?_
            obtain ⟨x9, ex9⟩ : ∃ z, oI κ.2.2.2.2 9 b2 = z := ⟨_, rfl⟩
            refine pg_X1_6 (v := x9) C hP (t20 (a := b2) (t := 3) hb2) ex9 cw_930 dX11_method_52 ?_
            have bx9 : 0 ≤ x9.toInt ∧ x9.toInt ≤ 6 := by rw [← ex9]; exact (hPV.t3 hb2).2.2.2.2
            obtain ⟨bx9_0, bx9_1⟩ := bx9
            refine lv_bipush (v := 6) C.x C.b dX11_method_55 (by decide +kernel) ?_
            refine lv_icmp_lt (tgt := 70) C.x C.b dX11_method_57 (by decide) (fun c10 => ?_) (fun c10 => ?_)
            · have c10 : x9.toInt < 6 := by have h := z_lt c10; rw [show (6 : Int32).toInt = 6 from by decide +kernel] at h; exact h
              refine lv_aload C.x C.b dX11_method_70 (lv_at hl 0 rfl) ?_
              refine cn_X7 C hP hS cw_931 cw_932 cw_933 ⟨(Nat.le_of_ble_eq_true rfl), (Nat.le_of_ble_eq_true rfl)⟩ dX11_method_72 (fun q11 H h0q11 hP hS => ?_)
              have exz12 : EX κ.2.2.2.2 (newP κ.2.2.2.2 q11 25) := (EX.newP h0q11)
              have pvz12 : PV sa (newP κ.2.2.2.2 q11 25) := (hPV.raw h0q11 (by decide))
              have svz12 : SV ad (newP κ.2.2.2.2 q11 25) (κ.2.1 0) (κ.2.1 1) (κ.2.2.2.1 6) (κ.2.2.2.1 7) (κ.2.2.2.1 8) (κ.2.2.2.1 13) (κ.2.2.2.1 15) (κ.2.2.2.1 17) (κ.1 1).toInt := hSV.ex exz12
              refine lv_dup C.x C.b dX11_method_75 rfl ?_
              refine lv_iload_n C.x C.b dX11_method_76 rfl (lv_at hl 3 rfl) ?_
              refine lv_iload_n C.x C.b dX11_method_77 rfl (lv_at hl 4 rfl) ?_
              refine lv_iload C.x C.b dX11_method_78 (lv_at hl 5 rfl) ?_
              refine lv_iload C.x C.b dX11_method_80 (lv_at hl 6 rfl) ?_
              refine lv_iload C.x C.b dX11_method_82 (lv_at hl 7 rfl) ?_
              refine c_callIv (C2 := "") (n := 5) (As := [.int k1, .int k2, .int k3, .int k4, .int k5]) (rest := [.ref q11, .ref b2]) C hP hS hl.1 (NX7_init l D cy ad A sz0 sa (tP κ (newP κ.2.2.2.2 q11 25)) H.size (SLT H) C.f (fun q h => C.a q (Nat.le_trans hS.1 h)) q11 k1 k2 k3 k4 k5 (by show oT (newP κ.2.2.2.2 q11 25) q11 = 25; rw [newP_T, if_pos rfl]) pvz12) ⟨cw_938, cw_667, by decide +kernel⟩ ⟨cw_939, cw_933⟩ rfl rfl rfl (lv_room (Nat.le_of_ble_eq_true rfl)) ⟨Nat.le_of_ble_eq_true rfl, Nat.le_of_ble_eq_true rfl⟩ ⟨(Nat.le_of_ble_eq_true rfl), (Nat.le_of_ble_eq_true rfl)⟩ dX11_method_84 (fun u H locs hr13 hP hS => ?_)
              obtain ⟨P14, rfl⟩ : ∃ z, z = u := ⟨_, rfl⟩
              have hP : CH D cy ad A (tP (tP κ (newP κ.2.2.2.2 q11 25)) P14) H := hP
              have hr13 : (EXP (fun a => ¬ a = q11) (newP κ.2.2.2.2 q11 25) P14) ∧ (PV sa P14) ∧ (oT P14 q11 = 5) := hr13
              obtain ⟨hr13_0, hr13_1, hr13_2⟩ := hr13
              have exz15 : EX κ.2.2.2.2 P14 := EX.cons exz12 h0q11 hr13_0
              have svz15 : SV ad P14 (κ.2.1 0) (κ.2.1 1) (κ.2.2.2.1 6) (κ.2.2.2.1 7) (κ.2.2.2.1 8) (κ.2.2.2.1 13) (κ.2.2.2.1 15) (κ.2.2.2.1 17) (κ.1 1).toInt := hSV.ex exz15
              refine c_callVv (n := 1) (As := [.ref q11]) (rest := []) C hP hS hl.1 (NX1_addRoutine l D cy ad A sz0 sa (tP (tP κ (newP κ.2.2.2.2 q11 25)) P14) H.size (SLT H) C.f (fun q h => C.a q (Nat.le_trans hS.1 h)) b2 q11 (exz15.T hb2 (by decide)) hr13_2 hr13_1) ⟨cw_940, cw_396, by decide +kernel⟩ ⟨cw_941, cw_942, cw_405⟩ rfl (hP.recvP (t := 3) (ci := 3) C.K (t20 (a := b2) (t := 3) (exz15.T hb2 (by decide))) (by decide) rfl rfl) rfl rfl (lv_room (Nat.le_of_ble_eq_true rfl)) ⟨Nat.le_of_ble_eq_true rfl, Nat.le_of_ble_eq_true rfl⟩ ⟨(Nat.le_of_ble_eq_true rfl), (Nat.le_of_ble_eq_true rfl)⟩ dX11_method_87 (fun u H locs hr16 hP hS => ?_)
              obtain ⟨P17, rfl⟩ : ∃ z, z = u := ⟨_, rfl⟩
              have hP : CH D cy ad A (tP (tP (tP κ (newP κ.2.2.2.2 q11 25)) P14) P17) H := hP
              have hr16 : (TK P14 P17) ∧ (PV sa P17) ∧ (FC 8 P14 P17 b2 ∧ ((oI P14 9 b2).toInt < 6 → (oI P17 9 b2).toInt = (oI P14 9 b2).toInt + 1)) := hr16
              obtain ⟨hr16_0, hr16_1, hr16_2⟩ := hr16
              obtain ⟨hr16_2_0, hr16_2_1⟩ := hr16_2
              have svz18 : SV ad P17 (κ.2.1 0) (κ.2.1 1) (κ.2.2.2.1 6) (κ.2.2.2.1 7) (κ.2.2.2.1 8) (κ.2.2.2.1 13) (κ.2.2.2.1 15) (κ.2.2.2.1 17) (κ.1 1).toInt := svz15.tk hr16_0
              refine lv_aload C.x C.b dX11_method_90 (lv_at hl 0 rfl) ?_
              obtain ⟨x19, ex19⟩ : ∃ z, oI P17 9 b2 = z := ⟨_, rfl⟩
              refine pg_X1_6 (v := x19) C hP (t20 (a := b2) (t := 3) (hr16_0.T (exz15.T hb2 (by decide)) (by decide))) ex19 cw_930 dX11_method_92 ?_
              have bx19 : 0 ≤ x19.toInt ∧ x19.toInt ≤ 6 := by rw [← ex19]; exact (hr16_1.t3 (hr16_0.T (exz15.T hb2 (by decide)) (by decide))).2.2.2.2
              obtain ⟨bx19_0, bx19_1⟩ := bx19
              have hP : CH D cy ad A (tP κ P17) H := CH.cong hP rfl rfl rfl rfl rfl rfl rfl rfl rfl rfl rfl rfl rfl rfl rfl rfl rfl rfl rfl rfl rfl rfl rfl rfl rfl rfl rfl
              refine vx_ret ?_
              exact c_reti C hsz hsl P17 ⟨(TK.trans (exz15.tk) hr16_0), hr16_1, svz18, (by have o1 : on1 (some b2) = 1 := rfl; have eq9 : oI P14 9 b2 = oI κ.2.2.2.2 9 b2 := exz15.I hb2 (by decide) (by decide); have e9 := hr16_2_1 (by rw [eq9, ex9]; omega); rw [eq9] at e9; exact ⟨(vX11_method_8 κ k0 k1 k2 k3 k4 b2 r3 r7 x9 P14 P17 x19 hpre_0 hpre_1 hr1_1_0 hr1_1_1 hr1_1_2 hr3_0_0 hr3_0_1 hr3_1_0 hr3_1_1 c4 c5 c6 hr7_0_0 hr7_0_1 hr7_1_0 hr7_1_1 c8 ex9 bx9_0 bx9_1 c10 hr16_2_0 hr16_2_1 ex19 bx19_0 bx19_1), b2, (hr1_1_2 (by omega)).symm, hb2, by rw [ex9]; omega, by rw [← ex19]; exact e9, e9, FC.ex exz15 hb2 (by decide) hr16_2_0⟩)⟩ hP hS ⟨(Nat.le_of_ble_eq_true rfl), (Nat.le_of_ble_eq_true rfl)⟩ ⟨(Nat.le_of_ble_eq_true rfl), (Nat.le_of_ble_eq_true rfl)⟩ dX11_method_95
            · have c10 : 6 ≤ x9.toInt := by have h := z_nlt c10; rw [show (6 : Int32).toInt = 6 from by decide +kernel] at h; exact h
              have hP : CH D cy ad A (tP κ κ.2.2.2.2) H := CH.cong hP rfl rfl rfl rfl rfl rfl rfl rfl rfl rfl rfl rfl rfl rfl rfl rfl rfl rfl rfl rfl rfl rfl rfl rfl rfl rfl rfl
              exact c_ise C hfl hout κ.2.2.2.2 ⟨TK.rf, hPV, hSV, (Or.inr ⟨rfl, (vX11_method_9 κ k0 k1 k2 k3 k4 b2 r3 r7 x9 hpre_0 hpre_1 hr1_1_0 hr1_1_1 hr1_1_2 hr3_0_0 hr3_0_1 hr3_1_0 hr3_1_1 c4 c5 c6 hr7_0_0 hr7_0_1 hr7_1_0 hr7_1_1 c8 ex9 bx9_0 bx9_1 c10)⟩), (vX11_method_10 κ k0 b2 x9 hpre_0 hpre_1 hr1_1_0 hr1_1_1 hr1_1_2 ex9 bx9_0 bx9_1 c10)⟩ hP hS hl.1 cw_890 cw_891 (is := 138) (text := "the class has 6 methods") (by decide +kernel) dX11_method_60 dX11_method_63 dX11_method_64 dX11_method_66 dX11_method_69 (Nat.le_of_ble_eq_true rfl) (Nat.le_of_ble_eq_true rfl) ⟨(Nat.le_of_ble_eq_true rfl), (Nat.le_of_ble_eq_true rfl)⟩ ⟨(Nat.le_of_ble_eq_true rfl), (Nat.le_of_ble_eq_true rfl)⟩
          · have c8 : r7.toInt = 0 := by have h := z_eq c8; rw [show (0 : Int32).toInt = 0 from by decide +kernel] at h; exact h
            have hP : CH D cy ad A (tP κ κ.2.2.2.2) H := CH.cong hP rfl rfl rfl rfl rfl rfl rfl rfl rfl rfl rfl rfl rfl rfl rfl rfl rfl rfl rfl rfl rfl rfl rfl rfl rfl rfl rfl
            exact c_iae C hfl hout κ.2.2.2.2 ⟨TK.rf, hPV, hSV, (Or.inl ⟨rfl, (vX11_method_11 κ k0 k1 k2 k3 k4 b2 r3 r7 hpre_0 hpre_1 hr1_1_0 hr1_1_1 hr1_1_2 hr3_0_0 hr3_0_1 hr3_1_0 hr3_1_1 c4 c5 c6 hr7_0_0 hr7_0_1 hr7_1_0 hr7_1_1 c8)⟩), (vX11_method_3 κ )⟩ hP hS hl.1 cw_888 cw_889 (is := 133) (text := "no such class, name, type or action") (by decide +kernel) dX11_method_40 dX11_method_43 dX11_method_44 dX11_method_46 dX11_method_49 (Nat.le_of_ble_eq_true rfl) (Nat.le_of_ble_eq_true rfl) ⟨(Nat.le_of_ble_eq_true rfl), (Nat.le_of_ble_eq_true rfl)⟩ ⟨(Nat.le_of_ble_eq_true rfl), (Nat.le_of_ble_eq_true rfl)⟩
