-- pre:X11_familyAt@2 @2
theorem vX11_type_1 (κ : KS) (hpre_0 : 0 ≤ (κ.1 1).toInt) (hpre_1 : (κ.1 1).toInt ≤ 5) : 0 ≤ (κ.1 1).toInt ∧ (κ.1 1).toInt ≤ 5 := by
  refine ⟨?_, ?_⟩ <;> first | assumption | omega | (subst_vars; omega) | trivial
-- pre:X1_init@64 @64
theorem vX11_type_2 (κ : KS) (q6 : Nat)  : oI (newP κ.2.2.2.2 q6 23) 8 q6 = 0 ∧ oI (newP κ.2.2.2.2 q6 23) 9 q6 = 0 := by
  exact ⟨newP_zI, newP_zI⟩
-- in@67 @67
theorem vX11_type_3 (κ : KS) (k0 : Int32) (hpre_0 : 0 ≤ (κ.1 1).toInt) (hpre_1 : (κ.1 1).toInt ≤ 5) (hr1_1_0 : (0 ≤ k0.toInt ∧ k0.toInt < (κ.1 1).toInt) → on1 none = 1) (hr1_1_1 : ¬ (0 ≤ k0.toInt ∧ k0.toInt < (κ.1 1).toInt) → on1 none = 0) (hr1_1_2 : (0 ≤ k0.toInt ∧ k0.toInt < (κ.1 1).toInt) → none = (κ.2.2.2.1 7) k0.toNatClampNeg) (c3 : k0.toInt = (-1)) (c5 : (κ.1 1).toInt < 5) : vp_in (κ.1 1) 5 := by
  have zo0 : on1 none = 0 := rfl
  exact vp_in_iff.mpr ⟨by omega, by omega⟩
-- fam @67
theorem vX11_type_4 (κ : KS) (k0 : Int32) (hpre_0 : 0 ≤ (κ.1 1).toInt) (hpre_1 : (κ.1 1).toInt ≤ 5) (hr1_1_0 : (0 ≤ k0.toInt ∧ k0.toInt < (κ.1 1).toInt) → on1 none = 1) (hr1_1_1 : ¬ (0 ≤ k0.toInt ∧ k0.toInt < (κ.1 1).toInt) → on1 none = 0) (hr1_1_2 : (0 ≤ k0.toInt ∧ k0.toInt < (κ.1 1).toInt) → none = (κ.2.2.2.1 7) k0.toNatClampNeg) (c3 : k0.toInt = (-1)) (c5 : (κ.1 1).toInt < 5) : (((κ.1 1).toNatClampNeg : Nat) : Int) = (κ.1 1).toInt := by
  have zo0 : on1 none = 0 := rfl
  first | omega | (rw [clampZ (by omega)])
-- nw@74 @74
theorem vX11_type_5 (κ : KS) (k0 : Int32) (x12 : Int32) (hpre_0 : 0 ≤ (κ.1 1).toInt) (hpre_1 : (κ.1 1).toInt ≤ 5) (hr1_1_0 : (0 ≤ k0.toInt ∧ k0.toInt < (κ.1 1).toInt) → on1 none = 1) (hr1_1_1 : ¬ (0 ≤ k0.toInt ∧ k0.toInt < (κ.1 1).toInt) → on1 none = 0) (hr1_1_2 : (0 ≤ k0.toInt ∧ k0.toInt < (κ.1 1).toInt) → none = (κ.2.2.2.1 7) k0.toNatClampNeg) (c3 : k0.toInt = (-1)) (c5 : (κ.1 1).toInt < 5) (ex12 : x12 = (κ.1 1) + (1 : Int32)) : x12.toInt = (κ.1 1).toInt + 1 := by
  have q1 : (1 : Int32).toInt = 1 := by decide +kernel
  have zo0 : on1 none = 0 := rfl
  have w1 : (1 : Int32).toInt = 1 := by decide +kernel
  rw [ex12, z_add (by omega) (by omega)]; first | done | omega
-- fc1 @75
theorem vX11_type_6 (κ : KS) (k0 : Int32) (x12 : Int32) (hpre_0 : 0 ≤ (κ.1 1).toInt) (hpre_1 : (κ.1 1).toInt ≤ 5) (hr1_1_0 : (0 ≤ k0.toInt ∧ k0.toInt < (κ.1 1).toInt) → on1 none = 1) (hr1_1_1 : ¬ (0 ≤ k0.toInt ∧ k0.toInt < (κ.1 1).toInt) → on1 none = 0) (hr1_1_2 : (0 ≤ k0.toInt ∧ k0.toInt < (κ.1 1).toInt) → none = (κ.2.2.2.1 7) k0.toNatClampNeg) (c3 : k0.toInt = (-1)) (c5 : (κ.1 1).toInt < 5) (ex12 : x12 = (κ.1 1) + (1 : Int32)) (tx12 : x12.toInt = (κ.1 1).toInt + 1) : x12.toInt ≤ (κ.1 1).toInt + 1 := by
  have q1 : (1 : Int32).toInt = 1 := by decide +kernel
  have zo0 : on1 none = 0 := rfl
  first | assumption | omega | (subst_vars; omega) | trivial
-- nw@83 @83
theorem vX11_type_7 (κ : KS) (k0 : Int32) (x12 : Int32) (x14 : Int32) (hpre_0 : 0 ≤ (κ.1 1).toInt) (hpre_1 : (κ.1 1).toInt ≤ 5) (hr1_1_0 : (0 ≤ k0.toInt ∧ k0.toInt < (κ.1 1).toInt) → on1 none = 1) (hr1_1_1 : ¬ (0 ≤ k0.toInt ∧ k0.toInt < (κ.1 1).toInt) → on1 none = 0) (hr1_1_2 : (0 ≤ k0.toInt ∧ k0.toInt < (κ.1 1).toInt) → none = (κ.2.2.2.1 7) k0.toNatClampNeg) (c3 : k0.toInt = (-1)) (c5 : (κ.1 1).toInt < 5) (ex12 : x12 = (κ.1 1) + (1 : Int32)) (tx12 : x12.toInt = (κ.1 1).toInt + 1) (ex14 : x14 = x12 - (1 : Int32)) : x14.toInt = x12.toInt - 1 := by
  have q1 : (1 : Int32).toInt = 1 := by decide +kernel
  have zo0 : on1 none = 0 := rfl
  have w1 : (1 : Int32).toInt = 1 := by decide +kernel
  rw [ex14, z_sub (by omega) (by omega)]; first | done | omega
-- post @84
theorem vX11_type_8 (κ : KS) (k0 : Int32) (x12 : Int32) (x14 : Int32) (hpre_0 : 0 ≤ (κ.1 1).toInt) (hpre_1 : (κ.1 1).toInt ≤ 5) (hr1_1_0 : (0 ≤ k0.toInt ∧ k0.toInt < (κ.1 1).toInt) → on1 none = 1) (hr1_1_1 : ¬ (0 ≤ k0.toInt ∧ k0.toInt < (κ.1 1).toInt) → on1 none = 0) (hr1_1_2 : (0 ≤ k0.toInt ∧ k0.toInt < (κ.1 1).toInt) → none = (κ.2.2.2.1 7) k0.toNatClampNeg) (c3 : k0.toInt = (-1)) (c5 : (κ.1 1).toInt < 5) (ex12 : x12 = (κ.1 1) + (1 : Int32)) (tx12 : x12.toInt = (κ.1 1).toInt + 1) (ex14 : x14 = x12 - (1 : Int32)) (tx14 : x14.toInt = x12.toInt - 1) : (x14.toInt = (κ.1 1).toInt ∧ x12.toInt = (κ.1 1).toInt + 1 ∧ (κ.1 1).toInt < 5 ∧ (k0.toInt = -1 ∨ (0 ≤ k0.toInt ∧ k0.toInt < (κ.1 1).toInt))) := by
  have q1 : (1 : Int32).toInt = 1 := by decide +kernel
  have zo0 : on1 none = 0 := rfl
  refine ⟨?_, ?_, ?_, ?_⟩ <;> first | assumption | omega | (subst_vars; omega) | trivial
-- thrown @37
theorem vX11_type_9 (κ : KS) (k0 : Int32) (hpre_0 : 0 ≤ (κ.1 1).toInt) (hpre_1 : (κ.1 1).toInt ≤ 5) (hr1_1_0 : (0 ≤ k0.toInt ∧ k0.toInt < (κ.1 1).toInt) → on1 none = 1) (hr1_1_1 : ¬ (0 ≤ k0.toInt ∧ k0.toInt < (κ.1 1).toInt) → on1 none = 0) (hr1_1_2 : (0 ≤ k0.toInt ∧ k0.toInt < (κ.1 1).toInt) → none = (κ.2.2.2.1 7) k0.toNatClampNeg) (c3 : k0.toInt = (-1)) (c5 : 5 ≤ (κ.1 1).toInt) : (k0.toInt = -1 ∨ (0 ≤ k0.toInt ∧ k0.toInt < (κ.1 1).toInt)) ∧ 5 ≤ (κ.1 1).toInt := by
  have zo0 : on1 none = 0 := rfl
  refine ⟨?_, ?_⟩ <;> first | assumption | omega | (subst_vars; omega) | trivial
-- xpost @37
theorem vX11_type_10 (κ : KS) (k0 : Int32) (hpre_0 : 0 ≤ (κ.1 1).toInt) (hpre_1 : (κ.1 1).toInt ≤ 5) (hr1_1_0 : (0 ≤ k0.toInt ∧ k0.toInt < (κ.1 1).toInt) → on1 none = 1) (hr1_1_1 : ¬ (0 ≤ k0.toInt ∧ k0.toInt < (κ.1 1).toInt) → on1 none = 0) (hr1_1_2 : (0 ≤ k0.toInt ∧ k0.toInt < (κ.1 1).toInt) → none = (κ.2.2.2.1 7) k0.toNatClampNeg) (c3 : k0.toInt = (-1)) (c5 : 5 ≤ (κ.1 1).toInt) : (κ.1 1).toInt = (κ.1 1).toInt ∧ (κ.2.2.2.1 7) = (κ.2.2.2.1 7) := by
  have zo0 : on1 none = 0 := rfl
  refine ⟨?_, ?_⟩ <;> first | assumption | omega | (subst_vars; omega) | trivial
-- thrown @15
theorem vX11_type_11 (κ : KS) (k0 : Int32) (hpre_0 : 0 ≤ (κ.1 1).toInt) (hpre_1 : (κ.1 1).toInt ≤ 5) (hr1_1_0 : (0 ≤ k0.toInt ∧ k0.toInt < (κ.1 1).toInt) → on1 none = 1) (hr1_1_1 : ¬ (0 ≤ k0.toInt ∧ k0.toInt < (κ.1 1).toInt) → on1 none = 0) (hr1_1_2 : (0 ≤ k0.toInt ∧ k0.toInt < (κ.1 1).toInt) → none = (κ.2.2.2.1 7) k0.toNatClampNeg) (c3 : ¬ k0.toInt = (-1)) : ¬ k0.toInt = -1 ∧ ¬ (0 ≤ k0.toInt ∧ k0.toInt < (κ.1 1).toInt) := by
  have zo0 : on1 none = 0 := rfl
  refine ⟨?_, ?_⟩ <;> first | assumption | omega | (subst_vars; omega) | trivial
-- xpost @15
theorem vX11_type_12 (κ : KS) (k0 : Int32) (hpre_0 : 0 ≤ (κ.1 1).toInt) (hpre_1 : (κ.1 1).toInt ≤ 5) (hr1_1_0 : (0 ≤ k0.toInt ∧ k0.toInt < (κ.1 1).toInt) → on1 none = 1) (hr1_1_1 : ¬ (0 ≤ k0.toInt ∧ k0.toInt < (κ.1 1).toInt) → on1 none = 0) (hr1_1_2 : (0 ≤ k0.toInt ∧ k0.toInt < (κ.1 1).toInt) → none = (κ.2.2.2.1 7) k0.toNatClampNeg) (c3 : ¬ k0.toInt = (-1)) : (κ.1 1).toInt = (κ.1 1).toInt ∧ (κ.2.2.2.1 7) = (κ.2.2.2.1 7) := by
  have zo0 : on1 none = 0 := rfl
  refine ⟨?_, ?_⟩ <;> first | assumption | omega | (subst_vars; omega) | trivial
-- pre:X1_init@64 @64
theorem vX11_type_13 (κ : KS) (q17 : Nat)  : oI (newP κ.2.2.2.2 q17 23) 8 q17 = 0 ∧ oI (newP κ.2.2.2.2 q17 23) 9 q17 = 0 := by
  exact ⟨newP_zI, newP_zI⟩
-- in@67 @67
theorem vX11_type_14 (κ : KS) (k0 : Int32) (b2 : Nat) (hpre_0 : 0 ≤ (κ.1 1).toInt) (hpre_1 : (κ.1 1).toInt ≤ 5) (hr1_1_0 : (0 ≤ k0.toInt ∧ k0.toInt < (κ.1 1).toInt) → on1 (some b2) = 1) (hr1_1_1 : ¬ (0 ≤ k0.toInt ∧ k0.toInt < (κ.1 1).toInt) → on1 (some b2) = 0) (hr1_1_2 : (0 ≤ k0.toInt ∧ k0.toInt < (κ.1 1).toInt) → (some b2) = (κ.2.2.2.1 7) k0.toNatClampNeg) (c16 : (κ.1 1).toInt < 5) : vp_in (κ.1 1) 5 := by
  have zo0 : on1 (some b2) = 1 := rfl
  exact vp_in_iff.mpr ⟨by omega, by omega⟩
-- fam @67
theorem vX11_type_15 (κ : KS) (k0 : Int32) (b2 : Nat) (hpre_0 : 0 ≤ (κ.1 1).toInt) (hpre_1 : (κ.1 1).toInt ≤ 5) (hr1_1_0 : (0 ≤ k0.toInt ∧ k0.toInt < (κ.1 1).toInt) → on1 (some b2) = 1) (hr1_1_1 : ¬ (0 ≤ k0.toInt ∧ k0.toInt < (κ.1 1).toInt) → on1 (some b2) = 0) (hr1_1_2 : (0 ≤ k0.toInt ∧ k0.toInt < (κ.1 1).toInt) → (some b2) = (κ.2.2.2.1 7) k0.toNatClampNeg) (c16 : (κ.1 1).toInt < 5) : (((κ.1 1).toNatClampNeg : Nat) : Int) = (κ.1 1).toInt := by
  have zo0 : on1 (some b2) = 1 := rfl
  first | omega | (rw [clampZ (by omega)])
-- nw@74 @74
theorem vX11_type_16 (κ : KS) (k0 : Int32) (b2 : Nat) (x23 : Int32) (hpre_0 : 0 ≤ (κ.1 1).toInt) (hpre_1 : (κ.1 1).toInt ≤ 5) (hr1_1_0 : (0 ≤ k0.toInt ∧ k0.toInt < (κ.1 1).toInt) → on1 (some b2) = 1) (hr1_1_1 : ¬ (0 ≤ k0.toInt ∧ k0.toInt < (κ.1 1).toInt) → on1 (some b2) = 0) (hr1_1_2 : (0 ≤ k0.toInt ∧ k0.toInt < (κ.1 1).toInt) → (some b2) = (κ.2.2.2.1 7) k0.toNatClampNeg) (c16 : (κ.1 1).toInt < 5) (ex23 : x23 = (κ.1 1) + (1 : Int32)) : x23.toInt = (κ.1 1).toInt + 1 := by
  have q1 : (1 : Int32).toInt = 1 := by decide +kernel
  have zo0 : on1 (some b2) = 1 := rfl
  have w1 : (1 : Int32).toInt = 1 := by decide +kernel
  rw [ex23, z_add (by omega) (by omega)]; first | done | omega
-- fc1 @75
theorem vX11_type_17 (κ : KS) (k0 : Int32) (b2 : Nat) (x23 : Int32) (hpre_0 : 0 ≤ (κ.1 1).toInt) (hpre_1 : (κ.1 1).toInt ≤ 5) (hr1_1_0 : (0 ≤ k0.toInt ∧ k0.toInt < (κ.1 1).toInt) → on1 (some b2) = 1) (hr1_1_1 : ¬ (0 ≤ k0.toInt ∧ k0.toInt < (κ.1 1).toInt) → on1 (some b2) = 0) (hr1_1_2 : (0 ≤ k0.toInt ∧ k0.toInt < (κ.1 1).toInt) → (some b2) = (κ.2.2.2.1 7) k0.toNatClampNeg) (c16 : (κ.1 1).toInt < 5) (ex23 : x23 = (κ.1 1) + (1 : Int32)) (tx23 : x23.toInt = (κ.1 1).toInt + 1) : x23.toInt ≤ (κ.1 1).toInt + 1 := by
  have q1 : (1 : Int32).toInt = 1 := by decide +kernel
  have zo0 : on1 (some b2) = 1 := rfl
  first | assumption | omega | (subst_vars; omega) | trivial
-- nw@83 @83
theorem vX11_type_18 (κ : KS) (k0 : Int32) (b2 : Nat) (x23 : Int32) (x25 : Int32) (hpre_0 : 0 ≤ (κ.1 1).toInt) (hpre_1 : (κ.1 1).toInt ≤ 5) (hr1_1_0 : (0 ≤ k0.toInt ∧ k0.toInt < (κ.1 1).toInt) → on1 (some b2) = 1) (hr1_1_1 : ¬ (0 ≤ k0.toInt ∧ k0.toInt < (κ.1 1).toInt) → on1 (some b2) = 0) (hr1_1_2 : (0 ≤ k0.toInt ∧ k0.toInt < (κ.1 1).toInt) → (some b2) = (κ.2.2.2.1 7) k0.toNatClampNeg) (c16 : (κ.1 1).toInt < 5) (ex23 : x23 = (κ.1 1) + (1 : Int32)) (tx23 : x23.toInt = (κ.1 1).toInt + 1) (ex25 : x25 = x23 - (1 : Int32)) : x25.toInt = x23.toInt - 1 := by
  have q1 : (1 : Int32).toInt = 1 := by decide +kernel
  have zo0 : on1 (some b2) = 1 := rfl
  have w1 : (1 : Int32).toInt = 1 := by decide +kernel
  rw [ex25, z_sub (by omega) (by omega)]; first | done | omega
-- post @84
theorem vX11_type_19 (κ : KS) (k0 : Int32) (b2 : Nat) (x23 : Int32) (x25 : Int32) (hpre_0 : 0 ≤ (κ.1 1).toInt) (hpre_1 : (κ.1 1).toInt ≤ 5) (hr1_1_0 : (0 ≤ k0.toInt ∧ k0.toInt < (κ.1 1).toInt) → on1 (some b2) = 1) (hr1_1_1 : ¬ (0 ≤ k0.toInt ∧ k0.toInt < (κ.1 1).toInt) → on1 (some b2) = 0) (hr1_1_2 : (0 ≤ k0.toInt ∧ k0.toInt < (κ.1 1).toInt) → (some b2) = (κ.2.2.2.1 7) k0.toNatClampNeg) (c16 : (κ.1 1).toInt < 5) (ex23 : x23 = (κ.1 1) + (1 : Int32)) (tx23 : x23.toInt = (κ.1 1).toInt + 1) (ex25 : x25 = x23 - (1 : Int32)) (tx25 : x25.toInt = x23.toInt - 1) : (x25.toInt = (κ.1 1).toInt ∧ x23.toInt = (κ.1 1).toInt + 1 ∧ (κ.1 1).toInt < 5 ∧ (k0.toInt = -1 ∨ (0 ≤ k0.toInt ∧ k0.toInt < (κ.1 1).toInt))) := by
  have q1 : (1 : Int32).toInt = 1 := by decide +kernel
  have zo0 : on1 (some b2) = 1 := rfl
  refine ⟨?_, ?_, ?_, ?_⟩ <;> first | assumption | omega | (subst_vars; omega) | trivial
-- thrown @37
theorem vX11_type_20 (κ : KS) (k0 : Int32) (b2 : Nat) (hpre_0 : 0 ≤ (κ.1 1).toInt) (hpre_1 : (κ.1 1).toInt ≤ 5) (hr1_1_0 : (0 ≤ k0.toInt ∧ k0.toInt < (κ.1 1).toInt) → on1 (some b2) = 1) (hr1_1_1 : ¬ (0 ≤ k0.toInt ∧ k0.toInt < (κ.1 1).toInt) → on1 (some b2) = 0) (hr1_1_2 : (0 ≤ k0.toInt ∧ k0.toInt < (κ.1 1).toInt) → (some b2) = (κ.2.2.2.1 7) k0.toNatClampNeg) (c16 : 5 ≤ (κ.1 1).toInt) : (k0.toInt = -1 ∨ (0 ≤ k0.toInt ∧ k0.toInt < (κ.1 1).toInt)) ∧ 5 ≤ (κ.1 1).toInt := by
  have zo0 : on1 (some b2) = 1 := rfl
  refine ⟨?_, ?_⟩ <;> first | assumption | omega | (subst_vars; omega) | trivial
-- xpost @37
theorem vX11_type_21 (κ : KS) (k0 : Int32) (b2 : Nat) (hpre_0 : 0 ≤ (κ.1 1).toInt) (hpre_1 : (κ.1 1).toInt ≤ 5) (hr1_1_0 : (0 ≤ k0.toInt ∧ k0.toInt < (κ.1 1).toInt) → on1 (some b2) = 1) (hr1_1_1 : ¬ (0 ≤ k0.toInt ∧ k0.toInt < (κ.1 1).toInt) → on1 (some b2) = 0) (hr1_1_2 : (0 ≤ k0.toInt ∧ k0.toInt < (κ.1 1).toInt) → (some b2) = (κ.2.2.2.1 7) k0.toNatClampNeg) (c16 : 5 ≤ (κ.1 1).toInt) : (κ.1 1).toInt = (κ.1 1).toInt ∧ (κ.2.2.2.1 7) = (κ.2.2.2.1 7) := by
  have zo0 : on1 (some b2) = 1 := rfl
  refine ⟨?_, ?_⟩ <;> first | assumption | omega | (subst_vars; omega) | trivial
set_option maxHeartbeats 4000000 in
set_option maxRecDepth 100000 in
theorem NX11_type (l : Launch) (D : va_G) (cy : Nat → ClassId) (ad : Nat → Nat) (A : Nat → Prop) (sz0 : Nat) (sa : Nat → Nat) (hfl : l.stackTraces = false) (κ : KS) (sz sl : Nat) (hAF : ∀ q, A q → Fr sz0 q) (hAn : ∀ q : Nat, sz ≤ q → A q) (k0 : Int32) (hPV : PV sa κ.2.2.2.2) (hSV : SV ad κ.2.2.2.2 (κ.2.1 0) (κ.2.1 1) (κ.2.2.2.1 6) (κ.2.2.2.1 7) (κ.2.2.2.1 8) (κ.2.2.2.1 13) (κ.2.2.2.1 15) (κ.2.2.2.1 17) (κ.1 1).toInt) (hpre : 0 ≤ (κ.1 1).toInt ∧ (κ.1 1).toInt ≤ 5) : vx_Met l yX11_type (Cond.code yX11_type cX11_type 3 (some .int) :: GWc) ({ frames := 6, cells := 3, slots := 19, locals := 90 }) (PcC D cy ad A sz0 sa [.ref (ad 0), .int k0] κ sz sl) (va_Qi (fun (r : Int32) (u : PL × (Nat → Option Nat) × Int32) => (EX κ.2.2.2.2 u.1) ∧ (PV sa u.1) ∧ (SV ad u.1 (κ.2.1 0) (κ.2.1 1) (κ.2.2.2.1 6) u.2.1 (κ.2.2.2.1 8) (κ.2.2.2.1 13) (κ.2.2.2.1 15) (κ.2.2.2.1 17) u.2.2.toInt) ∧ ((r.toInt = (κ.1 1).toInt ∧ u.2.2.toInt = (κ.1 1).toInt + 1 ∧ (κ.1 1).toInt < 5 ∧ (k0.toInt = -1 ∨ (0 ≤ k0.toInt ∧ k0.toInt < (κ.1 1).toInt))) ∧ (∃ a, u.2.1 = va_up (κ.2.2.2.1 7) (κ.1 1).toNatClampNeg (some a) ∧ oT κ.2.2.2.2 a = 0 ∧ oT u.1 a = 3 ∧ oI u.1 8 a = 0 ∧ oI u.1 9 a = 0 ∧ ∃ b, oR u.1 7 a = some b ∧ oT κ.2.2.2.2 b = 0 ∧ oT u.1 b = 10))) (fun (u : PL × (Nat → Option Nat) × Int32) (t : State) => Bx D cy ad A sz sl (tI (tQ (tP κ u.1) 7 u.2.1) 1 u.2.2) (3) (19) t) A) (TX D cy ad A (fun (E : String) (u : PL × (Nat → Option Nat) × Int32) => (EX κ.2.2.2.2 u.1) ∧ (PV sa u.1) ∧ (SV ad u.1 (κ.2.1 0) (κ.2.1 1) (κ.2.2.2.1 6) u.2.1 (κ.2.2.2.1 8) (κ.2.2.2.1 13) (κ.2.2.2.1 15) (κ.2.2.2.1 17) u.2.2.toInt) ∧ ((E = tIAE ∧ (¬ k0.toInt = -1 ∧ ¬ (0 ≤ k0.toInt ∧ k0.toInt < (κ.1 1).toInt))) ∨ (E = tISE ∧ ((k0.toInt = -1 ∨ (0 ≤ k0.toInt ∧ k0.toInt < (κ.1 1).toInt)) ∧ 5 ≤ (κ.1 1).toInt))) ∧ (u.2.2.toInt = (κ.1 1).toInt ∧ u.2.1 = (κ.2.2.2.1 7))) (fun (u : PL × (Nat → Option Nat) × Int32) => (tI (tQ (tP κ u.1) 7 u.2.1) 1 u.2.2))) (3) (19) A := by
  refine CM_ofX (loc0 := [(0, .ref (ad 0)), (1, .int k0)]) (own := RX11) (nm := "type") (by decide) rfl rfl rfl (Nat.le_of_ble_eq_true rfl) hAF hAn ?_
  intro p e s m below meth c ls hsz hsl hout C hP hS hl
  obtain ⟨hpre_0, hpre_1⟩ := hpre
  refine lv_aload_n C.x C.b dX11_type_0 rfl (lv_at hl 0 rfl) ?_
  refine lv_iload_n C.x C.b dX11_type_1 rfl (lv_at hl 1 rfl) ?_
  refine c_callVq (n := 1) (As := [.int k0]) (rest := []) C hP hS hl.1 (NX11_familyAt l D cy ad A sz0 sa κ s.heap.size (SLT s.heap) C.f (fun q h => C.a q (Nat.le_trans hS.1 h)) k0 hPV hSV (vX11_type_1 κ hpre_0 hpre_1)) ⟨cw_907, cw_911, by decide +kernel⟩ ⟨cw_908, cw_909, cw_910⟩ rfl (hP.recvS (k := 0) (ci := 13) C.K rfl rfl) rfl rfl (lv_room (Nat.le_of_ble_eq_true rfl)) ⟨Nat.le_of_ble_eq_true rfl, Nat.le_of_ble_eq_true rfl⟩ ⟨(Nat.le_of_ble_eq_true rfl), (Nat.le_of_ble_eq_true rfl)⟩ dX11_type_2 (fun r1 u H locs hr1 hP hS => ?_)
  have hr1 : (NT κ.2.2.2.2 3 r1) ∧ (((0 ≤ k0.toInt ∧ k0.toInt < (κ.1 1).toInt) → on1 r1 = 1) ∧ (¬ (0 ≤ k0.toInt ∧ k0.toInt < (κ.1 1).toInt) → on1 r1 = 0) ∧ ((0 ≤ k0.toInt ∧ k0.toInt < (κ.1 1).toInt) → r1 = (κ.2.2.2.1 7) k0.toNatClampNeg)) := hr1
  obtain ⟨hr1_0, hr1_1⟩ := hr1
  obtain ⟨hr1_1_0, hr1_1_1, hr1_1_2⟩ := hr1_1
  refine lq_astore_n (lv' := [(2, va_rf r1), (0, .ref (ad 0)), (1, .int k0)]) C.x C.b dX11_type_5 rfl hl (by decide) (by cases r1 <;> rfl) (fun ls hl => ?_)
  refine lq_aload_n C.x C.b dX11_type_6 rfl (lv_at hl 0 rfl) ?_
  cases r1 with
  | none =>
    refine lv_ifnonnullN C.x C.b dX11_type_7 ?_
    refine lv_iload_n C.x C.b dX11_type_10 rfl (lv_at hl 2 rfl) ?_
    refine lv_iconst (v := (-1)) C.x C.b dX11_type_11 (by decide +kernel) ?_
    refine lv_icmp_eq (tgt := 25) C.x C.b dX11_type_12 (by decide) (fun c3 => ?_) (fun c3 => ?_)
    · have c3 : k0.toInt = (-1) := by have h := z_eq c3; rw [show ((-1) : Int32).toInt = -1 from by decide +kernel] at h; exact h
      refine lv_aload_n C.x C.b dX11_type_25 rfl (lv_at hl 1 rfl) ?_
      refine cg_X11_5 (v := (κ.1 1)) C hP rfl cw_905 dX11_type_26 ?_
      refine lv_aload_n C.x C.b dX11_type_29 rfl (lv_at hl 1 rfl) ?_
      refine cg_X11_4 C hP cw_878 dX11_type_30 ?_
      refine cl_7 C hP dX11_type_33 ?_
      refine lv_icmp_lt (tgt := 47) C.x C.b dX11_type_34 (by decide) (fun c5 => ?_) (fun c5 => ?_)
      · have c5 : (κ.1 1).toInt < 5 := by have h := z_lt c5; rw [show (5 : Int32).toInt = 5 from by decide +kernel] at h; exact h
        refine lv_aload_n C.x C.b dX11_type_47 rfl (lv_at hl 1 rfl) ?_
        refine cg_X11_4 C hP cw_878 dX11_type_48 ?_
        refine lv_aload_n C.x C.b dX11_type_51 rfl (lv_at hl 1 rfl) ?_
        refine cg_X11_5 (v := (κ.1 1)) C hP rfl cw_905 dX11_type_52 ?_
        refine cn_X1 C hP hS cw_877 cw_906 cw_405 ⟨(Nat.le_of_ble_eq_true rfl), (Nat.le_of_ble_eq_true rfl)⟩ dX11_type_55 (fun q6 H h0q6 hP hS => ?_)
        have exz7 : EX κ.2.2.2.2 (newP κ.2.2.2.2 q6 23) := (EX.newP h0q6)
        have pvz7 : PV sa (newP κ.2.2.2.2 q6 23) := (hPV.raw h0q6 (by decide))
        have svz7 : SV ad (newP κ.2.2.2.2 q6 23) (κ.2.1 0) (κ.2.1 1) (κ.2.2.2.1 6) (κ.2.2.2.1 7) (κ.2.2.2.1 8) (κ.2.2.2.1 13) (κ.2.2.2.1 15) (κ.2.2.2.1 17) (κ.1 1).toInt := hSV.ex exz7
        refine lv_dup C.x C.b dX11_type_58 rfl ?_
        refine lv_aload_n C.x C.b dX11_type_59 rfl (lv_at hl 1 rfl) ?_
        refine cg_X11_5 (v := (κ.1 1)) C hP rfl cw_905 dX11_type_60 ?_
        refine lv_aload_nN C.x C.b dX11_type_63 rfl (lv_at hl 0 rfl) ?_
        refine c_callIv (C2 := "") (n := 2) (As := [.int (κ.1 1), .null]) (rest := [.ref q6, .int (κ.1 1), .ref (ad 7)]) C hP hS hl.1 (NX1_init l D cy ad A sz0 sa (tP κ (newP κ.2.2.2.2 q6 23)) H.size (SLT H) C.f (fun q h => C.a q (Nat.le_trans hS.1 h)) q6 (κ.1 1) none (by show oT (newP κ.2.2.2.2 q6 23) q6 = 23; rw [newP_T, if_pos rfl]) nt_n pvz7 (vX11_type_2 κ q6 )) ⟨cw_912, cw_376, by decide +kernel⟩ ⟨cw_913, cw_405⟩ rfl rfl rfl (lv_room (Nat.le_of_ble_eq_true rfl)) ⟨Nat.le_of_ble_eq_true rfl, Nat.le_of_ble_eq_true rfl⟩ ⟨(Nat.le_of_ble_eq_true rfl), (Nat.le_of_ble_eq_true rfl)⟩ dX11_type_64 (fun u H locs hr8 hP hS => ?_)
        obtain ⟨P9, rfl⟩ : ∃ z, z = u := ⟨_, rfl⟩
        have hP : CH D cy ad A (tP (tP κ (newP κ.2.2.2.2 q6 23)) P9) H := hP
        have hr8 : (EXP (fun a => ¬ a = q6) (newP κ.2.2.2.2 q6 23) P9) ∧ (PV sa P9) ∧ (oT P9 q6 = 3) ∧ (oI P9 8 q6 = 0 ∧ oI P9 9 q6 = 0 ∧ (∃ b, oR P9 7 q6 = some b ∧ oT (newP κ.2.2.2.2 q6 23) b = 0 ∧ oT P9 b = 10)) := hr8
        obtain ⟨hr8_0, hr8_1, hr8_2, hr8_3⟩ := hr8
        have exz10 : EX κ.2.2.2.2 P9 := EX.cons exz7 h0q6 hr8_0
        have svz10 : SV ad P9 (κ.2.1 0) (κ.2.1 1) (κ.2.2.2.1 6) (κ.2.2.2.1 7) (κ.2.2.2.1 8) (κ.2.2.2.1 13) (κ.2.2.2.1 15) (κ.2.2.2.1 17) (κ.1 1).toInt := hSV.ex exz10
        obtain ⟨hr8_3_0, hr8_3_1, hr8_3_2⟩ := hr8_3
        refine cw_st7 (f := (κ.2.2.2.1 7)) C hP hS rfl (t20 (a := q6) (t := 3) hr8_2) (vX11_type_3 κ k0 hpre_0 hpre_1 hr1_1_0 hr1_1_1 hr1_1_2 c3 c5) dX11_type_67 (fun H locs hP hS => ?_)
        have svz11 : SV ad P9 (κ.2.1 0) (κ.2.1 1) (κ.2.2.2.1 6) (va_up (κ.2.2.2.1 7) (κ.1 1).toNatClampNeg (some q6)) (κ.2.2.2.1 8) (κ.2.2.2.1 13) (κ.2.2.2.1 15) (κ.2.2.2.1 17) (κ.1 1).toInt := svz10.s7 hr8_2 (vX11_type_4 κ k0 hpre_0 hpre_1 hr1_1_0 hr1_1_1 hr1_1_2 c3 c5) (by omega)
        refine lv_aload_n C.x C.b dX11_type_68 rfl (lv_at hl 1 rfl) ?_
        refine lv_dup C.x C.b dX11_type_69 rfl ?_
        refine cg_X11_5 (v := (κ.1 1)) C hP rfl cw_905 dX11_type_70 ?_
        refine lv_iconst (v := 1) C.x C.b dX11_type_73 (by decide +kernel) ?_
        refine lv_iadd C.x C.b dX11_type_74 ?_
        refine lv_topi (fun x12 ex12 => ?_)
        have tx12 : x12.toInt = (κ.1 1).toInt + 1 := (vX11_type_5 κ k0 x12 hpre_0 hpre_1 hr1_1_0 hr1_1_1 hr1_1_2 c3 c5 ex12)
        refine cp_X11_5 (v := x12) C hP hS cw_905 dX11_type_75 (fun H locs hP hS => ?_)
        have svz13 : SV ad P9 (κ.2.1 0) (κ.2.1 1) (κ.2.2.2.1 6) (va_up (κ.2.2.2.1 7) (κ.1 1).toNatClampNeg (some q6)) (κ.2.2.2.1 8) (κ.2.2.2.1 13) (κ.2.2.2.1 15) (κ.2.2.2.1 17) x12.toInt := svz10.s7 hr8_2 (vX11_type_4 κ k0 hpre_0 hpre_1 hr1_1_0 hr1_1_1 hr1_1_2 c3 c5) (vX11_type_6 κ k0 x12 hpre_0 hpre_1 hr1_1_0 hr1_1_1 hr1_1_2 c3 c5 ex12 tx12)
        refine lv_aload_n C.x C.b dX11_type_78 rfl (lv_at hl 1 rfl) ?_
        refine cg_X11_5 (v := x12) C hP rfl cw_905 dX11_type_79 ?_
        refine lv_iconst (v := 1) C.x C.b dX11_type_82 (by decide +kernel) ?_
        refine lv_isub C.x C.b dX11_type_83 ?_
        refine lv_topi (fun x14 ex14 => ?_)
        have tx14 : x14.toInt = x12.toInt - 1 := (vX11_type_7 κ k0 x12 x14 hpre_0 hpre_1 hr1_1_0 hr1_1_1 hr1_1_2 c3 c5 ex12 tx12 ex14)
        have hP : CH D cy ad A (tI (tQ (tP κ P9) 7 (va_up (κ.2.2.2.1 7) (κ.1 1).toNatClampNeg (some q6))) 1 x12) H := CH.cong hP rfl rfl rfl rfl rfl rfl rfl rfl rfl rfl rfl rfl rfl rfl rfl rfl rfl rfl rfl rfl rfl rfl rfl rfl rfl rfl rfl
        refine vx_ret ?_
        exact c_reti C hsz hsl ⟨P9, (va_up (κ.2.2.2.1 7) (κ.1 1).toNatClampNeg (some q6)), x12⟩ ⟨exz10, hr8_1, svz13, ⟨(vX11_type_8 κ k0 x12 x14 hpre_0 hpre_1 hr1_1_0 hr1_1_1 hr1_1_2 c3 c5 ex12 tx12 ex14 tx14), q6, rfl, h0q6, hr8_2, hr8_3_0, hr8_3_1, (by obtain ⟨b, z1, z2, z3⟩ := hr8_3_2; exact ⟨b, z1, newP_o z2 (by decide), z3⟩)⟩⟩ hP hS ⟨(Nat.le_of_ble_eq_true rfl), (Nat.le_of_ble_eq_true rfl)⟩ ⟨(Nat.le_of_ble_eq_true rfl), (Nat.le_of_ble_eq_true rfl)⟩ dX11_type_84
      · have c5 : 5 ≤ (κ.1 1).toInt := by have h := z_nlt c5; rw [show (5 : Int32).toInt = 5 from by decide +kernel] at h; exact h
        have hP : CH D cy ad A (tI (tQ (tP κ κ.2.2.2.2) 7 (κ.2.2.2.1 7)) 1 (κ.1 1)) H := CH.cong hP rfl rfl rfl rfl rfl rfl rfl rfl rfl rfl rfl rfl rfl rfl rfl rfl rfl rfl rfl rfl rfl rfl rfl rfl rfl rfl rfl
        exact c_ise C hfl hout ⟨κ.2.2.2.2, (κ.2.2.2.1 7), (κ.1 1)⟩ ⟨EX.rf, hPV, hSV, (Or.inr ⟨rfl, (vX11_type_9 κ k0 hpre_0 hpre_1 hr1_1_0 hr1_1_1 hr1_1_2 c3 c5)⟩), (vX11_type_10 κ k0 hpre_0 hpre_1 hr1_1_0 hr1_1_1 hr1_1_2 c3 c5)⟩ hP hS hl.1 cw_890 cw_891 (is := 99) (text := "there are 5 classes") (by decide +kernel) dX11_type_37 dX11_type_40 dX11_type_41 dX11_type_43 dX11_type_46 (Nat.le_of_ble_eq_true rfl) (Nat.le_of_ble_eq_true rfl) ⟨(Nat.le_of_ble_eq_true rfl), (Nat.le_of_ble_eq_true rfl)⟩ ⟨(Nat.le_of_ble_eq_true rfl), (Nat.le_of_ble_eq_true rfl)⟩
    · have c3 : ¬ k0.toInt = (-1) := by have h := z_ne c3; rw [show ((-1) : Int32).toInt = -1 from by decide +kernel] at h; exact h
      have hP : CH D cy ad A (tI (tQ (tP κ κ.2.2.2.2) 7 (κ.2.2.2.1 7)) 1 (κ.1 1)) H := CH.cong hP rfl rfl rfl rfl rfl rfl rfl rfl rfl rfl rfl rfl rfl rfl rfl rfl rfl rfl rfl rfl rfl rfl rfl rfl rfl rfl rfl
      exact c_iae C hfl hout ⟨κ.2.2.2.2, (κ.2.2.2.1 7), (κ.1 1)⟩ ⟨EX.rf, hPV, hSV, (Or.inl ⟨rfl, (vX11_type_11 κ k0 hpre_0 hpre_1 hr1_1_0 hr1_1_1 hr1_1_2 c3)⟩), (vX11_type_12 κ k0 hpre_0 hpre_1 hr1_1_0 hr1_1_1 hr1_1_2 c3)⟩ hP hS hl.1 cw_888 cw_889 (is := 94) (text := "the parent is no class") (by decide +kernel) dX11_type_15 dX11_type_18 dX11_type_19 dX11_type_21 dX11_type_24 (Nat.le_of_ble_eq_true rfl) (Nat.le_of_ble_eq_true rfl) ⟨(Nat.le_of_ble_eq_true rfl), (Nat.le_of_ble_eq_true rfl)⟩ ⟨(Nat.le_of_ble_eq_true rfl), (Nat.le_of_ble_eq_true rfl)⟩
  | some b2 =>
    have hb2 : oT κ.2.2.2.2 b2 = 3 := hr1_0 b2 rfl
    refine lv_ifnonnull (tgt := 25) C.x C.b dX11_type_7 (by decide) ?_
    refine lv_aload_n C.x C.b dX11_type_25 rfl (lv_at hl 1 rfl) ?_
    refine cg_X11_5 (v := (κ.1 1)) C hP rfl cw_905 dX11_type_26 ?_
    refine lv_aload_n C.x C.b dX11_type_29 rfl (lv_at hl 1 rfl) ?_
    refine cg_X11_4 C hP cw_878 dX11_type_30 ?_
    refine cl_7 C hP dX11_type_33 ?_
    refine lv_icmp_lt (tgt := 47) C.x C.b dX11_type_34 (by decide) (fun c16 => ?_) (fun c16 => ?_)
    · have c16 : (κ.1 1).toInt < 5 := by have h := z_lt c16; rw [show (5 : Int32).toInt = 5 from by decide +kernel] at h; exact h
      refine lv_aload_n C.x C.b dX11_type_47 rfl (lv_at hl 1 rfl) ?_
      refine cg_X11_4 C hP cw_878 dX11_type_48 ?_
      refine lv_aload_n C.x C.b dX11_type_51 rfl (lv_at hl 1 rfl) ?_
      refine cg_X11_5 (v := (κ.1 1)) C hP rfl cw_905 dX11_type_52 ?_
      refine cn_X1 C hP hS cw_877 cw_906 cw_405 ⟨(Nat.le_of_ble_eq_true rfl), (Nat.le_of_ble_eq_true rfl)⟩ dX11_type_55 (fun q17 H h0q17 hP hS => ?_)
      have exz18 : EX κ.2.2.2.2 (newP κ.2.2.2.2 q17 23) := (EX.newP h0q17)
      have pvz18 : PV sa (newP κ.2.2.2.2 q17 23) := (hPV.raw h0q17 (by decide))
      have svz18 : SV ad (newP κ.2.2.2.2 q17 23) (κ.2.1 0) (κ.2.1 1) (κ.2.2.2.1 6) (κ.2.2.2.1 7) (κ.2.2.2.1 8) (κ.2.2.2.1 13) (κ.2.2.2.1 15) (κ.2.2.2.1 17) (κ.1 1).toInt := hSV.ex exz18
      refine lv_dup C.x C.b dX11_type_58 rfl ?_
      refine lv_aload_n C.x C.b dX11_type_59 rfl (lv_at hl 1 rfl) ?_
      refine cg_X11_5 (v := (κ.1 1)) C hP rfl cw_905 dX11_type_60 ?_
      refine lv_aload_n C.x C.b dX11_type_63 rfl (lv_at hl 0 rfl) ?_
      refine c_callIv (C2 := "") (n := 2) (As := [.int (κ.1 1), .ref b2]) (rest := [.ref q17, .int (κ.1 1), .ref (ad 7)]) C hP hS hl.1 (NX1_init l D cy ad A sz0 sa (tP κ (newP κ.2.2.2.2 q17 23)) H.size (SLT H) C.f (fun q h => C.a q (Nat.le_trans hS.1 h)) q17 (κ.1 1) (some b2) (by show oT (newP κ.2.2.2.2 q17 23) q17 = 23; rw [newP_T, if_pos rfl]) (nt_s (exz18.T hb2 (by decide))) pvz18 (vX11_type_13 κ q17 )) ⟨cw_912, cw_376, by decide +kernel⟩ ⟨cw_913, cw_405⟩ rfl rfl rfl (lv_room (Nat.le_of_ble_eq_true rfl)) ⟨Nat.le_of_ble_eq_true rfl, Nat.le_of_ble_eq_true rfl⟩ ⟨(Nat.le_of_ble_eq_true rfl), (Nat.le_of_ble_eq_true rfl)⟩ dX11_type_64 (fun u H locs hr19 hP hS => ?_)
      obtain ⟨P20, rfl⟩ : ∃ z, z = u := ⟨_, rfl⟩
      have hP : CH D cy ad A (tP (tP κ (newP κ.2.2.2.2 q17 23)) P20) H := hP
      have hr19 : (EXP (fun a => ¬ a = q17) (newP κ.2.2.2.2 q17 23) P20) ∧ (PV sa P20) ∧ (oT P20 q17 = 3) ∧ (oI P20 8 q17 = 0 ∧ oI P20 9 q17 = 0 ∧ (∃ b, oR P20 7 q17 = some b ∧ oT (newP κ.2.2.2.2 q17 23) b = 0 ∧ oT P20 b = 10)) := hr19
      obtain ⟨hr19_0, hr19_1, hr19_2, hr19_3⟩ := hr19
      have exz21 : EX κ.2.2.2.2 P20 := EX.cons exz18 h0q17 hr19_0
      have svz21 : SV ad P20 (κ.2.1 0) (κ.2.1 1) (κ.2.2.2.1 6) (κ.2.2.2.1 7) (κ.2.2.2.1 8) (κ.2.2.2.1 13) (κ.2.2.2.1 15) (κ.2.2.2.1 17) (κ.1 1).toInt := hSV.ex exz21
      obtain ⟨hr19_3_0, hr19_3_1, hr19_3_2⟩ := hr19_3
      refine cw_st7 (f := (κ.2.2.2.1 7)) C hP hS rfl (t20 (a := q17) (t := 3) hr19_2) (vX11_type_14 κ k0 b2 hpre_0 hpre_1 hr1_1_0 hr1_1_1 hr1_1_2 c16) dX11_type_67 (fun H locs hP hS => ?_)
      have svz22 : SV ad P20 (κ.2.1 0) (κ.2.1 1) (κ.2.2.2.1 6) (va_up (κ.2.2.2.1 7) (κ.1 1).toNatClampNeg (some q17)) (κ.2.2.2.1 8) (κ.2.2.2.1 13) (κ.2.2.2.1 15) (κ.2.2.2.1 17) (κ.1 1).toInt := svz21.s7 hr19_2 (vX11_type_15 κ k0 b2 hpre_0 hpre_1 hr1_1_0 hr1_1_1 hr1_1_2 c16) (by omega)
      refine lv_aload_n C.x C.b dX11_type_68 rfl (lv_at hl 1 rfl) ?_
      refine lv_dup C.x C.b dX11_type_69 rfl ?_
      refine cg_X11_5 (v := (κ.1 1)) C hP rfl cw_905 dX11_type_70 ?_
      refine lv_iconst (v := 1) C.x C.b dX11_type_73 (by decide +kernel) ?_
      refine lv_iadd C.x C.b dX11_type_74 ?_
      refine lv_topi (fun x23 ex23 => ?_)
      have tx23 : x23.toInt = (κ.1 1).toInt + 1 := (vX11_type_16 κ k0 b2 x23 hpre_0 hpre_1 hr1_1_0 hr1_1_1 hr1_1_2 c16 ex23)
      refine cp_X11_5 (v := x23) C hP hS cw_905 dX11_type_75 (fun H locs hP hS => ?_)
      have svz24 : SV ad P20 (κ.2.1 0) (κ.2.1 1) (κ.2.2.2.1 6) (va_up (κ.2.2.2.1 7) (κ.1 1).toNatClampNeg (some q17)) (κ.2.2.2.1 8) (κ.2.2.2.1 13) (κ.2.2.2.1 15) (κ.2.2.2.1 17) x23.toInt := svz21.s7 hr19_2 (vX11_type_15 κ k0 b2 hpre_0 hpre_1 hr1_1_0 hr1_1_1 hr1_1_2 c16) (vX11_type_17 κ k0 b2 x23 hpre_0 hpre_1 hr1_1_0 hr1_1_1 hr1_1_2 c16 ex23 tx23)
      refine lv_aload_n C.x C.b dX11_type_78 rfl (lv_at hl 1 rfl) ?_
      refine cg_X11_5 (v := x23) C hP rfl cw_905 dX11_type_79 ?_
      refine lv_iconst (v := 1) C.x C.b dX11_type_82 (by decide +kernel) ?_
      refine lv_isub C.x C.b dX11_type_83 ?_
      refine lv_topi (fun x25 ex25 => ?_)
      have tx25 : x25.toInt = x23.toInt - 1 := (vX11_type_18 κ k0 b2 x23 x25 hpre_0 hpre_1 hr1_1_0 hr1_1_1 hr1_1_2 c16 ex23 tx23 ex25)
      have hP : CH D cy ad A (tI (tQ (tP κ P20) 7 (va_up (κ.2.2.2.1 7) (κ.1 1).toNatClampNeg (some q17))) 1 x23) H := CH.cong hP rfl rfl rfl rfl rfl rfl rfl rfl rfl rfl rfl rfl rfl rfl rfl rfl rfl rfl rfl rfl rfl rfl rfl rfl rfl rfl rfl
      refine vx_ret ?_
      exact c_reti C hsz hsl ⟨P20, (va_up (κ.2.2.2.1 7) (κ.1 1).toNatClampNeg (some q17)), x23⟩ ⟨exz21, hr19_1, svz24, ⟨(vX11_type_19 κ k0 b2 x23 x25 hpre_0 hpre_1 hr1_1_0 hr1_1_1 hr1_1_2 c16 ex23 tx23 ex25 tx25), q17, rfl, h0q17, hr19_2, hr19_3_0, hr19_3_1, (by obtain ⟨b, z1, z2, z3⟩ := hr19_3_2; exact ⟨b, z1, newP_o z2 (by decide), z3⟩)⟩⟩ hP hS ⟨(Nat.le_of_ble_eq_true rfl), (Nat.le_of_ble_eq_true rfl)⟩ ⟨(Nat.le_of_ble_eq_true rfl), (Nat.le_of_ble_eq_true rfl)⟩ dX11_type_84
    · have c16 : 5 ≤ (κ.1 1).toInt := by have h := z_nlt c16; rw [show (5 : Int32).toInt = 5 from by decide +kernel] at h; exact h
      have hP : CH D cy ad A (tI (tQ (tP κ κ.2.2.2.2) 7 (κ.2.2.2.1 7)) 1 (κ.1 1)) H := CH.cong hP rfl rfl rfl rfl rfl rfl rfl rfl rfl rfl rfl rfl rfl rfl rfl rfl rfl rfl rfl rfl rfl rfl rfl rfl rfl rfl rfl
      exact c_ise C hfl hout ⟨κ.2.2.2.2, (κ.2.2.2.1 7), (κ.1 1)⟩ ⟨EX.rf, hPV, hSV, (Or.inr ⟨rfl, (vX11_type_20 κ k0 b2 hpre_0 hpre_1 hr1_1_0 hr1_1_1 hr1_1_2 c16)⟩), (vX11_type_21 κ k0 b2 hpre_0 hpre_1 hr1_1_0 hr1_1_1 hr1_1_2 c16)⟩ hP hS hl.1 cw_890 cw_891 (is := 99) (text := "there are 5 classes") (by decide +kernel) dX11_type_37 dX11_type_40 dX11_type_41 dX11_type_43 dX11_type_46 (Nat.le_of_ble_eq_true rfl) (Nat.le_of_ble_eq_true rfl) ⟨(Nat.le_of_ble_eq_true rfl), (Nat.le_of_ble_eq_true rfl)⟩ ⟨(Nat.le_of_ble_eq_true rfl), (Nat.le_of_ble_eq_true rfl)⟩
