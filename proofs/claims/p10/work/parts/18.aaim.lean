-- nw@5 @5
theorem v_aim_1 (σ : RS) (x1 : Int32) (hpre_6 : 1 ≤ (σ.1 55).toInt) (hpre_7 : (σ.1 55).toInt ≤ 60) (ex1 : x1 = (σ.1 55) - (1 : Int32)) : x1.toInt = (σ.1 55).toInt - 1 := by
  have q1 : (1 : Int32).toInt = 1 := by decide +kernel
  have w1 : (1 : Int32).toInt = 1 := by decide +kernel
  rw [ex1, z_sub (by omega) (by omega)]; first | done | omega
-- in@13 @13
theorem v_aim_2 (σ : RS) (x1 : Int32) (hpre_6 : 1 ≤ (σ.1 55).toInt) (hpre_7 : (σ.1 55).toInt ≤ 60) (ex1 : x1 = (σ.1 55) - (1 : Int32)) (tx1 : x1.toInt = (σ.1 55).toInt - 1) : vp_in x1 980 := by
  have q1 : (1 : Int32).toInt = 1 := by decide +kernel
  exact vp_in_iff.mpr ⟨by omega, by omega⟩
-- pre:fieldOf@24 @24
theorem v_aim_3 (σ : RS) (x1 : Int32) (x2 : Int32) (hpre_0 : 0 ≤ (σ.1 35).toInt) (hpre_1 : (σ.1 35).toInt ≤ 5) (hpre_2 : CLS (σ.1 35).toInt (σ.2.1 36) (σ.2.1 37) (σ.2.1 40)) (hpre_3 : OBS (σ.1 47).toInt (σ.1 35).toInt (σ.2.1 48)) (hpre_4 : 0 ≤ (σ.1 47).toInt) (hpre_5 : (σ.1 47).toInt ≤ 30) (hpre_6 : 1 ≤ (σ.1 55).toInt) (hpre_7 : (σ.1 55).toInt ≤ 60) (hpre_8 : VALS (σ.2.1 51) (σ.2.2.1 52) (σ.1 35).toInt (σ.1 47).toInt) (ex1 : x1 = (σ.1 55) - (1 : Int32)) (tx1 : x1.toInt = (σ.1 55).toInt - 1) (ex2 : x2 = (σ.2.1 51) x1.toNatClampNeg) (tx2 : x2.toInt = ((σ.2.1 51) ((σ.1 55).toInt - 1).toNat).toInt) (c3 : ¬ x2.toInt = 0) : 0 ≤ (σ.1 35).toInt ∧ (σ.1 35).toInt ≤ 5 ∧ CLS (σ.1 35).toInt (σ.2.1 36) (σ.2.1 37) (σ.2.1 40) ∧ OBS (σ.1 47).toInt (σ.1 35).toInt (σ.2.1 48) ∧ 0 ≤ (σ.1 47).toInt ∧ (σ.1 47).toInt ≤ 30 ∧ 0 ≤ x1.toInt ∧ x1.toInt < 980 ∧ CV (σ.2.1 51) (σ.2.2.1 52) (σ.1 35).toInt (σ.1 47).toInt x1.toNatClampNeg := by
  have q1 : (1 : Int32).toInt = 1 := by decide +kernel
  refine ⟨?_, ?_, ?_, ?_, ?_, ?_, ?_, ?_, ?_⟩ <;> first | assumption | omega | (subst_vars; omega) | trivial | exact hpre_8 _ (by rw [clampN]; omega)
-- post @41
theorem v_aim_4 (σ : RS) (k0 : Int32) (x1 : Int32) (x2 : Int32) (r4 : Int32) (hpre_0 : 0 ≤ (σ.1 35).toInt) (hpre_1 : (σ.1 35).toInt ≤ 5) (hpre_2 : CLS (σ.1 35).toInt (σ.2.1 36) (σ.2.1 37) (σ.2.1 40)) (hpre_3 : OBS (σ.1 47).toInt (σ.1 35).toInt (σ.2.1 48)) (hpre_4 : 0 ≤ (σ.1 47).toInt) (hpre_5 : (σ.1 47).toInt ≤ 30) (hpre_6 : 1 ≤ (σ.1 55).toInt) (hpre_7 : (σ.1 55).toInt ≤ 60) (hpre_8 : VALS (σ.2.1 51) (σ.2.2.1 52) (σ.1 35).toInt (σ.1 47).toInt) (hpre_9 : (σ.1 56).toInt = 0) (ex1 : x1 = (σ.1 55) - (1 : Int32)) (tx1 : x1.toInt = (σ.1 55).toInt - 1) (ex2 : x2 = (σ.2.1 51) x1.toNatClampNeg) (tx2 : x2.toInt = ((σ.2.1 51) ((σ.1 55).toInt - 1).toNat).toInt) (c3 : ¬ x2.toInt = 0) (hr4 : (r4.toInt = -1 ∧ ¬ FLD (σ.2.1 51) (σ.2.2.1 52) (σ.2.1 48) (σ.2.1 36) (σ.2.1 37) (σ.2.1 38) x1.toNatClampNeg k0) ∨ (80 ≤ r4.toInt ∧ r4.toInt < 980 ∧ FLD (σ.2.1 51) (σ.2.2.1 52) (σ.2.1 48) (σ.2.1 36) (σ.2.1 37) (σ.2.1 38) x1.toNatClampNeg k0)) (c5 : 0 ≤ r4.toInt) : 0 ≤ (σ.1 56).toInt ∧ (σ.1 56).toInt ≤ 11 ∧ ((σ.1 56).toInt = 0 → FLD (σ.2.1 51) (σ.2.2.1 52) (σ.2.1 48) (σ.2.1 36) (σ.2.1 37) (σ.2.1 38) ((σ.1 55).toInt - 1).toNat k0) := by
  have q1 : (1 : Int32).toInt = 1 := by decide +kernel
  refine ⟨by omega, by omega, fun h => ?_⟩
  have z : x1.toNatClampNeg = ((σ.1 55).toInt - 1).toNat := by rw [clampN, tx1]
  rw [← z]
  first | (exfalso; omega) | exact (Or.resolve_left hr4 (fun h1 => by omega)).2.2
-- post2 @41
theorem v_aim_5 (σ : RS) (k0 : Int32) (x1 : Int32) (x2 : Int32) (r4 : Int32) (hpre_0 : 0 ≤ (σ.1 35).toInt) (hpre_1 : (σ.1 35).toInt ≤ 5) (hpre_2 : CLS (σ.1 35).toInt (σ.2.1 36) (σ.2.1 37) (σ.2.1 40)) (hpre_3 : OBS (σ.1 47).toInt (σ.1 35).toInt (σ.2.1 48)) (hpre_4 : 0 ≤ (σ.1 47).toInt) (hpre_5 : (σ.1 47).toInt ≤ 30) (hpre_6 : 1 ≤ (σ.1 55).toInt) (hpre_7 : (σ.1 55).toInt ≤ 60) (hpre_8 : VALS (σ.2.1 51) (σ.2.2.1 52) (σ.1 35).toInt (σ.1 47).toInt) (hpre_9 : (σ.1 56).toInt = 0) (ex1 : x1 = (σ.1 55) - (1 : Int32)) (tx1 : x1.toInt = (σ.1 55).toInt - 1) (ex2 : x2 = (σ.2.1 51) x1.toNatClampNeg) (tx2 : x2.toInt = ((σ.2.1 51) ((σ.1 55).toInt - 1).toNat).toInt) (c3 : ¬ x2.toInt = 0) (hr4y : ∀ v9 : QV, QAT (qH (σ.2.1 36) (σ.2.1 37) (σ.2.1 38) (σ.2.1 39) (σ.2.1 40) (σ.2.1 41) (σ.2.1 42) (σ.2.1 43) (σ.2.1 44) (σ.2.1 45) (σ.2.1 46) (σ.2.1 48)) (σ.1 47).toInt ((σ.2.1 51), (σ.2.2.1 52), (σ.2.2.1 53), (σ.2.2.2)) x1.toNatClampNeg v9 → QFO (qFld (qH (σ.2.1 36) (σ.2.1 37) (σ.2.1 38) (σ.2.1 39) (σ.2.1 40) (σ.2.1 41) (σ.2.1 42) (σ.2.1 43) (σ.2.1 44) (σ.2.1 45) (σ.2.1 46) (σ.2.1 48)) v9 k0.toInt) v9.2.1 r4.toInt) (hr4 : (r4.toInt = -1 ∧ ¬ FLD (σ.2.1 51) (σ.2.2.1 52) (σ.2.1 48) (σ.2.1 36) (σ.2.1 37) (σ.2.1 38) x1.toNatClampNeg k0) ∨ (80 ≤ r4.toInt ∧ r4.toInt < 980 ∧ FLD (σ.2.1 51) (σ.2.2.1 52) (σ.2.1 48) (σ.2.1 36) (σ.2.1 37) (σ.2.1 38) x1.toNatClampNeg k0)) (c5 : 0 ≤ r4.toInt) : ∀ v9 : QV, QAT (qH (σ.2.1 36) (σ.2.1 37) (σ.2.1 38) (σ.2.1 39) (σ.2.1 40) (σ.2.1 41) (σ.2.1 42) (σ.2.1 43) (σ.2.1 44) (σ.2.1 45) (σ.2.1 46) (σ.2.1 48)) (σ.1 47).toInt ((σ.2.1 51), (σ.2.2.1 52), (σ.2.2.1 53), (σ.2.2.2)) (((σ.1 55).toInt - 1).toNat) v9 → (σ.1 56).toInt = 0 → (σ.1 56).toInt = if v9.1 = 0 then 4 else if qFld (qH (σ.2.1 36) (σ.2.1 37) (σ.2.1 38) (σ.2.1 39) (σ.2.1 40) (σ.2.1 41) (σ.2.1 42) (σ.2.1 43) (σ.2.1 44) (σ.2.1 45) (σ.2.1 46) (σ.2.1 48)) v9 k0.toInt = none then 5 else 0 := by
  have q1 : (1 : Int32).toInt = 1 := by decide +kernel
  intro v9 h9 h0
  have zx1 : x1.toNatClampNeg = ((σ.1 55).toInt - 1).toNat := by rw [clampN x1, tx1]
  try simp only [zx1] at *
  have kd := h9.kd
  have kk := h9.ok.kd
  dsimp only at kd
  have q := hr4y v9 h9
  rw [if_neg (by omega)]
  cases e : qFld (qH (σ.2.1 36) (σ.2.1 37) (σ.2.1 38) (σ.2.1 39) (σ.2.1 40) (σ.2.1 41) (σ.2.1 42) (σ.2.1 43) (σ.2.1 44) (σ.2.1 45) (σ.2.1 46) (σ.2.1 48)) v9 k0.toInt with
  | none =>
    rw [e] at q
    have q : r4.toInt = -1 := q
    rw [if_pos rfl]; omega
  | some f =>
    rw [e] at q
    have q : r4.toInt = 80 + 30 * v9.2.1 + f := q
    rw [if_neg (by intro h; cases h)]
    by_cases k8 : 8 ≤ v9.1
    · obtain ⟨o, o1, o2, o3, rfl⟩ := h9.ok.k8 k8
      have q : r4.toInt = 80 + 30 * (o : Int) + f := q
      omega
    · rw [qFld_0 (by omega)] at e; cases e
-- post @41
theorem v_aim_6 (σ : RS) (k0 : Int32) (x1 : Int32) (x2 : Int32) (r4 : Int32) (hpre_0 : 0 ≤ (σ.1 35).toInt) (hpre_1 : (σ.1 35).toInt ≤ 5) (hpre_2 : CLS (σ.1 35).toInt (σ.2.1 36) (σ.2.1 37) (σ.2.1 40)) (hpre_3 : OBS (σ.1 47).toInt (σ.1 35).toInt (σ.2.1 48)) (hpre_4 : 0 ≤ (σ.1 47).toInt) (hpre_5 : (σ.1 47).toInt ≤ 30) (hpre_6 : 1 ≤ (σ.1 55).toInt) (hpre_7 : (σ.1 55).toInt ≤ 60) (hpre_8 : VALS (σ.2.1 51) (σ.2.2.1 52) (σ.1 35).toInt (σ.1 47).toInt) (ex1 : x1 = (σ.1 55) - (1 : Int32)) (tx1 : x1.toInt = (σ.1 55).toInt - 1) (ex2 : x2 = (σ.2.1 51) x1.toNatClampNeg) (tx2 : x2.toInt = ((σ.2.1 51) ((σ.1 55).toInt - 1).toNat).toInt) (c3 : ¬ x2.toInt = 0) (hr4 : (r4.toInt = -1 ∧ ¬ FLD (σ.2.1 51) (σ.2.2.1 52) (σ.2.1 48) (σ.2.1 36) (σ.2.1 37) (σ.2.1 38) x1.toNatClampNeg k0) ∨ (80 ≤ r4.toInt ∧ r4.toInt < 980 ∧ FLD (σ.2.1 51) (σ.2.2.1 52) (σ.2.1 48) (σ.2.1 36) (σ.2.1 37) (σ.2.1 38) x1.toNatClampNeg k0)) (c5 : r4.toInt < 0) : 0 ≤ (5 : Int32).toInt ∧ (5 : Int32).toInt ≤ 11 ∧ ((5 : Int32).toInt = 0 → FLD (σ.2.1 51) (σ.2.2.1 52) (σ.2.1 48) (σ.2.1 36) (σ.2.1 37) (σ.2.1 38) ((σ.1 55).toInt - 1).toNat k0) := by
  have q1 : (1 : Int32).toInt = 1 := by decide +kernel
  have q5 : (5 : Int32).toInt = 5 := by decide +kernel
  refine ⟨by omega, by omega, fun h => ?_⟩
  have z : x1.toNatClampNeg = ((σ.1 55).toInt - 1).toNat := by rw [clampN, tx1]
  rw [← z]
  first | (exfalso; omega) | exact (Or.resolve_left hr4 (fun h1 => by omega)).2.2
-- post2 @41
theorem v_aim_7 (σ : RS) (k0 : Int32) (x1 : Int32) (x2 : Int32) (r4 : Int32) (hpre_0 : 0 ≤ (σ.1 35).toInt) (hpre_1 : (σ.1 35).toInt ≤ 5) (hpre_2 : CLS (σ.1 35).toInt (σ.2.1 36) (σ.2.1 37) (σ.2.1 40)) (hpre_3 : OBS (σ.1 47).toInt (σ.1 35).toInt (σ.2.1 48)) (hpre_4 : 0 ≤ (σ.1 47).toInt) (hpre_5 : (σ.1 47).toInt ≤ 30) (hpre_6 : 1 ≤ (σ.1 55).toInt) (hpre_7 : (σ.1 55).toInt ≤ 60) (hpre_8 : VALS (σ.2.1 51) (σ.2.2.1 52) (σ.1 35).toInt (σ.1 47).toInt) (hpre_9 : (σ.1 56).toInt = 0) (ex1 : x1 = (σ.1 55) - (1 : Int32)) (tx1 : x1.toInt = (σ.1 55).toInt - 1) (ex2 : x2 = (σ.2.1 51) x1.toNatClampNeg) (tx2 : x2.toInt = ((σ.2.1 51) ((σ.1 55).toInt - 1).toNat).toInt) (c3 : ¬ x2.toInt = 0) (hr4y : ∀ v9 : QV, QAT (qH (σ.2.1 36) (σ.2.1 37) (σ.2.1 38) (σ.2.1 39) (σ.2.1 40) (σ.2.1 41) (σ.2.1 42) (σ.2.1 43) (σ.2.1 44) (σ.2.1 45) (σ.2.1 46) (σ.2.1 48)) (σ.1 47).toInt ((σ.2.1 51), (σ.2.2.1 52), (σ.2.2.1 53), (σ.2.2.2)) x1.toNatClampNeg v9 → QFO (qFld (qH (σ.2.1 36) (σ.2.1 37) (σ.2.1 38) (σ.2.1 39) (σ.2.1 40) (σ.2.1 41) (σ.2.1 42) (σ.2.1 43) (σ.2.1 44) (σ.2.1 45) (σ.2.1 46) (σ.2.1 48)) v9 k0.toInt) v9.2.1 r4.toInt) (hr4 : (r4.toInt = -1 ∧ ¬ FLD (σ.2.1 51) (σ.2.2.1 52) (σ.2.1 48) (σ.2.1 36) (σ.2.1 37) (σ.2.1 38) x1.toNatClampNeg k0) ∨ (80 ≤ r4.toInt ∧ r4.toInt < 980 ∧ FLD (σ.2.1 51) (σ.2.2.1 52) (σ.2.1 48) (σ.2.1 36) (σ.2.1 37) (σ.2.1 38) x1.toNatClampNeg k0)) (c5 : r4.toInt < 0) : ∀ v9 : QV, QAT (qH (σ.2.1 36) (σ.2.1 37) (σ.2.1 38) (σ.2.1 39) (σ.2.1 40) (σ.2.1 41) (σ.2.1 42) (σ.2.1 43) (σ.2.1 44) (σ.2.1 45) (σ.2.1 46) (σ.2.1 48)) (σ.1 47).toInt ((σ.2.1 51), (σ.2.2.1 52), (σ.2.2.1 53), (σ.2.2.2)) (((σ.1 55).toInt - 1).toNat) v9 → (σ.1 56).toInt = 0 → (5 : Int32).toInt = if v9.1 = 0 then 4 else if qFld (qH (σ.2.1 36) (σ.2.1 37) (σ.2.1 38) (σ.2.1 39) (σ.2.1 40) (σ.2.1 41) (σ.2.1 42) (σ.2.1 43) (σ.2.1 44) (σ.2.1 45) (σ.2.1 46) (σ.2.1 48)) v9 k0.toInt = none then 5 else 0 := by
  have q1 : (1 : Int32).toInt = 1 := by decide +kernel
  have q5 : (5 : Int32).toInt = 5 := by decide +kernel
  intro v9 h9 h0
  have zx1 : x1.toNatClampNeg = ((σ.1 55).toInt - 1).toNat := by rw [clampN x1, tx1]
  try simp only [zx1] at *
  have kd := h9.kd
  have kk := h9.ok.kd
  dsimp only at kd
  have q := hr4y v9 h9
  rw [if_neg (by omega)]
  cases e : qFld (qH (σ.2.1 36) (σ.2.1 37) (σ.2.1 38) (σ.2.1 39) (σ.2.1 40) (σ.2.1 41) (σ.2.1 42) (σ.2.1 43) (σ.2.1 44) (σ.2.1 45) (σ.2.1 46) (σ.2.1 48)) v9 k0.toInt with
  | none =>
    rw [e] at q
    have q : r4.toInt = -1 := q
    rw [if_pos rfl]; omega
  | some f =>
    rw [e] at q
    have q : r4.toInt = 80 + 30 * v9.2.1 + f := q
    rw [if_neg (by intro h; cases h)]
    by_cases k8 : 8 ≤ v9.1
    · obtain ⟨o, o1, o2, o3, rfl⟩ := h9.ok.k8 k8
      have q : r4.toInt = 80 + 30 * (o : Int) + f := q
      omega
    · rw [qFld_0 (by omega)] at e; cases e
-- post @41
theorem v_aim_8 (σ : RS) (k0 : Int32) (x1 : Int32) (x2 : Int32) (hpre_0 : 0 ≤ (σ.1 35).toInt) (hpre_1 : (σ.1 35).toInt ≤ 5) (hpre_2 : CLS (σ.1 35).toInt (σ.2.1 36) (σ.2.1 37) (σ.2.1 40)) (hpre_3 : OBS (σ.1 47).toInt (σ.1 35).toInt (σ.2.1 48)) (hpre_4 : 0 ≤ (σ.1 47).toInt) (hpre_5 : (σ.1 47).toInt ≤ 30) (hpre_6 : 1 ≤ (σ.1 55).toInt) (hpre_7 : (σ.1 55).toInt ≤ 60) (hpre_8 : VALS (σ.2.1 51) (σ.2.2.1 52) (σ.1 35).toInt (σ.1 47).toInt) (ex1 : x1 = (σ.1 55) - (1 : Int32)) (tx1 : x1.toInt = (σ.1 55).toInt - 1) (ex2 : x2 = (σ.2.1 51) x1.toNatClampNeg) (tx2 : x2.toInt = ((σ.2.1 51) ((σ.1 55).toInt - 1).toNat).toInt) (c3 : x2.toInt = 0) : 0 ≤ (4 : Int32).toInt ∧ (4 : Int32).toInt ≤ 11 ∧ ((4 : Int32).toInt = 0 → FLD (σ.2.1 51) (σ.2.2.1 52) (σ.2.1 48) (σ.2.1 36) (σ.2.1 37) (σ.2.1 38) ((σ.1 55).toInt - 1).toNat k0) := by
  have q1 : (1 : Int32).toInt = 1 := by decide +kernel
  have q4 : (4 : Int32).toInt = 4 := by decide +kernel
  refine ⟨by omega, by omega, fun h => ?_⟩
  have z : x1.toNatClampNeg = ((σ.1 55).toInt - 1).toNat := by rw [clampN, tx1]
  rw [← z]
  first | (exfalso; omega) | exact (Or.resolve_left none (fun h1 => by omega)).2.2
-- post2 @41
theorem v_aim_9 (σ : RS) (k0 : Int32) (x1 : Int32) (x2 : Int32) (hpre_0 : 0 ≤ (σ.1 35).toInt) (hpre_1 : (σ.1 35).toInt ≤ 5) (hpre_2 : CLS (σ.1 35).toInt (σ.2.1 36) (σ.2.1 37) (σ.2.1 40)) (hpre_3 : OBS (σ.1 47).toInt (σ.1 35).toInt (σ.2.1 48)) (hpre_4 : 0 ≤ (σ.1 47).toInt) (hpre_5 : (σ.1 47).toInt ≤ 30) (hpre_6 : 1 ≤ (σ.1 55).toInt) (hpre_7 : (σ.1 55).toInt ≤ 60) (hpre_8 : VALS (σ.2.1 51) (σ.2.2.1 52) (σ.1 35).toInt (σ.1 47).toInt) (hpre_9 : (σ.1 56).toInt = 0) (ex1 : x1 = (σ.1 55) - (1 : Int32)) (tx1 : x1.toInt = (σ.1 55).toInt - 1) (ex2 : x2 = (σ.2.1 51) x1.toNatClampNeg) (tx2 : x2.toInt = ((σ.2.1 51) ((σ.1 55).toInt - 1).toNat).toInt) (c3 : x2.toInt = 0) : ∀ v9 : QV, QAT (qH (σ.2.1 36) (σ.2.1 37) (σ.2.1 38) (σ.2.1 39) (σ.2.1 40) (σ.2.1 41) (σ.2.1 42) (σ.2.1 43) (σ.2.1 44) (σ.2.1 45) (σ.2.1 46) (σ.2.1 48)) (σ.1 47).toInt ((σ.2.1 51), (σ.2.2.1 52), (σ.2.2.1 53), (σ.2.2.2)) (((σ.1 55).toInt - 1).toNat) v9 → (σ.1 56).toInt = 0 → (4 : Int32).toInt = if v9.1 = 0 then 4 else if qFld (qH (σ.2.1 36) (σ.2.1 37) (σ.2.1 38) (σ.2.1 39) (σ.2.1 40) (σ.2.1 41) (σ.2.1 42) (σ.2.1 43) (σ.2.1 44) (σ.2.1 45) (σ.2.1 46) (σ.2.1 48)) v9 k0.toInt = none then 5 else 0 := by
  have q1 : (1 : Int32).toInt = 1 := by decide +kernel
  have q4 : (4 : Int32).toInt = 4 := by decide +kernel
  intro v9 h9 h0
  have zx1 : x1.toNatClampNeg = ((σ.1 55).toInt - 1).toNat := by rw [clampN x1, tx1]
  try simp only [zx1] at *
  have kd := h9.kd
  have kk := h9.ok.kd
  dsimp only at kd
  rw [if_pos (by omega)]; omega
set_option maxHeartbeats 4000000 in
set_option maxRecDepth 100000 in
theorem M_aim (l : Launch) (D : va_G) (cy : Nat → ClassId) (sz0 : Nat) (sa : Nat → Nat) (ad : Nat → Nat) (σ : RS) (sz : Nat) (k0 : Int32) (hpre : 0 ≤ (σ.1 35).toInt ∧ (σ.1 35).toInt ≤ 5 ∧ CLS (σ.1 35).toInt (σ.2.1 36) (σ.2.1 37) (σ.2.1 40) ∧ OBS (σ.1 47).toInt (σ.1 35).toInt (σ.2.1 48) ∧ 0 ≤ (σ.1 47).toInt ∧ (σ.1 47).toInt ≤ 30 ∧ 1 ≤ (σ.1 55).toInt ∧ (σ.1 55).toInt ≤ 60 ∧ VALS (σ.2.1 51) (σ.2.2.1 52) (σ.1 35).toInt (σ.1 47).toInt ∧ (σ.1 56).toInt = 0) : Met l yX12_aim (Cond.code yX12_aim cX12_aim 3 none :: GWm) ({ frames := 1, cells := 0, slots := 0, locals := 25 }) (PcR D cy sz0 sa ad [.ref (ad 0), .int k0] σ sz) (va_Qv (fun (u : Int32) => (0 ≤ u.toInt ∧ u.toInt ≤ 11 ∧ (u.toInt = 0 → FLD (σ.2.1 51) (σ.2.2.1 52) (σ.2.1 48) (σ.2.1 36) (σ.2.1 37) (σ.2.1 38) ((σ.1 55).toInt - 1).toNat k0)) ∧ (∀ v9 : QV, QAT (qH (σ.2.1 36) (σ.2.1 37) (σ.2.1 38) (σ.2.1 39) (σ.2.1 40) (σ.2.1 41) (σ.2.1 42) (σ.2.1 43) (σ.2.1 44) (σ.2.1 45) (σ.2.1 46) (σ.2.1 48)) (σ.1 47).toInt ((σ.2.1 51), (σ.2.2.1 52), (σ.2.2.1 53), (σ.2.2.2)) (((σ.1 55).toInt - 1).toNat) v9 → (σ.1 56).toInt = 0 → u.toInt = if v9.1 = 0 then 4 else if qFld (qH (σ.2.1 36) (σ.2.1 37) (σ.2.1 38) (σ.2.1 39) (σ.2.1 40) (σ.2.1 41) (σ.2.1 42) (σ.2.1 43) (σ.2.1 44) (σ.2.1 45) (σ.2.1 46) (σ.2.1 48)) v9 k0.toInt = none then 5 else 0)) (fun (u : Int32) (t : State) => RP D cy ad (rS σ 56 u) t.heap) (AR cy ad sz)) 0 0 (AR cy ad sz) := by
  refine RM_of (loc0 := [(0, .ref (ad 0)), (1, .int k0)]) (by decide) rfl rfl (Nat.le_of_ble_eq_true rfl) ?_
  intro p e s m below meth c ls hsz C hP hS hl
  have hx := C.1
  have hb := C.2.1
  have hown := C.2.2.2.2.1
  have hw := C.2.2.2.2.2.1
  clear hsz
  obtain ⟨hpre_0, hpre_1, hpre_2, hpre_3, hpre_4, hpre_5, hpre_6, hpre_7, hpre_8, hpre_9⟩ := hpre
  refine lv_aload_n hx hb dX12_aim_0 rfl (lv_at hl 0 rfl) ?_
  refine rg_55 (v := (σ.1 55)) C hP rfl wm_212 dX12_aim_1 ?_
  refine lv_iconst (v := 1) hx hb dX12_aim_4 (by decide +kernel) ?_
  refine lv_isub hx hb dX12_aim_5 ?_
  refine lv_topi (fun x1 ex1 => ?_)
  have tx1 : x1.toInt = (σ.1 55).toInt - 1 := (v_aim_1 σ x1 hpre_6 hpre_7 ex1)
  refine lv_istore_n (lv' := [(2, .int x1), (0, .ref (ad 0)), (1, .int k0)]) hx hb dX12_aim_6 rfl hl (by decide) rfl (fun ls hl => ?_)
  refine lv_aload_n hx hb dX12_aim_7 rfl (lv_at hl 1 rfl) ?_
  refine lv_aload_n hx hb dX12_aim_8 rfl (lv_at hl 1 rfl) ?_
  refine rg_51 C hP wm_205 dX12_aim_9 ?_
  refine lv_iload_n hx hb dX12_aim_12 rfl (lv_at hl 0 rfl) ?_
  refine ra_51 (f := (σ.2.1 51)) C hP rfl (v_aim_2 σ x1 hpre_6 hpre_7 ex1 tx1) dX12_aim_13 (fun x2 ex2 => ?_)
  have tx2 : x2.toInt = ((σ.2.1 51) ((σ.1 55).toInt - 1).toNat).toInt := by rw [ex2, clampN, tx1]
  refine lv_if_ne (tgt := 21) hx hb dX12_aim_14 (by decide) (fun c3 => ?_) (fun c3 => ?_)
  · have c3 : ¬ x2.toInt = 0 := by have h := z_ne c3; rw [show (0 : Int32).toInt = 0 from by decide +kernel] at h; exact h
    refine lv_aload_n hx hb dX12_aim_21 rfl (lv_at hl 1 rfl) ?_
    refine lv_iload_n hx hb dX12_aim_22 rfl (lv_at hl 0 rfl) ?_
    refine lv_iload_n hx hb dX12_aim_23 rfl (lv_at hl 2 rfl) ?_
    refine r_callVi (As := [.int x1, .int k0]) (rest := [.ref (ad 0)]) C hP hS hl.1 ⟨Nat.zero_le _, Nat.zero_le _⟩ (M_fieldOf l D cy sz0 sa ad σ s.heap.size x1 k0 (v_aim_3 σ x1 x2 hpre_0 hpre_1 hpre_2 hpre_3 hpre_4 hpre_5 hpre_6 hpre_7 hpre_8 ex1 tx1 ex2 tx2 c3)) (n := 2) ⟨wm_311, wm_204, by decide +kernel⟩ ⟨wm_312, wm_313, wm_10⟩ rfl rfl (lv_room (Nat.le_of_ble_eq_true rfl)) ⟨Nat.le_of_ble_eq_true rfl, Nat.le_of_ble_eq_true rfl⟩ dX12_aim_24 (fun r4 u H locs hr4 hP hS => ?_)
    obtain ⟨hr4, hr4y⟩ := hr4
    have hr4y : ∀ v9 : QV, QAT (qH (σ.2.1 36) (σ.2.1 37) (σ.2.1 38) (σ.2.1 39) (σ.2.1 40) (σ.2.1 41) (σ.2.1 42) (σ.2.1 43) (σ.2.1 44) (σ.2.1 45) (σ.2.1 46) (σ.2.1 48)) (σ.1 47).toInt ((σ.2.1 51), (σ.2.2.1 52), (σ.2.2.1 53), (σ.2.2.2)) x1.toNatClampNeg v9 → QFO (qFld (qH (σ.2.1 36) (σ.2.1 37) (σ.2.1 38) (σ.2.1 39) (σ.2.1 40) (σ.2.1 41) (σ.2.1 42) (σ.2.1 43) (σ.2.1 44) (σ.2.1 45) (σ.2.1 46) (σ.2.1 48)) v9 k0.toInt) v9.2.1 r4.toInt := hr4y
    have hr4 : (r4.toInt = -1 ∧ ¬ FLD (σ.2.1 51) (σ.2.2.1 52) (σ.2.1 48) (σ.2.1 36) (σ.2.1 37) (σ.2.1 38) x1.toNatClampNeg k0) ∨ (80 ≤ r4.toInt ∧ r4.toInt < 980 ∧ FLD (σ.2.1 51) (σ.2.2.1 52) (σ.2.1 48) (σ.2.1 36) (σ.2.1 37) (σ.2.1 38) x1.toNatClampNeg k0) := hr4
    refine lv_if_ge (tgt := 34) hx hb dX12_aim_27 (by decide) (fun c5 => ?_) (fun c5 => ?_)
    · have c5 : 0 ≤ r4.toInt := by have h := z_le c5; rw [show (0 : Int32).toInt = 0 from by decide +kernel] at h; exact h
      refine lv_aload_n hx hb dX12_aim_34 rfl (lv_at hl 1 rfl) ?_
      refine rg_56 (v := (σ.1 56)) C hP rfl wm_242 dX12_aim_35 ?_
      refine rp_56 C hP hS wm_242 dX12_aim_38 (fun H locs hP hS => ?_)
      exact r_retv C (σ.1 56) ⟨(v_aim_4 σ k0 x1 x2 r4 hpre_0 hpre_1 hpre_2 hpre_3 hpre_4 hpre_5 hpre_6 hpre_7 hpre_8 hpre_9 ex1 tx1 ex2 tx2 c3 hr4 c5), (v_aim_5 σ k0 x1 x2 r4 hpre_0 hpre_1 hpre_2 hpre_3 hpre_4 hpre_5 hpre_6 hpre_7 hpre_8 hpre_9 ex1 tx1 ex2 tx2 c3 hr4y hr4 c5)⟩ hP hS dX12_aim_41
    · have c5 : r4.toInt < 0 := by have h := z_nle c5; rw [show (0 : Int32).toInt = 0 from by decide +kernel] at h; exact h
      refine lv_iconst (v := 5) hx hb dX12_aim_30 (by decide +kernel) ?_
      refine lv_goto (tgt := 38) hx hb dX12_aim_31 (by decide) ?_
      refine rp_56 C hP hS wm_242 dX12_aim_38 (fun H locs hP hS => ?_)
      exact r_retv C (5 : Int32) ⟨(v_aim_6 σ k0 x1 x2 r4 hpre_0 hpre_1 hpre_2 hpre_3 hpre_4 hpre_5 hpre_6 hpre_7 hpre_8 ex1 tx1 ex2 tx2 c3 hr4 c5), (v_aim_7 σ k0 x1 x2 r4 hpre_0 hpre_1 hpre_2 hpre_3 hpre_4 hpre_5 hpre_6 hpre_7 hpre_8 hpre_9 ex1 tx1 ex2 tx2 c3 hr4y hr4 c5)⟩ hP hS dX12_aim_41
  · have c3 : x2.toInt = 0 := by have h := z_eq c3; rw [show (0 : Int32).toInt = 0 from by decide +kernel] at h; exact h
    refine lv_iconst (v := 4) hx hb dX12_aim_17 (by decide +kernel) ?_
    refine lv_goto (tgt := 38) hx hb dX12_aim_18 (by decide) ?_
    refine rp_56 C hP hS wm_242 dX12_aim_38 (fun H locs hP hS => ?_)
    exact r_retv C (4 : Int32) ⟨(v_aim_8 σ k0 x1 x2 hpre_0 hpre_1 hpre_2 hpre_3 hpre_4 hpre_5 hpre_6 hpre_7 hpre_8 ex1 tx1 ex2 tx2 c3), (v_aim_9 σ k0 x1 x2 hpre_0 hpre_1 hpre_2 hpre_3 hpre_4 hpre_5 hpre_6 hpre_7 hpre_8 hpre_9 ex1 tx1 ex2 tx2 c3)⟩ hP hS dX12_aim_41
