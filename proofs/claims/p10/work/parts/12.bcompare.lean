-- pre:isNumber@2 @2
theorem v_alike_1 (σ : RS) (k0 : Int32) (k1 : Int32) (hpre_0 : 0 ≤ k0.toInt) (hpre_1 : k0.toInt < 980) (hpre_2 : 0 ≤ k1.toInt) (hpre_3 : k1.toInt < 980) (hpre_4 : ((σ.2.1 51) k0.toNatClampNeg).toInt = 3 → FN ((σ.2.2.2) k0.toNatClampNeg)) (hpre_5 : ((σ.2.1 51) k1.toNatClampNeg).toInt = 3 → FN ((σ.2.2.2) k1.toNatClampNeg)) : 0 ≤ k0.toInt ∧ k0.toInt < 980 := by
  refine ⟨?_, ?_⟩ <;> first | assumption | omega | (subst_vars; omega) | trivial
-- in@41 @41
theorem v_alike_2 (σ : RS) (k0 : Int32) (k1 : Int32) (hpre_0 : 0 ≤ k0.toInt) (hpre_1 : k0.toInt < 980) (hpre_2 : 0 ≤ k1.toInt) (hpre_3 : k1.toInt < 980) (hpre_4 : ((σ.2.1 51) k0.toNatClampNeg).toInt = 3 → FN ((σ.2.2.2) k0.toNatClampNeg)) (hpre_5 : ((σ.2.1 51) k1.toNatClampNeg).toInt = 3 → FN ((σ.2.2.2) k1.toNatClampNeg)) (hr1 : ¬ (((σ.2.1 51) k0.toNatClampNeg).toInt = 2 ∨ ((σ.2.1 51) k0.toNatClampNeg).toInt = 3)) : vp_in k0 980 := by
  exact vp_in_iff.mpr ⟨by omega, by omega⟩
-- in@47 @47
theorem v_alike_3 (σ : RS) (k0 : Int32) (k1 : Int32) (x3 : Int32) (hpre_0 : 0 ≤ k0.toInt) (hpre_1 : k0.toInt < 980) (hpre_2 : 0 ≤ k1.toInt) (hpre_3 : k1.toInt < 980) (hpre_4 : ((σ.2.1 51) k0.toNatClampNeg).toInt = 3 → FN ((σ.2.2.2) k0.toNatClampNeg)) (hpre_5 : ((σ.2.1 51) k1.toNatClampNeg).toInt = 3 → FN ((σ.2.2.2) k1.toNatClampNeg)) (hr1 : ¬ (((σ.2.1 51) k0.toNatClampNeg).toInt = 2 ∨ ((σ.2.1 51) k0.toNatClampNeg).toInt = 3)) (ex3 : x3 = (σ.2.1 51) k0.toNatClampNeg) (tx3 : x3.toInt = ((σ.2.1 51) k0.toNatClampNeg).toInt) : vp_in k1 980 := by
  exact vp_in_iff.mpr ⟨by omega, by omega⟩
-- post2 @88
theorem v_alike_4 (σ : RS) (k0 : Int32) (k1 : Int32) (r1 : Int32) (x3 : Int32) (x4 : Int32) (hpre_0 : 0 ≤ k0.toInt) (hpre_1 : k0.toInt < 980) (hpre_2 : 0 ≤ k1.toInt) (hpre_3 : k1.toInt < 980) (hpre_4 : ((σ.2.1 51) k0.toNatClampNeg).toInt = 3 → FN ((σ.2.2.2) k0.toNatClampNeg)) (hpre_5 : ((σ.2.1 51) k1.toNatClampNeg).toInt = 3 → FN ((σ.2.2.2) k1.toNatClampNeg)) (hr1 : ¬ (((σ.2.1 51) k0.toNatClampNeg).toInt = 2 ∨ ((σ.2.1 51) k0.toNatClampNeg).toInt = 3)) (c2 : r1.toInt = 0) (ex3 : x3 = (σ.2.1 51) k0.toNatClampNeg) (tx3 : x3.toInt = ((σ.2.1 51) k0.toNatClampNeg).toInt) (ex4 : x4 = (σ.2.1 51) k1.toNatClampNeg) (tx4 : x4.toInt = ((σ.2.1 51) k1.toNatClampNeg).toInt) (c5 : ¬ x3.toInt = x4.toInt) : ∀ v9 w9 : QV, QAT (qH (σ.2.1 36) (σ.2.1 37) (σ.2.1 38) (σ.2.1 39) (σ.2.1 40) (σ.2.1 41) (σ.2.1 42) (σ.2.1 43) (σ.2.1 44) (σ.2.1 45) (σ.2.1 46) (σ.2.1 48)) (σ.1 47).toInt ((σ.2.1 51), (σ.2.2.1 52), (σ.2.2.1 53), (σ.2.2.2)) k0.toNatClampNeg v9 → QAT (qH (σ.2.1 36) (σ.2.1 37) (σ.2.1 38) (σ.2.1 39) (σ.2.1 40) (σ.2.1 41) (σ.2.1 42) (σ.2.1 43) (σ.2.1 44) (σ.2.1 45) (σ.2.1 46) (σ.2.1 48)) (σ.1 47).toInt ((σ.2.1 51), (σ.2.2.1 52), (σ.2.2.1 53), (σ.2.2.2)) k1.toNatClampNeg w9 → ((0 : Int32).toInt = 0 ∨ (0 : Int32).toInt = 1) ∧ ((0 : Int32).toInt = 0 → qSame v9 w9 = false) ∧ (¬ (0 : Int32).toInt = 0 → qSame v9 w9 = true) := by
  have q0 : (0 : Int32).toInt = 0 := by decide +kernel
  intro v9 w9 h9 g9
  have kd := h9.kd
  have kq := g9.kd
  dsimp only at kd kq
  have nn : ¬ (qNum v9 = true ∧ qNum w9 = true) := fun h => by
    have h1 := of_decide_eq_true h.1
    have h2 := of_decide_eq_true h.2
    omega
  have q := q_same h9 g9 (q_n33 nn)
  dsimp only at q
  rw [qSame_x nn]
  exact ⟨by omega, fun h => decide_eq_false (fun e => by have e := q.mpr e; omega), fun h => decide_eq_true (q.mp (by omega))⟩
-- bool@ret @88
theorem v_alike_5   : (0 : Int32) = 0 ∨ (0 : Int32) = 1 := by
  have q0 : (0 : Int32).toInt = 0 := by decide +kernel
  first | exact Or.inl rfl | exact Or.inr rfl | exact bool_of (by omega)
-- in@56 @56
theorem v_alike_6 (σ : RS) (k0 : Int32) (k1 : Int32) (x3 : Int32) (x4 : Int32) (hpre_0 : 0 ≤ k0.toInt) (hpre_1 : k0.toInt < 980) (hpre_2 : 0 ≤ k1.toInt) (hpre_3 : k1.toInt < 980) (hpre_4 : ((σ.2.1 51) k0.toNatClampNeg).toInt = 3 → FN ((σ.2.2.2) k0.toNatClampNeg)) (hpre_5 : ((σ.2.1 51) k1.toNatClampNeg).toInt = 3 → FN ((σ.2.2.2) k1.toNatClampNeg)) (hr1 : ¬ (((σ.2.1 51) k0.toNatClampNeg).toInt = 2 ∨ ((σ.2.1 51) k0.toNatClampNeg).toInt = 3)) (ex3 : x3 = (σ.2.1 51) k0.toNatClampNeg) (tx3 : x3.toInt = ((σ.2.1 51) k0.toNatClampNeg).toInt) (ex4 : x4 = (σ.2.1 51) k1.toNatClampNeg) (tx4 : x4.toInt = ((σ.2.1 51) k1.toNatClampNeg).toInt) (c5 : x3.toInt = x4.toInt) : vp_in k0 980 := by
  exact vp_in_iff.mpr ⟨by omega, by omega⟩
-- in@62 @62
theorem v_alike_7 (σ : RS) (k0 : Int32) (k1 : Int32) (x3 : Int32) (x4 : Int32) (x6 : Int64) (hpre_0 : 0 ≤ k0.toInt) (hpre_1 : k0.toInt < 980) (hpre_2 : 0 ≤ k1.toInt) (hpre_3 : k1.toInt < 980) (hpre_4 : ((σ.2.1 51) k0.toNatClampNeg).toInt = 3 → FN ((σ.2.2.2) k0.toNatClampNeg)) (hpre_5 : ((σ.2.1 51) k1.toNatClampNeg).toInt = 3 → FN ((σ.2.2.2) k1.toNatClampNeg)) (hr1 : ¬ (((σ.2.1 51) k0.toNatClampNeg).toInt = 2 ∨ ((σ.2.1 51) k0.toNatClampNeg).toInt = 3)) (ex3 : x3 = (σ.2.1 51) k0.toNatClampNeg) (tx3 : x3.toInt = ((σ.2.1 51) k0.toNatClampNeg).toInt) (ex4 : x4 = (σ.2.1 51) k1.toNatClampNeg) (tx4 : x4.toInt = ((σ.2.1 51) k1.toNatClampNeg).toInt) (c5 : x3.toInt = x4.toInt) (ex6 : x6 = (σ.2.2.1 52) k0.toNatClampNeg) (tx6 : x6.toInt = ((σ.2.2.1 52) k0.toNatClampNeg).toInt) : vp_in k1 980 := by
  exact vp_in_iff.mpr ⟨by omega, by omega⟩
-- post2 @88
theorem v_alike_8 (σ : RS) (k0 : Int32) (k1 : Int32) (r1 : Int32) (x3 : Int32) (x4 : Int32) (x6 : Int64) (x7 : Int64) (x8 : Int32) (hpre_0 : 0 ≤ k0.toInt) (hpre_1 : k0.toInt < 980) (hpre_2 : 0 ≤ k1.toInt) (hpre_3 : k1.toInt < 980) (hpre_4 : ((σ.2.1 51) k0.toNatClampNeg).toInt = 3 → FN ((σ.2.2.2) k0.toNatClampNeg)) (hpre_5 : ((σ.2.1 51) k1.toNatClampNeg).toInt = 3 → FN ((σ.2.2.2) k1.toNatClampNeg)) (hr1 : ¬ (((σ.2.1 51) k0.toNatClampNeg).toInt = 2 ∨ ((σ.2.1 51) k0.toNatClampNeg).toInt = 3)) (c2 : r1.toInt = 0) (ex3 : x3 = (σ.2.1 51) k0.toNatClampNeg) (tx3 : x3.toInt = ((σ.2.1 51) k0.toNatClampNeg).toInt) (ex4 : x4 = (σ.2.1 51) k1.toNatClampNeg) (tx4 : x4.toInt = ((σ.2.1 51) k1.toNatClampNeg).toInt) (c5 : x3.toInt = x4.toInt) (ex6 : x6 = (σ.2.2.1 52) k0.toNatClampNeg) (tx6 : x6.toInt = ((σ.2.2.1 52) k0.toNatClampNeg).toInt) (ex7 : x7 = (σ.2.2.1 52) k1.toNatClampNeg) (tx7 : x7.toInt = ((σ.2.2.1 52) k1.toNatClampNeg).toInt) (tx8 : (x8.toInt = 0 ↔ x6.toInt = x7.toInt) ∧ (x8.toInt < 0 ↔ x6.toInt < x7.toInt)) (c9 : ¬ x8.toInt = 0) : ∀ v9 w9 : QV, QAT (qH (σ.2.1 36) (σ.2.1 37) (σ.2.1 38) (σ.2.1 39) (σ.2.1 40) (σ.2.1 41) (σ.2.1 42) (σ.2.1 43) (σ.2.1 44) (σ.2.1 45) (σ.2.1 46) (σ.2.1 48)) (σ.1 47).toInt ((σ.2.1 51), (σ.2.2.1 52), (σ.2.2.1 53), (σ.2.2.2)) k0.toNatClampNeg v9 → QAT (qH (σ.2.1 36) (σ.2.1 37) (σ.2.1 38) (σ.2.1 39) (σ.2.1 40) (σ.2.1 41) (σ.2.1 42) (σ.2.1 43) (σ.2.1 44) (σ.2.1 45) (σ.2.1 46) (σ.2.1 48)) (σ.1 47).toInt ((σ.2.1 51), (σ.2.2.1 52), (σ.2.2.1 53), (σ.2.2.2)) k1.toNatClampNeg w9 → ((0 : Int32).toInt = 0 ∨ (0 : Int32).toInt = 1) ∧ ((0 : Int32).toInt = 0 → qSame v9 w9 = false) ∧ (¬ (0 : Int32).toInt = 0 → qSame v9 w9 = true) := by
  have q0 : (0 : Int32).toInt = 0 := by decide +kernel
  intro v9 w9 h9 g9
  have kd := h9.kd
  have kq := g9.kd
  dsimp only at kd kq
  have nn : ¬ (qNum v9 = true ∧ qNum w9 = true) := fun h => by
    have h1 := of_decide_eq_true h.1
    have h2 := of_decide_eq_true h.2
    omega
  have q := q_same h9 g9 (q_n33 nn)
  dsimp only at q
  rw [qSame_x nn]
  exact ⟨by omega, fun h => decide_eq_false (fun e => by have e := q.mpr e; omega), fun h => decide_eq_true (q.mp (by omega))⟩
-- in@72 @72
theorem v_alike_9 (σ : RS) (k0 : Int32) (k1 : Int32) (x3 : Int32) (x4 : Int32) (x6 : Int64) (x7 : Int64) (x8 : Int32) (hpre_0 : 0 ≤ k0.toInt) (hpre_1 : k0.toInt < 980) (hpre_2 : 0 ≤ k1.toInt) (hpre_3 : k1.toInt < 980) (hpre_4 : ((σ.2.1 51) k0.toNatClampNeg).toInt = 3 → FN ((σ.2.2.2) k0.toNatClampNeg)) (hpre_5 : ((σ.2.1 51) k1.toNatClampNeg).toInt = 3 → FN ((σ.2.2.2) k1.toNatClampNeg)) (hr1 : ¬ (((σ.2.1 51) k0.toNatClampNeg).toInt = 2 ∨ ((σ.2.1 51) k0.toNatClampNeg).toInt = 3)) (ex3 : x3 = (σ.2.1 51) k0.toNatClampNeg) (tx3 : x3.toInt = ((σ.2.1 51) k0.toNatClampNeg).toInt) (ex4 : x4 = (σ.2.1 51) k1.toNatClampNeg) (tx4 : x4.toInt = ((σ.2.1 51) k1.toNatClampNeg).toInt) (c5 : x3.toInt = x4.toInt) (ex6 : x6 = (σ.2.2.1 52) k0.toNatClampNeg) (tx6 : x6.toInt = ((σ.2.2.1 52) k0.toNatClampNeg).toInt) (ex7 : x7 = (σ.2.2.1 52) k1.toNatClampNeg) (tx7 : x7.toInt = ((σ.2.2.1 52) k1.toNatClampNeg).toInt) (tx8 : (x8.toInt = 0 ↔ x6.toInt = x7.toInt) ∧ (x8.toInt < 0 ↔ x6.toInt < x7.toInt)) (c9 : x8.toInt = 0) : vp_in k0 980 := by
  exact vp_in_iff.mpr ⟨by omega, by omega⟩
-- in@78 @78
theorem v_alike_10 (σ : RS) (k0 : Int32) (k1 : Int32) (x3 : Int32) (x4 : Int32) (x6 : Int64) (x7 : Int64) (x8 : Int32) (x10 : Int64) (hpre_0 : 0 ≤ k0.toInt) (hpre_1 : k0.toInt < 980) (hpre_2 : 0 ≤ k1.toInt) (hpre_3 : k1.toInt < 980) (hpre_4 : ((σ.2.1 51) k0.toNatClampNeg).toInt = 3 → FN ((σ.2.2.2) k0.toNatClampNeg)) (hpre_5 : ((σ.2.1 51) k1.toNatClampNeg).toInt = 3 → FN ((σ.2.2.2) k1.toNatClampNeg)) (hr1 : ¬ (((σ.2.1 51) k0.toNatClampNeg).toInt = 2 ∨ ((σ.2.1 51) k0.toNatClampNeg).toInt = 3)) (ex3 : x3 = (σ.2.1 51) k0.toNatClampNeg) (tx3 : x3.toInt = ((σ.2.1 51) k0.toNatClampNeg).toInt) (ex4 : x4 = (σ.2.1 51) k1.toNatClampNeg) (tx4 : x4.toInt = ((σ.2.1 51) k1.toNatClampNeg).toInt) (c5 : x3.toInt = x4.toInt) (ex6 : x6 = (σ.2.2.1 52) k0.toNatClampNeg) (tx6 : x6.toInt = ((σ.2.2.1 52) k0.toNatClampNeg).toInt) (ex7 : x7 = (σ.2.2.1 52) k1.toNatClampNeg) (tx7 : x7.toInt = ((σ.2.2.1 52) k1.toNatClampNeg).toInt) (tx8 : (x8.toInt = 0 ↔ x6.toInt = x7.toInt) ∧ (x8.toInt < 0 ↔ x6.toInt < x7.toInt)) (c9 : x8.toInt = 0) (ex10 : x10 = (σ.2.2.1 53) k0.toNatClampNeg) (tx10 : x10.toInt = ((σ.2.2.1 53) k0.toNatClampNeg).toInt) : vp_in k1 980 := by
  exact vp_in_iff.mpr ⟨by omega, by omega⟩
-- post2 @88
theorem v_alike_11 (σ : RS) (k0 : Int32) (k1 : Int32) (r1 : Int32) (x3 : Int32) (x4 : Int32) (x6 : Int64) (x7 : Int64) (x8 : Int32) (x10 : Int64) (x11 : Int64) (x12 : Int32) (hpre_0 : 0 ≤ k0.toInt) (hpre_1 : k0.toInt < 980) (hpre_2 : 0 ≤ k1.toInt) (hpre_3 : k1.toInt < 980) (hpre_4 : ((σ.2.1 51) k0.toNatClampNeg).toInt = 3 → FN ((σ.2.2.2) k0.toNatClampNeg)) (hpre_5 : ((σ.2.1 51) k1.toNatClampNeg).toInt = 3 → FN ((σ.2.2.2) k1.toNatClampNeg)) (hr1 : ¬ (((σ.2.1 51) k0.toNatClampNeg).toInt = 2 ∨ ((σ.2.1 51) k0.toNatClampNeg).toInt = 3)) (c2 : r1.toInt = 0) (ex3 : x3 = (σ.2.1 51) k0.toNatClampNeg) (tx3 : x3.toInt = ((σ.2.1 51) k0.toNatClampNeg).toInt) (ex4 : x4 = (σ.2.1 51) k1.toNatClampNeg) (tx4 : x4.toInt = ((σ.2.1 51) k1.toNatClampNeg).toInt) (c5 : x3.toInt = x4.toInt) (ex6 : x6 = (σ.2.2.1 52) k0.toNatClampNeg) (tx6 : x6.toInt = ((σ.2.2.1 52) k0.toNatClampNeg).toInt) (ex7 : x7 = (σ.2.2.1 52) k1.toNatClampNeg) (tx7 : x7.toInt = ((σ.2.2.1 52) k1.toNatClampNeg).toInt) (tx8 : (x8.toInt = 0 ↔ x6.toInt = x7.toInt) ∧ (x8.toInt < 0 ↔ x6.toInt < x7.toInt)) (c9 : x8.toInt = 0) (ex10 : x10 = (σ.2.2.1 53) k0.toNatClampNeg) (tx10 : x10.toInt = ((σ.2.2.1 53) k0.toNatClampNeg).toInt) (ex11 : x11 = (σ.2.2.1 53) k1.toNatClampNeg) (tx11 : x11.toInt = ((σ.2.2.1 53) k1.toNatClampNeg).toInt) (tx12 : (x12.toInt = 0 ↔ x10.toInt = x11.toInt) ∧ (x12.toInt < 0 ↔ x10.toInt < x11.toInt)) (c13 : ¬ x12.toInt = 0) : ∀ v9 w9 : QV, QAT (qH (σ.2.1 36) (σ.2.1 37) (σ.2.1 38) (σ.2.1 39) (σ.2.1 40) (σ.2.1 41) (σ.2.1 42) (σ.2.1 43) (σ.2.1 44) (σ.2.1 45) (σ.2.1 46) (σ.2.1 48)) (σ.1 47).toInt ((σ.2.1 51), (σ.2.2.1 52), (σ.2.2.1 53), (σ.2.2.2)) k0.toNatClampNeg v9 → QAT (qH (σ.2.1 36) (σ.2.1 37) (σ.2.1 38) (σ.2.1 39) (σ.2.1 40) (σ.2.1 41) (σ.2.1 42) (σ.2.1 43) (σ.2.1 44) (σ.2.1 45) (σ.2.1 46) (σ.2.1 48)) (σ.1 47).toInt ((σ.2.1 51), (σ.2.2.1 52), (σ.2.2.1 53), (σ.2.2.2)) k1.toNatClampNeg w9 → ((0 : Int32).toInt = 0 ∨ (0 : Int32).toInt = 1) ∧ ((0 : Int32).toInt = 0 → qSame v9 w9 = false) ∧ (¬ (0 : Int32).toInt = 0 → qSame v9 w9 = true) := by
  have q0 : (0 : Int32).toInt = 0 := by decide +kernel
  intro v9 w9 h9 g9
  have kd := h9.kd
  have kq := g9.kd
  dsimp only at kd kq
  have nn : ¬ (qNum v9 = true ∧ qNum w9 = true) := fun h => by
    have h1 := of_decide_eq_true h.1
    have h2 := of_decide_eq_true h.2
    omega
  have q := q_same h9 g9 (q_n33 nn)
  dsimp only at q
  rw [qSame_x nn]
  exact ⟨by omega, fun h => decide_eq_false (fun e => by have e := q.mpr e; omega), fun h => decide_eq_true (q.mp (by omega))⟩
-- post2 @88
theorem v_alike_12 (σ : RS) (k0 : Int32) (k1 : Int32) (r1 : Int32) (x3 : Int32) (x4 : Int32) (x6 : Int64) (x7 : Int64) (x8 : Int32) (x10 : Int64) (x11 : Int64) (x12 : Int32) (hpre_0 : 0 ≤ k0.toInt) (hpre_1 : k0.toInt < 980) (hpre_2 : 0 ≤ k1.toInt) (hpre_3 : k1.toInt < 980) (hpre_4 : ((σ.2.1 51) k0.toNatClampNeg).toInt = 3 → FN ((σ.2.2.2) k0.toNatClampNeg)) (hpre_5 : ((σ.2.1 51) k1.toNatClampNeg).toInt = 3 → FN ((σ.2.2.2) k1.toNatClampNeg)) (hr1 : ¬ (((σ.2.1 51) k0.toNatClampNeg).toInt = 2 ∨ ((σ.2.1 51) k0.toNatClampNeg).toInt = 3)) (c2 : r1.toInt = 0) (ex3 : x3 = (σ.2.1 51) k0.toNatClampNeg) (tx3 : x3.toInt = ((σ.2.1 51) k0.toNatClampNeg).toInt) (ex4 : x4 = (σ.2.1 51) k1.toNatClampNeg) (tx4 : x4.toInt = ((σ.2.1 51) k1.toNatClampNeg).toInt) (c5 : x3.toInt = x4.toInt) (ex6 : x6 = (σ.2.2.1 52) k0.toNatClampNeg) (tx6 : x6.toInt = ((σ.2.2.1 52) k0.toNatClampNeg).toInt) (ex7 : x7 = (σ.2.2.1 52) k1.toNatClampNeg) (tx7 : x7.toInt = ((σ.2.2.1 52) k1.toNatClampNeg).toInt) (tx8 : (x8.toInt = 0 ↔ x6.toInt = x7.toInt) ∧ (x8.toInt < 0 ↔ x6.toInt < x7.toInt)) (c9 : x8.toInt = 0) (ex10 : x10 = (σ.2.2.1 53) k0.toNatClampNeg) (tx10 : x10.toInt = ((σ.2.2.1 53) k0.toNatClampNeg).toInt) (ex11 : x11 = (σ.2.2.1 53) k1.toNatClampNeg) (tx11 : x11.toInt = ((σ.2.2.1 53) k1.toNatClampNeg).toInt) (tx12 : (x12.toInt = 0 ↔ x10.toInt = x11.toInt) ∧ (x12.toInt < 0 ↔ x10.toInt < x11.toInt)) (c13 : x12.toInt = 0) : ∀ v9 w9 : QV, QAT (qH (σ.2.1 36) (σ.2.1 37) (σ.2.1 38) (σ.2.1 39) (σ.2.1 40) (σ.2.1 41) (σ.2.1 42) (σ.2.1 43) (σ.2.1 44) (σ.2.1 45) (σ.2.1 46) (σ.2.1 48)) (σ.1 47).toInt ((σ.2.1 51), (σ.2.2.1 52), (σ.2.2.1 53), (σ.2.2.2)) k0.toNatClampNeg v9 → QAT (qH (σ.2.1 36) (σ.2.1 37) (σ.2.1 38) (σ.2.1 39) (σ.2.1 40) (σ.2.1 41) (σ.2.1 42) (σ.2.1 43) (σ.2.1 44) (σ.2.1 45) (σ.2.1 46) (σ.2.1 48)) (σ.1 47).toInt ((σ.2.1 51), (σ.2.2.1 52), (σ.2.2.1 53), (σ.2.2.2)) k1.toNatClampNeg w9 → ((1 : Int32).toInt = 0 ∨ (1 : Int32).toInt = 1) ∧ ((1 : Int32).toInt = 0 → qSame v9 w9 = false) ∧ (¬ (1 : Int32).toInt = 0 → qSame v9 w9 = true) := by
  have q1 : (1 : Int32).toInt = 1 := by decide +kernel
  intro v9 w9 h9 g9
  have kd := h9.kd
  have kq := g9.kd
  dsimp only at kd kq
  have nn : ¬ (qNum v9 = true ∧ qNum w9 = true) := fun h => by
    have h1 := of_decide_eq_true h.1
    have h2 := of_decide_eq_true h.2
    omega
  have q := q_same h9 g9 (q_n33 nn)
  dsimp only at q
  rw [qSame_x nn]
  exact ⟨by omega, fun h => decide_eq_false (fun e => by have e := q.mpr e; omega), fun h => decide_eq_true (q.mp (by omega))⟩
-- bool@ret @88
theorem v_alike_13   : (1 : Int32) = 0 ∨ (1 : Int32) = 1 := by
  have q1 : (1 : Int32).toInt = 1 := by decide +kernel
  first | exact Or.inl rfl | exact Or.inr rfl | exact bool_of (by omega)
-- pre:isNumber@10 @10
theorem v_alike_14 (σ : RS) (k0 : Int32) (k1 : Int32) (hpre_0 : 0 ≤ k0.toInt) (hpre_1 : k0.toInt < 980) (hpre_2 : 0 ≤ k1.toInt) (hpre_3 : k1.toInt < 980) (hpre_4 : ((σ.2.1 51) k0.toNatClampNeg).toInt = 3 → FN ((σ.2.2.2) k0.toNatClampNeg)) (hpre_5 : ((σ.2.1 51) k1.toNatClampNeg).toInt = 3 → FN ((σ.2.2.2) k1.toNatClampNeg)) (hr1 : ((σ.2.1 51) k0.toNatClampNeg).toInt = 2 ∨ ((σ.2.1 51) k0.toNatClampNeg).toInt = 3) : 0 ≤ k1.toInt ∧ k1.toInt < 980 := by
  refine ⟨?_, ?_⟩ <;> first | assumption | omega | (subst_vars; omega) | trivial
-- in@41 @41
theorem v_alike_15 (σ : RS) (k0 : Int32) (k1 : Int32) (hpre_0 : 0 ≤ k0.toInt) (hpre_1 : k0.toInt < 980) (hpre_2 : 0 ≤ k1.toInt) (hpre_3 : k1.toInt < 980) (hpre_4 : ((σ.2.1 51) k0.toNatClampNeg).toInt = 3 → FN ((σ.2.2.2) k0.toNatClampNeg)) (hpre_5 : ((σ.2.1 51) k1.toNatClampNeg).toInt = 3 → FN ((σ.2.2.2) k1.toNatClampNeg)) (hr1 : ((σ.2.1 51) k0.toNatClampNeg).toInt = 2 ∨ ((σ.2.1 51) k0.toNatClampNeg).toInt = 3) (hr14 : ¬ (((σ.2.1 51) k1.toNatClampNeg).toInt = 2 ∨ ((σ.2.1 51) k1.toNatClampNeg).toInt = 3)) : vp_in k0 980 := by
  exact vp_in_iff.mpr ⟨by omega, by omega⟩
-- in@47 @47
theorem v_alike_16 (σ : RS) (k0 : Int32) (k1 : Int32) (x16 : Int32) (hpre_0 : 0 ≤ k0.toInt) (hpre_1 : k0.toInt < 980) (hpre_2 : 0 ≤ k1.toInt) (hpre_3 : k1.toInt < 980) (hpre_4 : ((σ.2.1 51) k0.toNatClampNeg).toInt = 3 → FN ((σ.2.2.2) k0.toNatClampNeg)) (hpre_5 : ((σ.2.1 51) k1.toNatClampNeg).toInt = 3 → FN ((σ.2.2.2) k1.toNatClampNeg)) (hr1 : ((σ.2.1 51) k0.toNatClampNeg).toInt = 2 ∨ ((σ.2.1 51) k0.toNatClampNeg).toInt = 3) (hr14 : ¬ (((σ.2.1 51) k1.toNatClampNeg).toInt = 2 ∨ ((σ.2.1 51) k1.toNatClampNeg).toInt = 3)) (ex16 : x16 = (σ.2.1 51) k0.toNatClampNeg) (tx16 : x16.toInt = ((σ.2.1 51) k0.toNatClampNeg).toInt) : vp_in k1 980 := by
  exact vp_in_iff.mpr ⟨by omega, by omega⟩
-- post2 @88
theorem v_alike_17 (σ : RS) (k0 : Int32) (k1 : Int32) (r1 : Int32) (r14 : Int32) (x16 : Int32) (x17 : Int32) (hpre_0 : 0 ≤ k0.toInt) (hpre_1 : k0.toInt < 980) (hpre_2 : 0 ≤ k1.toInt) (hpre_3 : k1.toInt < 980) (hpre_4 : ((σ.2.1 51) k0.toNatClampNeg).toInt = 3 → FN ((σ.2.2.2) k0.toNatClampNeg)) (hpre_5 : ((σ.2.1 51) k1.toNatClampNeg).toInt = 3 → FN ((σ.2.2.2) k1.toNatClampNeg)) (hr1 : ((σ.2.1 51) k0.toNatClampNeg).toInt = 2 ∨ ((σ.2.1 51) k0.toNatClampNeg).toInt = 3) (c2 : ¬ r1.toInt = 0) (hr1v : r1.toInt = 1) (hr14 : ¬ (((σ.2.1 51) k1.toNatClampNeg).toInt = 2 ∨ ((σ.2.1 51) k1.toNatClampNeg).toInt = 3)) (c15 : r14.toInt = 0) (ex16 : x16 = (σ.2.1 51) k0.toNatClampNeg) (tx16 : x16.toInt = ((σ.2.1 51) k0.toNatClampNeg).toInt) (ex17 : x17 = (σ.2.1 51) k1.toNatClampNeg) (tx17 : x17.toInt = ((σ.2.1 51) k1.toNatClampNeg).toInt) (c18 : ¬ x16.toInt = x17.toInt) : ∀ v9 w9 : QV, QAT (qH (σ.2.1 36) (σ.2.1 37) (σ.2.1 38) (σ.2.1 39) (σ.2.1 40) (σ.2.1 41) (σ.2.1 42) (σ.2.1 43) (σ.2.1 44) (σ.2.1 45) (σ.2.1 46) (σ.2.1 48)) (σ.1 47).toInt ((σ.2.1 51), (σ.2.2.1 52), (σ.2.2.1 53), (σ.2.2.2)) k0.toNatClampNeg v9 → QAT (qH (σ.2.1 36) (σ.2.1 37) (σ.2.1 38) (σ.2.1 39) (σ.2.1 40) (σ.2.1 41) (σ.2.1 42) (σ.2.1 43) (σ.2.1 44) (σ.2.1 45) (σ.2.1 46) (σ.2.1 48)) (σ.1 47).toInt ((σ.2.1 51), (σ.2.2.1 52), (σ.2.2.1 53), (σ.2.2.2)) k1.toNatClampNeg w9 → ((0 : Int32).toInt = 0 ∨ (0 : Int32).toInt = 1) ∧ ((0 : Int32).toInt = 0 → qSame v9 w9 = false) ∧ (¬ (0 : Int32).toInt = 0 → qSame v9 w9 = true) := by
  have q0 : (0 : Int32).toInt = 0 := by decide +kernel
  intro v9 w9 h9 g9
  have kd := h9.kd
  have kq := g9.kd
  dsimp only at kd kq
  have nn : ¬ (qNum v9 = true ∧ qNum w9 = true) := fun h => by
    have h1 := of_decide_eq_true h.1
    have h2 := of_decide_eq_true h.2
    omega
  have q := q_same h9 g9 (q_n33 nn)
  dsimp only at q
  rw [qSame_x nn]
  exact ⟨by omega, fun h => decide_eq_false (fun e => by have e := q.mpr e; omega), fun h => decide_eq_true (q.mp (by omega))⟩
-- in@56 @56
theorem v_alike_18 (σ : RS) (k0 : Int32) (k1 : Int32) (x16 : Int32) (x17 : Int32) (hpre_0 : 0 ≤ k0.toInt) (hpre_1 : k0.toInt < 980) (hpre_2 : 0 ≤ k1.toInt) (hpre_3 : k1.toInt < 980) (hpre_4 : ((σ.2.1 51) k0.toNatClampNeg).toInt = 3 → FN ((σ.2.2.2) k0.toNatClampNeg)) (hpre_5 : ((σ.2.1 51) k1.toNatClampNeg).toInt = 3 → FN ((σ.2.2.2) k1.toNatClampNeg)) (hr1 : ((σ.2.1 51) k0.toNatClampNeg).toInt = 2 ∨ ((σ.2.1 51) k0.toNatClampNeg).toInt = 3) (hr14 : ¬ (((σ.2.1 51) k1.toNatClampNeg).toInt = 2 ∨ ((σ.2.1 51) k1.toNatClampNeg).toInt = 3)) (ex16 : x16 = (σ.2.1 51) k0.toNatClampNeg) (tx16 : x16.toInt = ((σ.2.1 51) k0.toNatClampNeg).toInt) (ex17 : x17 = (σ.2.1 51) k1.toNatClampNeg) (tx17 : x17.toInt = ((σ.2.1 51) k1.toNatClampNeg).toInt) (c18 : x16.toInt = x17.toInt) : vp_in k0 980 := by
  exact vp_in_iff.mpr ⟨by omega, by omega⟩
-- in@62 @62
theorem v_alike_19 (σ : RS) (k0 : Int32) (k1 : Int32) (x16 : Int32) (x17 : Int32) (x19 : Int64) (hpre_0 : 0 ≤ k0.toInt) (hpre_1 : k0.toInt < 980) (hpre_2 : 0 ≤ k1.toInt) (hpre_3 : k1.toInt < 980) (hpre_4 : ((σ.2.1 51) k0.toNatClampNeg).toInt = 3 → FN ((σ.2.2.2) k0.toNatClampNeg)) (hpre_5 : ((σ.2.1 51) k1.toNatClampNeg).toInt = 3 → FN ((σ.2.2.2) k1.toNatClampNeg)) (hr1 : ((σ.2.1 51) k0.toNatClampNeg).toInt = 2 ∨ ((σ.2.1 51) k0.toNatClampNeg).toInt = 3) (hr14 : ¬ (((σ.2.1 51) k1.toNatClampNeg).toInt = 2 ∨ ((σ.2.1 51) k1.toNatClampNeg).toInt = 3)) (ex16 : x16 = (σ.2.1 51) k0.toNatClampNeg) (tx16 : x16.toInt = ((σ.2.1 51) k0.toNatClampNeg).toInt) (ex17 : x17 = (σ.2.1 51) k1.toNatClampNeg) (tx17 : x17.toInt = ((σ.2.1 51) k1.toNatClampNeg).toInt) (c18 : x16.toInt = x17.toInt) (ex19 : x19 = (σ.2.2.1 52) k0.toNatClampNeg) (tx19 : x19.toInt = ((σ.2.2.1 52) k0.toNatClampNeg).toInt) : vp_in k1 980 := by
  exact vp_in_iff.mpr ⟨by omega, by omega⟩
-- post2 @88
theorem v_alike_20 (σ : RS) (k0 : Int32) (k1 : Int32) (r1 : Int32) (r14 : Int32) (x16 : Int32) (x17 : Int32) (x19 : Int64) (x20 : Int64) (x21 : Int32) (hpre_0 : 0 ≤ k0.toInt) (hpre_1 : k0.toInt < 980) (hpre_2 : 0 ≤ k1.toInt) (hpre_3 : k1.toInt < 980) (hpre_4 : ((σ.2.1 51) k0.toNatClampNeg).toInt = 3 → FN ((σ.2.2.2) k0.toNatClampNeg)) (hpre_5 : ((σ.2.1 51) k1.toNatClampNeg).toInt = 3 → FN ((σ.2.2.2) k1.toNatClampNeg)) (hr1 : ((σ.2.1 51) k0.toNatClampNeg).toInt = 2 ∨ ((σ.2.1 51) k0.toNatClampNeg).toInt = 3) (c2 : ¬ r1.toInt = 0) (hr1v : r1.toInt = 1) (hr14 : ¬ (((σ.2.1 51) k1.toNatClampNeg).toInt = 2 ∨ ((σ.2.1 51) k1.toNatClampNeg).toInt = 3)) (c15 : r14.toInt = 0) (ex16 : x16 = (σ.2.1 51) k0.toNatClampNeg) (tx16 : x16.toInt = ((σ.2.1 51) k0.toNatClampNeg).toInt) (ex17 : x17 = (σ.2.1 51) k1.toNatClampNeg) (tx17 : x17.toInt = ((σ.2.1 51) k1.toNatClampNeg).toInt) (c18 : x16.toInt = x17.toInt) (ex19 : x19 = (σ.2.2.1 52) k0.toNatClampNeg) (tx19 : x19.toInt = ((σ.2.2.1 52) k0.toNatClampNeg).toInt) (ex20 : x20 = (σ.2.2.1 52) k1.toNatClampNeg) (tx20 : x20.toInt = ((σ.2.2.1 52) k1.toNatClampNeg).toInt) (tx21 : (x21.toInt = 0 ↔ x19.toInt = x20.toInt) ∧ (x21.toInt < 0 ↔ x19.toInt < x20.toInt)) (c22 : ¬ x21.toInt = 0) : ∀ v9 w9 : QV, QAT (qH (σ.2.1 36) (σ.2.1 37) (σ.2.1 38) (σ.2.1 39) (σ.2.1 40) (σ.2.1 41) (σ.2.1 42) (σ.2.1 43) (σ.2.1 44) (σ.2.1 45) (σ.2.1 46) (σ.2.1 48)) (σ.1 47).toInt ((σ.2.1 51), (σ.2.2.1 52), (σ.2.2.1 53), (σ.2.2.2)) k0.toNatClampNeg v9 → QAT (qH (σ.2.1 36) (σ.2.1 37) (σ.2.1 38) (σ.2.1 39) (σ.2.1 40) (σ.2.1 41) (σ.2.1 42) (σ.2.1 43) (σ.2.1 44) (σ.2.1 45) (σ.2.1 46) (σ.2.1 48)) (σ.1 47).toInt ((σ.2.1 51), (σ.2.2.1 52), (σ.2.2.1 53), (σ.2.2.2)) k1.toNatClampNeg w9 → ((0 : Int32).toInt = 0 ∨ (0 : Int32).toInt = 1) ∧ ((0 : Int32).toInt = 0 → qSame v9 w9 = false) ∧ (¬ (0 : Int32).toInt = 0 → qSame v9 w9 = true) := by
  have q0 : (0 : Int32).toInt = 0 := by decide +kernel
  intro v9 w9 h9 g9
  have kd := h9.kd
  have kq := g9.kd
  dsimp only at kd kq
  have nn : ¬ (qNum v9 = true ∧ qNum w9 = true) := fun h => by
    have h1 := of_decide_eq_true h.1
    have h2 := of_decide_eq_true h.2
    omega
  have q := q_same h9 g9 (q_n33 nn)
  dsimp only at q
  rw [qSame_x nn]
  exact ⟨by omega, fun h => decide_eq_false (fun e => by have e := q.mpr e; omega), fun h => decide_eq_true (q.mp (by omega))⟩
-- in@72 @72
theorem v_alike_21 (σ : RS) (k0 : Int32) (k1 : Int32) (x16 : Int32) (x17 : Int32) (x19 : Int64) (x20 : Int64) (x21 : Int32) (hpre_0 : 0 ≤ k0.toInt) (hpre_1 : k0.toInt < 980) (hpre_2 : 0 ≤ k1.toInt) (hpre_3 : k1.toInt < 980) (hpre_4 : ((σ.2.1 51) k0.toNatClampNeg).toInt = 3 → FN ((σ.2.2.2) k0.toNatClampNeg)) (hpre_5 : ((σ.2.1 51) k1.toNatClampNeg).toInt = 3 → FN ((σ.2.2.2) k1.toNatClampNeg)) (hr1 : ((σ.2.1 51) k0.toNatClampNeg).toInt = 2 ∨ ((σ.2.1 51) k0.toNatClampNeg).toInt = 3) (hr14 : ¬ (((σ.2.1 51) k1.toNatClampNeg).toInt = 2 ∨ ((σ.2.1 51) k1.toNatClampNeg).toInt = 3)) (ex16 : x16 = (σ.2.1 51) k0.toNatClampNeg) (tx16 : x16.toInt = ((σ.2.1 51) k0.toNatClampNeg).toInt) (ex17 : x17 = (σ.2.1 51) k1.toNatClampNeg) (tx17 : x17.toInt = ((σ.2.1 51) k1.toNatClampNeg).toInt) (c18 : x16.toInt = x17.toInt) (ex19 : x19 = (σ.2.2.1 52) k0.toNatClampNeg) (tx19 : x19.toInt = ((σ.2.2.1 52) k0.toNatClampNeg).toInt) (ex20 : x20 = (σ.2.2.1 52) k1.toNatClampNeg) (tx20 : x20.toInt = ((σ.2.2.1 52) k1.toNatClampNeg).toInt) (tx21 : (x21.toInt = 0 ↔ x19.toInt = x20.toInt) ∧ (x21.toInt < 0 ↔ x19.toInt < x20.toInt)) (c22 : x21.toInt = 0) : vp_in k0 980 := by
  exact vp_in_iff.mpr ⟨by omega, by omega⟩
-- in@78 @78
theorem v_alike_22 (σ : RS) (k0 : Int32) (k1 : Int32) (x16 : Int32) (x17 : Int32) (x19 : Int64) (x20 : Int64) (x21 : Int32) (x23 : Int64) (hpre_0 : 0 ≤ k0.toInt) (hpre_1 : k0.toInt < 980) (hpre_2 : 0 ≤ k1.toInt) (hpre_3 : k1.toInt < 980) (hpre_4 : ((σ.2.1 51) k0.toNatClampNeg).toInt = 3 → FN ((σ.2.2.2) k0.toNatClampNeg)) (hpre_5 : ((σ.2.1 51) k1.toNatClampNeg).toInt = 3 → FN ((σ.2.2.2) k1.toNatClampNeg)) (hr1 : ((σ.2.1 51) k0.toNatClampNeg).toInt = 2 ∨ ((σ.2.1 51) k0.toNatClampNeg).toInt = 3) (hr14 : ¬ (((σ.2.1 51) k1.toNatClampNeg).toInt = 2 ∨ ((σ.2.1 51) k1.toNatClampNeg).toInt = 3)) (ex16 : x16 = (σ.2.1 51) k0.toNatClampNeg) (tx16 : x16.toInt = ((σ.2.1 51) k0.toNatClampNeg).toInt) (ex17 : x17 = (σ.2.1 51) k1.toNatClampNeg) (tx17 : x17.toInt = ((σ.2.1 51) k1.toNatClampNeg).toInt) (c18 : x16.toInt = x17.toInt) (ex19 : x19 = (σ.2.2.1 52) k0.toNatClampNeg) (tx19 : x19.toInt = ((σ.2.2.1 52) k0.toNatClampNeg).toInt) (ex20 : x20 = (σ.2.2.1 52) k1.toNatClampNeg) (tx20 : x20.toInt = ((σ.2.2.1 52) k1.toNatClampNeg).toInt) (tx21 : (x21.toInt = 0 ↔ x19.toInt = x20.toInt) ∧ (x21.toInt < 0 ↔ x19.toInt < x20.toInt)) (c22 : x21.toInt = 0) (ex23 : x23 = (σ.2.2.1 53) k0.toNatClampNeg) (tx23 : x23.toInt = ((σ.2.2.1 53) k0.toNatClampNeg).toInt) : vp_in k1 980 := by
  exact vp_in_iff.mpr ⟨by omega, by omega⟩
-- post2 @88
theorem v_alike_23 (σ : RS) (k0 : Int32) (k1 : Int32) (r1 : Int32) (r14 : Int32) (x16 : Int32) (x17 : Int32) (x19 : Int64) (x20 : Int64) (x21 : Int32) (x23 : Int64) (x24 : Int64) (x25 : Int32) (hpre_0 : 0 ≤ k0.toInt) (hpre_1 : k0.toInt < 980) (hpre_2 : 0 ≤ k1.toInt) (hpre_3 : k1.toInt < 980) (hpre_4 : ((σ.2.1 51) k0.toNatClampNeg).toInt = 3 → FN ((σ.2.2.2) k0.toNatClampNeg)) (hpre_5 : ((σ.2.1 51) k1.toNatClampNeg).toInt = 3 → FN ((σ.2.2.2) k1.toNatClampNeg)) (hr1 : ((σ.2.1 51) k0.toNatClampNeg).toInt = 2 ∨ ((σ.2.1 51) k0.toNatClampNeg).toInt = 3) (c2 : ¬ r1.toInt = 0) (hr1v : r1.toInt = 1) (hr14 : ¬ (((σ.2.1 51) k1.toNatClampNeg).toInt = 2 ∨ ((σ.2.1 51) k1.toNatClampNeg).toInt = 3)) (c15 : r14.toInt = 0) (ex16 : x16 = (σ.2.1 51) k0.toNatClampNeg) (tx16 : x16.toInt = ((σ.2.1 51) k0.toNatClampNeg).toInt) (ex17 : x17 = (σ.2.1 51) k1.toNatClampNeg) (tx17 : x17.toInt = ((σ.2.1 51) k1.toNatClampNeg).toInt) (c18 : x16.toInt = x17.toInt) (ex19 : x19 = (σ.2.2.1 52) k0.toNatClampNeg) (tx19 : x19.toInt = ((σ.2.2.1 52) k0.toNatClampNeg).toInt) (ex20 : x20 = (σ.2.2.1 52) k1.toNatClampNeg) (tx20 : x20.toInt = ((σ.2.2.1 52) k1.toNatClampNeg).toInt) (tx21 : (x21.toInt = 0 ↔ x19.toInt = x20.toInt) ∧ (x21.toInt < 0 ↔ x19.toInt < x20.toInt)) (c22 : x21.toInt = 0) (ex23 : x23 = (σ.2.2.1 53) k0.toNatClampNeg) (tx23 : x23.toInt = ((σ.2.2.1 53) k0.toNatClampNeg).toInt) (ex24 : x24 = (σ.2.2.1 53) k1.toNatClampNeg) (tx24 : x24.toInt = ((σ.2.2.1 53) k1.toNatClampNeg).toInt) (tx25 : (x25.toInt = 0 ↔ x23.toInt = x24.toInt) ∧ (x25.toInt < 0 ↔ x23.toInt < x24.toInt)) (c26 : ¬ x25.toInt = 0) : ∀ v9 w9 : QV, QAT (qH (σ.2.1 36) (σ.2.1 37) (σ.2.1 38) (σ.2.1 39) (σ.2.1 40) (σ.2.1 41) (σ.2.1 42) (σ.2.1 43) (σ.2.1 44) (σ.2.1 45) (σ.2.1 46) (σ.2.1 48)) (σ.1 47).toInt ((σ.2.1 51), (σ.2.2.1 52), (σ.2.2.1 53), (σ.2.2.2)) k0.toNatClampNeg v9 → QAT (qH (σ.2.1 36) (σ.2.1 37) (σ.2.1 38) (σ.2.1 39) (σ.2.1 40) (σ.2.1 41) (σ.2.1 42) (σ.2.1 43) (σ.2.1 44) (σ.2.1 45) (σ.2.1 46) (σ.2.1 48)) (σ.1 47).toInt ((σ.2.1 51), (σ.2.2.1 52), (σ.2.2.1 53), (σ.2.2.2)) k1.toNatClampNeg w9 → ((0 : Int32).toInt = 0 ∨ (0 : Int32).toInt = 1) ∧ ((0 : Int32).toInt = 0 → qSame v9 w9 = false) ∧ (¬ (0 : Int32).toInt = 0 → qSame v9 w9 = true) := by
  have q0 : (0 : Int32).toInt = 0 := by decide +kernel
  intro v9 w9 h9 g9
  have kd := h9.kd
  have kq := g9.kd
  dsimp only at kd kq
  have nn : ¬ (qNum v9 = true ∧ qNum w9 = true) := fun h => by
    have h1 := of_decide_eq_true h.1
    have h2 := of_decide_eq_true h.2
    omega
  have q := q_same h9 g9 (q_n33 nn)
  dsimp only at q
  rw [qSame_x nn]
  exact ⟨by omega, fun h => decide_eq_false (fun e => by have e := q.mpr e; omega), fun h => decide_eq_true (q.mp (by omega))⟩
-- post2 @88
theorem v_alike_24 (σ : RS) (k0 : Int32) (k1 : Int32) (r1 : Int32) (r14 : Int32) (x16 : Int32) (x17 : Int32) (x19 : Int64) (x20 : Int64) (x21 : Int32) (x23 : Int64) (x24 : Int64) (x25 : Int32) (hpre_0 : 0 ≤ k0.toInt) (hpre_1 : k0.toInt < 980) (hpre_2 : 0 ≤ k1.toInt) (hpre_3 : k1.toInt < 980) (hpre_4 : ((σ.2.1 51) k0.toNatClampNeg).toInt = 3 → FN ((σ.2.2.2) k0.toNatClampNeg)) (hpre_5 : ((σ.2.1 51) k1.toNatClampNeg).toInt = 3 → FN ((σ.2.2.2) k1.toNatClampNeg)) (hr1 : ((σ.2.1 51) k0.toNatClampNeg).toInt = 2 ∨ ((σ.2.1 51) k0.toNatClampNeg).toInt = 3) (c2 : ¬ r1.toInt = 0) (hr1v : r1.toInt = 1) (hr14 : ¬ (((σ.2.1 51) k1.toNatClampNeg).toInt = 2 ∨ ((σ.2.1 51) k1.toNatClampNeg).toInt = 3)) (c15 : r14.toInt = 0) (ex16 : x16 = (σ.2.1 51) k0.toNatClampNeg) (tx16 : x16.toInt = ((σ.2.1 51) k0.toNatClampNeg).toInt) (ex17 : x17 = (σ.2.1 51) k1.toNatClampNeg) (tx17 : x17.toInt = ((σ.2.1 51) k1.toNatClampNeg).toInt) (c18 : x16.toInt = x17.toInt) (ex19 : x19 = (σ.2.2.1 52) k0.toNatClampNeg) (tx19 : x19.toInt = ((σ.2.2.1 52) k0.toNatClampNeg).toInt) (ex20 : x20 = (σ.2.2.1 52) k1.toNatClampNeg) (tx20 : x20.toInt = ((σ.2.2.1 52) k1.toNatClampNeg).toInt) (tx21 : (x21.toInt = 0 ↔ x19.toInt = x20.toInt) ∧ (x21.toInt < 0 ↔ x19.toInt < x20.toInt)) (c22 : x21.toInt = 0) (ex23 : x23 = (σ.2.2.1 53) k0.toNatClampNeg) (tx23 : x23.toInt = ((σ.2.2.1 53) k0.toNatClampNeg).toInt) (ex24 : x24 = (σ.2.2.1 53) k1.toNatClampNeg) (tx24 : x24.toInt = ((σ.2.2.1 53) k1.toNatClampNeg).toInt) (tx25 : (x25.toInt = 0 ↔ x23.toInt = x24.toInt) ∧ (x25.toInt < 0 ↔ x23.toInt < x24.toInt)) (c26 : x25.toInt = 0) : ∀ v9 w9 : QV, QAT (qH (σ.2.1 36) (σ.2.1 37) (σ.2.1 38) (σ.2.1 39) (σ.2.1 40) (σ.2.1 41) (σ.2.1 42) (σ.2.1 43) (σ.2.1 44) (σ.2.1 45) (σ.2.1 46) (σ.2.1 48)) (σ.1 47).toInt ((σ.2.1 51), (σ.2.2.1 52), (σ.2.2.1 53), (σ.2.2.2)) k0.toNatClampNeg v9 → QAT (qH (σ.2.1 36) (σ.2.1 37) (σ.2.1 38) (σ.2.1 39) (σ.2.1 40) (σ.2.1 41) (σ.2.1 42) (σ.2.1 43) (σ.2.1 44) (σ.2.1 45) (σ.2.1 46) (σ.2.1 48)) (σ.1 47).toInt ((σ.2.1 51), (σ.2.2.1 52), (σ.2.2.1 53), (σ.2.2.2)) k1.toNatClampNeg w9 → ((1 : Int32).toInt = 0 ∨ (1 : Int32).toInt = 1) ∧ ((1 : Int32).toInt = 0 → qSame v9 w9 = false) ∧ (¬ (1 : Int32).toInt = 0 → qSame v9 w9 = true) := by
  have q1 : (1 : Int32).toInt = 1 := by decide +kernel
  intro v9 w9 h9 g9
  have kd := h9.kd
  have kq := g9.kd
  dsimp only at kd kq
  have nn : ¬ (qNum v9 = true ∧ qNum w9 = true) := fun h => by
    have h1 := of_decide_eq_true h.1
    have h2 := of_decide_eq_true h.2
    omega
  have q := q_same h9 g9 (q_n33 nn)
  dsimp only at q
  rw [qSame_x nn]
  exact ⟨by omega, fun h => decide_eq_false (fun e => by have e := q.mpr e; omega), fun h => decide_eq_true (q.mp (by omega))⟩
-- pre:realOf@18 @18
theorem v_alike_25 (σ : RS) (k0 : Int32) (k1 : Int32) (hpre_0 : 0 ≤ k0.toInt) (hpre_1 : k0.toInt < 980) (hpre_2 : 0 ≤ k1.toInt) (hpre_3 : k1.toInt < 980) (hpre_4 : ((σ.2.1 51) k0.toNatClampNeg).toInt = 3 → FN ((σ.2.2.2) k0.toNatClampNeg)) (hpre_5 : ((σ.2.1 51) k1.toNatClampNeg).toInt = 3 → FN ((σ.2.2.2) k1.toNatClampNeg)) (hr1 : ((σ.2.1 51) k0.toNatClampNeg).toInt = 2 ∨ ((σ.2.1 51) k0.toNatClampNeg).toInt = 3) (hr14 : ((σ.2.1 51) k1.toNatClampNeg).toInt = 2 ∨ ((σ.2.1 51) k1.toNatClampNeg).toInt = 3) : 0 ≤ k0.toInt ∧ k0.toInt < 980 ∧ (((σ.2.1 51) k0.toNatClampNeg).toInt = 3 → FN ((σ.2.2.2) k0.toNatClampNeg)) := by
  refine ⟨?_, ?_, ?_⟩ <;> first | assumption | omega | (subst_vars; omega) | trivial
-- pre:realOf@23 @23
theorem v_alike_26 (σ : RS) (k0 : Int32) (k1 : Int32) (hpre_0 : 0 ≤ k0.toInt) (hpre_1 : k0.toInt < 980) (hpre_2 : 0 ≤ k1.toInt) (hpre_3 : k1.toInt < 980) (hpre_4 : ((σ.2.1 51) k0.toNatClampNeg).toInt = 3 → FN ((σ.2.2.2) k0.toNatClampNeg)) (hpre_5 : ((σ.2.1 51) k1.toNatClampNeg).toInt = 3 → FN ((σ.2.2.2) k1.toNatClampNeg)) (hr1 : ((σ.2.1 51) k0.toNatClampNeg).toInt = 2 ∨ ((σ.2.1 51) k0.toNatClampNeg).toInt = 3) (hr14 : ((σ.2.1 51) k1.toNatClampNeg).toInt = 2 ∨ ((σ.2.1 51) k1.toNatClampNeg).toInt = 3) : 0 ≤ k1.toInt ∧ k1.toInt < 980 ∧ (((σ.2.1 51) k1.toNatClampNeg).toInt = 3 → FN ((σ.2.2.2) k1.toNatClampNeg)) := by
  refine ⟨?_, ?_, ?_⟩ <;> first | assumption | omega | (subst_vars; omega) | trivial
-- post2 @35
theorem v_alike_27 (σ : RS) (k0 : Int32) (k1 : Int32) (r1 : Int32) (r14 : Int32) (r27 : UInt64) (r28 : UInt64) (x29 : Int32) (hpre_0 : 0 ≤ k0.toInt) (hpre_1 : k0.toInt < 980) (hpre_2 : 0 ≤ k1.toInt) (hpre_3 : k1.toInt < 980) (hpre_4 : ((σ.2.1 51) k0.toNatClampNeg).toInt = 3 → FN ((σ.2.2.2) k0.toNatClampNeg)) (hpre_5 : ((σ.2.1 51) k1.toNatClampNeg).toInt = 3 → FN ((σ.2.2.2) k1.toNatClampNeg)) (hr1 : ((σ.2.1 51) k0.toNatClampNeg).toInt = 2 ∨ ((σ.2.1 51) k0.toNatClampNeg).toInt = 3) (c2 : ¬ r1.toInt = 0) (hr1v : r1.toInt = 1) (hr14 : ((σ.2.1 51) k1.toNatClampNeg).toInt = 2 ∨ ((σ.2.1 51) k1.toNatClampNeg).toInt = 3) (c15 : ¬ r14.toInt = 0) (hr14v : r14.toInt = 1) (hr27y : ∀ v9 : QV, QAT (qH (σ.2.1 36) (σ.2.1 37) (σ.2.1 38) (σ.2.1 39) (σ.2.1 40) (σ.2.1 41) (σ.2.1 42) (σ.2.1 43) (σ.2.1 44) (σ.2.1 45) (σ.2.1 46) (σ.2.1 48)) (σ.1 47).toInt ((σ.2.1 51), (σ.2.2.1 52), (σ.2.2.1 53), (σ.2.2.2)) k0.toNatClampNeg v9 → qNum v9 = true → r27 = qRe v9) (hr27 : FN r27) (hr28y : ∀ v9 : QV, QAT (qH (σ.2.1 36) (σ.2.1 37) (σ.2.1 38) (σ.2.1 39) (σ.2.1 40) (σ.2.1 41) (σ.2.1 42) (σ.2.1 43) (σ.2.1 44) (σ.2.1 45) (σ.2.1 46) (σ.2.1 48)) (σ.1 47).toInt ((σ.2.1 51), (σ.2.2.1 52), (σ.2.2.1 53), (σ.2.2.2)) k1.toNatClampNeg v9 → qNum v9 = true → r28 = qRe v9) (hr28 : FN r28) (ex29 : x29 = Op.cmpValue (FP.dcmp r27 r28) .l) (c30 : ¬ x29.toInt = 0) : ∀ v9 w9 : QV, QAT (qH (σ.2.1 36) (σ.2.1 37) (σ.2.1 38) (σ.2.1 39) (σ.2.1 40) (σ.2.1 41) (σ.2.1 42) (σ.2.1 43) (σ.2.1 44) (σ.2.1 45) (σ.2.1 46) (σ.2.1 48)) (σ.1 47).toInt ((σ.2.1 51), (σ.2.2.1 52), (σ.2.2.1 53), (σ.2.2.2)) k0.toNatClampNeg v9 → QAT (qH (σ.2.1 36) (σ.2.1 37) (σ.2.1 38) (σ.2.1 39) (σ.2.1 40) (σ.2.1 41) (σ.2.1 42) (σ.2.1 43) (σ.2.1 44) (σ.2.1 45) (σ.2.1 46) (σ.2.1 48)) (σ.1 47).toInt ((σ.2.1 51), (σ.2.2.1 52), (σ.2.2.1 53), (σ.2.2.2)) k1.toNatClampNeg w9 → ((0 : Int32).toInt = 0 ∨ (0 : Int32).toInt = 1) ∧ ((0 : Int32).toInt = 0 → qSame v9 w9 = false) ∧ (¬ (0 : Int32).toInt = 0 → qSame v9 w9 = true) := by
  have q0 : (0 : Int32).toInt = 0 := by decide +kernel
  intro v9 w9 h9 g9
  have kd := h9.kd
  have kq := g9.kd
  dsimp only at kd kq
  have nv : qNum v9 = true := decide_eq_true (by omega)
  have nw : qNum w9 = true := decide_eq_true (by omega)
  have a := hr27y v9 h9 nv
  have b := hr28y w9 g9 nw
  have z := ex29
  rw [a, b] at z
  rw [qSame_n nv nw]
  exact ⟨by omega, fun h => decide_eq_false (by rw [← z]; omega), fun h => decide_eq_true (by rw [← z]; omega)⟩
-- post2 @35
theorem v_alike_28 (σ : RS) (k0 : Int32) (k1 : Int32) (r1 : Int32) (r14 : Int32) (r27 : UInt64) (r28 : UInt64) (x29 : Int32) (hpre_0 : 0 ≤ k0.toInt) (hpre_1 : k0.toInt < 980) (hpre_2 : 0 ≤ k1.toInt) (hpre_3 : k1.toInt < 980) (hpre_4 : ((σ.2.1 51) k0.toNatClampNeg).toInt = 3 → FN ((σ.2.2.2) k0.toNatClampNeg)) (hpre_5 : ((σ.2.1 51) k1.toNatClampNeg).toInt = 3 → FN ((σ.2.2.2) k1.toNatClampNeg)) (hr1 : ((σ.2.1 51) k0.toNatClampNeg).toInt = 2 ∨ ((σ.2.1 51) k0.toNatClampNeg).toInt = 3) (c2 : ¬ r1.toInt = 0) (hr1v : r1.toInt = 1) (hr14 : ((σ.2.1 51) k1.toNatClampNeg).toInt = 2 ∨ ((σ.2.1 51) k1.toNatClampNeg).toInt = 3) (c15 : ¬ r14.toInt = 0) (hr14v : r14.toInt = 1) (hr27y : ∀ v9 : QV, QAT (qH (σ.2.1 36) (σ.2.1 37) (σ.2.1 38) (σ.2.1 39) (σ.2.1 40) (σ.2.1 41) (σ.2.1 42) (σ.2.1 43) (σ.2.1 44) (σ.2.1 45) (σ.2.1 46) (σ.2.1 48)) (σ.1 47).toInt ((σ.2.1 51), (σ.2.2.1 52), (σ.2.2.1 53), (σ.2.2.2)) k0.toNatClampNeg v9 → qNum v9 = true → r27 = qRe v9) (hr27 : FN r27) (hr28y : ∀ v9 : QV, QAT (qH (σ.2.1 36) (σ.2.1 37) (σ.2.1 38) (σ.2.1 39) (σ.2.1 40) (σ.2.1 41) (σ.2.1 42) (σ.2.1 43) (σ.2.1 44) (σ.2.1 45) (σ.2.1 46) (σ.2.1 48)) (σ.1 47).toInt ((σ.2.1 51), (σ.2.2.1 52), (σ.2.2.1 53), (σ.2.2.2)) k1.toNatClampNeg v9 → qNum v9 = true → r28 = qRe v9) (hr28 : FN r28) (ex29 : x29 = Op.cmpValue (FP.dcmp r27 r28) .l) (c30 : x29.toInt = 0) : ∀ v9 w9 : QV, QAT (qH (σ.2.1 36) (σ.2.1 37) (σ.2.1 38) (σ.2.1 39) (σ.2.1 40) (σ.2.1 41) (σ.2.1 42) (σ.2.1 43) (σ.2.1 44) (σ.2.1 45) (σ.2.1 46) (σ.2.1 48)) (σ.1 47).toInt ((σ.2.1 51), (σ.2.2.1 52), (σ.2.2.1 53), (σ.2.2.2)) k0.toNatClampNeg v9 → QAT (qH (σ.2.1 36) (σ.2.1 37) (σ.2.1 38) (σ.2.1 39) (σ.2.1 40) (σ.2.1 41) (σ.2.1 42) (σ.2.1 43) (σ.2.1 44) (σ.2.1 45) (σ.2.1 46) (σ.2.1 48)) (σ.1 47).toInt ((σ.2.1 51), (σ.2.2.1 52), (σ.2.2.1 53), (σ.2.2.2)) k1.toNatClampNeg w9 → ((1 : Int32).toInt = 0 ∨ (1 : Int32).toInt = 1) ∧ ((1 : Int32).toInt = 0 → qSame v9 w9 = false) ∧ (¬ (1 : Int32).toInt = 0 → qSame v9 w9 = true) := by
  have q1 : (1 : Int32).toInt = 1 := by decide +kernel
  intro v9 w9 h9 g9
  have kd := h9.kd
  have kq := g9.kd
  dsimp only at kd kq
  have nv : qNum v9 = true := decide_eq_true (by omega)
  have nw : qNum w9 = true := decide_eq_true (by omega)
  have a := hr27y v9 h9 nv
  have b := hr28y w9 g9 nw
  have z := ex29
  rw [a, b] at z
  rw [qSame_n nv nw]
  exact ⟨by omega, fun h => decide_eq_false (by rw [← z]; omega), fun h => decide_eq_true (by rw [← z]; omega)⟩
set_option maxHeartbeats 4000000 in
set_option maxRecDepth 100000 in
theorem M_alike (l : Launch) (D : va_G) (cy : Nat → ClassId) (sz0 : Nat) (sa : Nat → Nat) (ad : Nat → Nat) (σ : RS) (sz : Nat) (k0 : Int32) (k1 : Int32) (hpre : 0 ≤ k0.toInt ∧ k0.toInt < 980 ∧ 0 ≤ k1.toInt ∧ k1.toInt < 980 ∧ (((σ.2.1 51) k0.toNatClampNeg).toInt = 3 → FN ((σ.2.2.2) k0.toNatClampNeg)) ∧ (((σ.2.1 51) k1.toNatClampNeg).toInt = 3 → FN ((σ.2.2.2) k1.toNatClampNeg))) : Met l yX12_alike (Cond.code yX12_alike cX12_alike 3 (some .boolean) :: GWm) ({ frames := 1, cells := 0, slots := 0, locals := 21 }) (PcR D cy sz0 sa ad [.ref (ad 0), .int k0, .int k1] σ sz) (va_Qi (fun (r : Int32) (u : Unit) => (True) ∧ (∀ v9 w9 : QV, QAT (qH (σ.2.1 36) (σ.2.1 37) (σ.2.1 38) (σ.2.1 39) (σ.2.1 40) (σ.2.1 41) (σ.2.1 42) (σ.2.1 43) (σ.2.1 44) (σ.2.1 45) (σ.2.1 46) (σ.2.1 48)) (σ.1 47).toInt ((σ.2.1 51), (σ.2.2.1 52), (σ.2.2.1 53), (σ.2.2.2)) k0.toNatClampNeg v9 → QAT (qH (σ.2.1 36) (σ.2.1 37) (σ.2.1 38) (σ.2.1 39) (σ.2.1 40) (σ.2.1 41) (σ.2.1 42) (σ.2.1 43) (σ.2.1 44) (σ.2.1 45) (σ.2.1 46) (σ.2.1 48)) (σ.1 47).toInt ((σ.2.1 51), (σ.2.2.1 52), (σ.2.2.1 53), (σ.2.2.2)) k1.toNatClampNeg w9 → (r.toInt = 0 ∨ r.toInt = 1) ∧ (r.toInt = 0 → qSame v9 w9 = false) ∧ (¬ r.toInt = 0 → qSame v9 w9 = true))) (fun (u : Unit) (t : State) => RP D cy ad σ t.heap) (AR cy ad sz)) 0 0 (AR cy ad sz) := by
  refine RM_of (loc0 := [(0, .ref (ad 0)), (1, .int k0), (2, .int k1)]) (by decide) rfl rfl (Nat.le_of_ble_eq_true rfl) ?_
  intro p e s m below meth c ls hsz C hP hS hl
  have hx := C.1
  have hb := C.2.1
  have hown := C.2.2.2.2.1
  have hw := C.2.2.2.2.2.1
  clear hsz
  obtain ⟨hpre_0, hpre_1, hpre_2, hpre_3, hpre_4, hpre_5⟩ := hpre
  refine lv_aload_n hx hb dX12_alike_0 rfl (lv_at hl 0 rfl) ?_
  refine lv_iload_n hx hb dX12_alike_1 rfl (lv_at hl 1 rfl) ?_
  refine r_callVi (As := [.int k0]) (rest := []) C hP hS hl.1 ⟨Nat.zero_le _, Nat.zero_le _⟩ (M_isNumber l D cy sz0 sa ad σ s.heap.size k0 (v_alike_1 σ k0 k1 hpre_0 hpre_1 hpre_2 hpre_3 hpre_4 hpre_5)) (n := 1) ⟨wm_295, wm_281, by decide +kernel⟩ ⟨wm_296, wm_297, wm_10⟩ rfl rfl (lv_room (Nat.le_of_ble_eq_true rfl)) ⟨Nat.le_of_ble_eq_true rfl, Nat.le_of_ble_eq_true rfl⟩ dX12_alike_2 (fun r1 u H locs hr1 hP hS => ?_)
  have hr1 : (r1.toInt = 0 ∧ ¬ (((σ.2.1 51) k0.toNatClampNeg).toInt = 2 ∨ ((σ.2.1 51) k0.toNatClampNeg).toInt = 3)) ∨ (r1.toInt = 1 ∧ (((σ.2.1 51) k0.toNatClampNeg).toInt = 2 ∨ ((σ.2.1 51) k0.toNatClampNeg).toInt = 3)) := hr1
  refine lv_if_eq (tgt := 36) hx hb dX12_alike_5 (by decide) (fun c2 => ?_) (fun c2 => ?_)
  · have c2 : r1.toInt = 0 := by have h := z_eq c2; rw [show (0 : Int32).toInt = 0 from by decide +kernel] at h; exact h
    have hr1 : ¬ (((σ.2.1 51) k0.toNatClampNeg).toInt = 2 ∨ ((σ.2.1 51) k0.toNatClampNeg).toInt = 3) := bq_f hr1 c2
    refine lv_aload_n hx hb dX12_alike_36 rfl (lv_at hl 0 rfl) ?_
    refine rg_51 C hP wm_205 dX12_alike_37 ?_
    refine lv_iload_n hx hb dX12_alike_40 rfl (lv_at hl 1 rfl) ?_
    refine ra_51 (f := (σ.2.1 51)) C hP rfl (v_alike_2 σ k0 k1 hpre_0 hpre_1 hpre_2 hpre_3 hpre_4 hpre_5 hr1) dX12_alike_41 (fun x3 ex3 => ?_)
    have tx3 : x3.toInt = ((σ.2.1 51) k0.toNatClampNeg).toInt := by rw [ex3]
    refine lv_aload_n hx hb dX12_alike_42 rfl (lv_at hl 0 rfl) ?_
    refine rg_51 C hP wm_205 dX12_alike_43 ?_
    refine lv_iload_n hx hb dX12_alike_46 rfl (lv_at hl 2 rfl) ?_
    refine ra_51 (f := (σ.2.1 51)) C hP rfl (v_alike_3 σ k0 k1 x3 hpre_0 hpre_1 hpre_2 hpre_3 hpre_4 hpre_5 hr1 ex3 tx3) dX12_alike_47 (fun x4 ex4 => ?_)
    have tx4 : x4.toInt = ((σ.2.1 51) k1.toNatClampNeg).toInt := by rw [ex4]
    refine lv_icmp_ne (tgt := 87) hx hb dX12_alike_48 (by decide) (fun c5 => ?_) (fun c5 => ?_)
    · have c5 : ¬ x3.toInt = x4.toInt := by have h := z_ne c5; exact h
      refine lv_iconst (v := 0) hx hb dX12_alike_87 (by decide +kernel) ?_
      exact r_retz C () (v_alike_5  ) ⟨trivial, (v_alike_4 σ k0 k1 r1 x3 x4 hpre_0 hpre_1 hpre_2 hpre_3 hpre_4 hpre_5 hr1 c2 ex3 tx3 ex4 tx4 c5)⟩ hP hS dX12_alike_88
    · have c5 : x3.toInt = x4.toInt := by have h := z_eq c5; exact h
      refine lv_aload_n hx hb dX12_alike_51 rfl (lv_at hl 0 rfl) ?_
      refine rg_52 C hP wm_206 dX12_alike_52 ?_
      refine lv_iload_n hx hb dX12_alike_55 rfl (lv_at hl 1 rfl) ?_
      refine ra_52 (f := (σ.2.2.1 52)) C hP rfl (v_alike_6 σ k0 k1 x3 x4 hpre_0 hpre_1 hpre_2 hpre_3 hpre_4 hpre_5 hr1 ex3 tx3 ex4 tx4 c5) dX12_alike_56 (fun x6 ex6 => ?_)
      have tx6 : x6.toInt = ((σ.2.2.1 52) k0.toNatClampNeg).toInt := by rw [ex6]
      refine lv_aload_n hx hb dX12_alike_57 rfl (lv_at hl 0 rfl) ?_
      refine rg_52 C hP wm_206 dX12_alike_58 ?_
      refine lv_iload_n hx hb dX12_alike_61 rfl (lv_at hl 2 rfl) ?_
      refine ra_52 (f := (σ.2.2.1 52)) C hP rfl (v_alike_7 σ k0 k1 x3 x4 x6 hpre_0 hpre_1 hpre_2 hpre_3 hpre_4 hpre_5 hr1 ex3 tx3 ex4 tx4 c5 ex6 tx6) dX12_alike_62 (fun x7 ex7 => ?_)
      have tx7 : x7.toInt = ((σ.2.2.1 52) k1.toNatClampNeg).toInt := by rw [ex7]
      refine W.lcmp hx hb dX12_alike_63 ?_
      refine lv_topi (fun x8 ex8 => ?_)
      have tx8 : (x8.toInt = 0 ↔ x6.toInt = x7.toInt) ∧ (x8.toInt < 0 ↔ x6.toInt < x7.toInt) := z_lcmp ex8 rfl rfl
      refine lv_if_ne (tgt := 87) hx hb dX12_alike_64 (by decide) (fun c9 => ?_) (fun c9 => ?_)
      · have c9 : ¬ x8.toInt = 0 := by have h := z_ne c9; rw [show (0 : Int32).toInt = 0 from by decide +kernel] at h; exact h
        refine lv_iconst (v := 0) hx hb dX12_alike_87 (by decide +kernel) ?_
        exact r_retz C () (v_alike_5  ) ⟨trivial, (v_alike_8 σ k0 k1 r1 x3 x4 x6 x7 x8 hpre_0 hpre_1 hpre_2 hpre_3 hpre_4 hpre_5 hr1 c2 ex3 tx3 ex4 tx4 c5 ex6 tx6 ex7 tx7 tx8 c9)⟩ hP hS dX12_alike_88
      · have c9 : x8.toInt = 0 := by have h := z_eq c9; rw [show (0 : Int32).toInt = 0 from by decide +kernel] at h; exact h
        refine lv_aload_n hx hb dX12_alike_67 rfl (lv_at hl 0 rfl) ?_
        refine rg_53 C hP wm_208 dX12_alike_68 ?_
        refine lv_iload_n hx hb dX12_alike_71 rfl (lv_at hl 1 rfl) ?_
        refine ra_53 (f := (σ.2.2.1 53)) C hP rfl (v_alike_9 σ k0 k1 x3 x4 x6 x7 x8 hpre_0 hpre_1 hpre_2 hpre_3 hpre_4 hpre_5 hr1 ex3 tx3 ex4 tx4 c5 ex6 tx6 ex7 tx7 tx8 c9) dX12_alike_72 (fun x10 ex10 => ?_)
        have tx10 : x10.toInt = ((σ.2.2.1 53) k0.toNatClampNeg).toInt := by rw [ex10]
        refine lv_aload_n hx hb dX12_alike_73 rfl (lv_at hl 0 rfl) ?_
        refine rg_53 C hP wm_208 dX12_alike_74 ?_
        refine lv_iload_n hx hb dX12_alike_77 rfl (lv_at hl 2 rfl) ?_
        refine ra_53 (f := (σ.2.2.1 53)) C hP rfl (v_alike_10 σ k0 k1 x3 x4 x6 x7 x8 x10 hpre_0 hpre_1 hpre_2 hpre_3 hpre_4 hpre_5 hr1 ex3 tx3 ex4 tx4 c5 ex6 tx6 ex7 tx7 tx8 c9 ex10 tx10) dX12_alike_78 (fun x11 ex11 => ?_)
        have tx11 : x11.toInt = ((σ.2.2.1 53) k1.toNatClampNeg).toInt := by rw [ex11]
        refine W.lcmp hx hb dX12_alike_79 ?_
        refine lv_topi (fun x12 ex12 => ?_)
        have tx12 : (x12.toInt = 0 ↔ x10.toInt = x11.toInt) ∧ (x12.toInt < 0 ↔ x10.toInt < x11.toInt) := z_lcmp ex12 rfl rfl
        refine lv_if_ne (tgt := 87) hx hb dX12_alike_80 (by decide) (fun c13 => ?_) (fun c13 => ?_)
        · have c13 : ¬ x12.toInt = 0 := by have h := z_ne c13; rw [show (0 : Int32).toInt = 0 from by decide +kernel] at h; exact h
          refine lv_iconst (v := 0) hx hb dX12_alike_87 (by decide +kernel) ?_
          exact r_retz C () (v_alike_5  ) ⟨trivial, (v_alike_11 σ k0 k1 r1 x3 x4 x6 x7 x8 x10 x11 x12 hpre_0 hpre_1 hpre_2 hpre_3 hpre_4 hpre_5 hr1 c2 ex3 tx3 ex4 tx4 c5 ex6 tx6 ex7 tx7 tx8 c9 ex10 tx10 ex11 tx11 tx12 c13)⟩ hP hS dX12_alike_88
        · have c13 : x12.toInt = 0 := by have h := z_eq c13; rw [show (0 : Int32).toInt = 0 from by decide +kernel] at h; exact h
          refine lv_iconst (v := 1) hx hb dX12_alike_83 (by decide +kernel) ?_
          refine lv_goto (tgt := 88) hx hb dX12_alike_84 (by decide) ?_
          exact r_retz C () (v_alike_13  ) ⟨trivial, (v_alike_12 σ k0 k1 r1 x3 x4 x6 x7 x8 x10 x11 x12 hpre_0 hpre_1 hpre_2 hpre_3 hpre_4 hpre_5 hr1 c2 ex3 tx3 ex4 tx4 c5 ex6 tx6 ex7 tx7 tx8 c9 ex10 tx10 ex11 tx11 tx12 c13)⟩ hP hS dX12_alike_88
  · have c2 : ¬ r1.toInt = 0 := by have h := z_ne c2; rw [show (0 : Int32).toInt = 0 from by decide +kernel] at h; exact h
    have hr1v : r1.toInt = 1 := hr1.elim (fun h9 => absurd h9.1 c2) (fun h9 => h9.1)
    have hr1 : ((σ.2.1 51) k0.toNatClampNeg).toInt = 2 ∨ ((σ.2.1 51) k0.toNatClampNeg).toInt = 3 := bq_t hr1 c2
    refine lv_aload_n hx hb dX12_alike_8 rfl (lv_at hl 0 rfl) ?_
    refine lv_iload_n hx hb dX12_alike_9 rfl (lv_at hl 2 rfl) ?_
    refine r_callVi (As := [.int k1]) (rest := []) C hP hS hl.1 ⟨Nat.zero_le _, Nat.zero_le _⟩ (M_isNumber l D cy sz0 sa ad σ H.size k1 (v_alike_14 σ k0 k1 hpre_0 hpre_1 hpre_2 hpre_3 hpre_4 hpre_5 hr1)) (n := 1) ⟨wm_295, wm_281, by decide +kernel⟩ ⟨wm_296, wm_297, wm_10⟩ rfl rfl (lv_room (Nat.le_of_ble_eq_true rfl)) ⟨Nat.le_of_ble_eq_true rfl, Nat.le_of_ble_eq_true rfl⟩ dX12_alike_10 (fun r14 u H locs hr14 hP hS => ?_)
    have hr14 : (r14.toInt = 0 ∧ ¬ (((σ.2.1 51) k1.toNatClampNeg).toInt = 2 ∨ ((σ.2.1 51) k1.toNatClampNeg).toInt = 3)) ∨ (r14.toInt = 1 ∧ (((σ.2.1 51) k1.toNatClampNeg).toInt = 2 ∨ ((σ.2.1 51) k1.toNatClampNeg).toInt = 3)) := hr14
    refine lv_if_eq (tgt := 36) hx hb dX12_alike_13 (by decide) (fun c15 => ?_) (fun c15 => ?_)
    · have c15 : r14.toInt = 0 := by have h := z_eq c15; rw [show (0 : Int32).toInt = 0 from by decide +kernel] at h; exact h
      have hr14 : ¬ (((σ.2.1 51) k1.toNatClampNeg).toInt = 2 ∨ ((σ.2.1 51) k1.toNatClampNeg).toInt = 3) := bq_f hr14 c15
      refine lv_aload_n hx hb dX12_alike_36 rfl (lv_at hl 0 rfl) ?_
      refine rg_51 C hP wm_205 dX12_alike_37 ?_
      refine lv_iload_n hx hb dX12_alike_40 rfl (lv_at hl 1 rfl) ?_
      refine ra_51 (f := (σ.2.1 51)) C hP rfl (v_alike_15 σ k0 k1 hpre_0 hpre_1 hpre_2 hpre_3 hpre_4 hpre_5 hr1 hr14) dX12_alike_41 (fun x16 ex16 => ?_)
      have tx16 : x16.toInt = ((σ.2.1 51) k0.toNatClampNeg).toInt := by rw [ex16]
      refine lv_aload_n hx hb dX12_alike_42 rfl (lv_at hl 0 rfl) ?_
      refine rg_51 C hP wm_205 dX12_alike_43 ?_
      refine lv_iload_n hx hb dX12_alike_46 rfl (lv_at hl 2 rfl) ?_
      refine ra_51 (f := (σ.2.1 51)) C hP rfl (v_alike_16 σ k0 k1 x16 hpre_0 hpre_1 hpre_2 hpre_3 hpre_4 hpre_5 hr1 hr14 ex16 tx16) dX12_alike_47 (fun x17 ex17 => ?_)
      have tx17 : x17.toInt = ((σ.2.1 51) k1.toNatClampNeg).toInt := by rw [ex17]
      refine lv_icmp_ne (tgt := 87) hx hb dX12_alike_48 (by decide) (fun c18 => ?_) (fun c18 => ?_)
      · have c18 : ¬ x16.toInt = x17.toInt := by have h := z_ne c18; exact h
        refine lv_iconst (v := 0) hx hb dX12_alike_87 (by decide +kernel) ?_
        exact r_retz C () (v_alike_5  ) ⟨trivial, (v_alike_17 σ k0 k1 r1 r14 x16 x17 hpre_0 hpre_1 hpre_2 hpre_3 hpre_4 hpre_5 hr1 c2 hr1v hr14 c15 ex16 tx16 ex17 tx17 c18)⟩ hP hS dX12_alike_88
      · have c18 : x16.toInt = x17.toInt := by have h := z_eq c18; exact h
        refine lv_aload_n hx hb dX12_alike_51 rfl (lv_at hl 0 rfl) ?_
        refine rg_52 C hP wm_206 dX12_alike_52 ?_
        refine lv_iload_n hx hb dX12_alike_55 rfl (lv_at hl 1 rfl) ?_
        refine ra_52 (f := (σ.2.2.1 52)) C hP rfl (v_alike_18 σ k0 k1 x16 x17 hpre_0 hpre_1 hpre_2 hpre_3 hpre_4 hpre_5 hr1 hr14 ex16 tx16 ex17 tx17 c18) dX12_alike_56 (fun x19 ex19 => ?_)
        have tx19 : x19.toInt = ((σ.2.2.1 52) k0.toNatClampNeg).toInt := by rw [ex19]
        refine lv_aload_n hx hb dX12_alike_57 rfl (lv_at hl 0 rfl) ?_
        refine rg_52 C hP wm_206 dX12_alike_58 ?_
        refine lv_iload_n hx hb dX12_alike_61 rfl (lv_at hl 2 rfl) ?_
        refine ra_52 (f := (σ.2.2.1 52)) C hP rfl (v_alike_19 σ k0 k1 x16 x17 x19 hpre_0 hpre_1 hpre_2 hpre_3 hpre_4 hpre_5 hr1 hr14 ex16 tx16 ex17 tx17 c18 ex19 tx19) dX12_alike_62 (fun x20 ex20 => ?_)
        have tx20 : x20.toInt = ((σ.2.2.1 52) k1.toNatClampNeg).toInt := by rw [ex20]
        refine W.lcmp hx hb dX12_alike_63 ?_
        refine lv_topi (fun x21 ex21 => ?_)
        have tx21 : (x21.toInt = 0 ↔ x19.toInt = x20.toInt) ∧ (x21.toInt < 0 ↔ x19.toInt < x20.toInt) := z_lcmp ex21 rfl rfl
        refine lv_if_ne (tgt := 87) hx hb dX12_alike_64 (by decide) (fun c22 => ?_) (fun c22 => ?_)
        · have c22 : ¬ x21.toInt = 0 := by have h := z_ne c22; rw [show (0 : Int32).toInt = 0 from by decide +kernel] at h; exact h
          refine lv_iconst (v := 0) hx hb dX12_alike_87 (by decide +kernel) ?_
          exact r_retz C () (v_alike_5  ) ⟨trivial, (v_alike_20 σ k0 k1 r1 r14 x16 x17 x19 x20 x21 hpre_0 hpre_1 hpre_2 hpre_3 hpre_4 hpre_5 hr1 c2 hr1v hr14 c15 ex16 tx16 ex17 tx17 c18 ex19 tx19 ex20 tx20 tx21 c22)⟩ hP hS dX12_alike_88
        · have c22 : x21.toInt = 0 := by have h := z_eq c22; rw [show (0 : Int32).toInt = 0 from by decide +kernel] at h; exact h
          refine lv_aload_n hx hb dX12_alike_67 rfl (lv_at hl 0 rfl) ?_
          refine rg_53 C hP wm_208 dX12_alike_68 ?_
          refine lv_iload_n hx hb dX12_alike_71 rfl (lv_at hl 1 rfl) ?_
          refine ra_53 (f := (σ.2.2.1 53)) C hP rfl (v_alike_21 σ k0 k1 x16 x17 x19 x20 x21 hpre_0 hpre_1 hpre_2 hpre_3 hpre_4 hpre_5 hr1 hr14 ex16 tx16 ex17 tx17 c18 ex19 tx19 ex20 tx20 tx21 c22) dX12_alike_72 (fun x23 ex23 => ?_)
          have tx23 : x23.toInt = ((σ.2.2.1 53) k0.toNatClampNeg).toInt := by rw [ex23]
          refine lv_aload_n hx hb dX12_alike_73 rfl (lv_at hl 0 rfl) ?_
          refine rg_53 C hP wm_208 dX12_alike_74 ?_
          refine lv_iload_n hx hb dX12_alike_77 rfl (lv_at hl 2 rfl) ?_
          refine ra_53 (f := (σ.2.2.1 53)) C hP rfl (v_alike_22 σ k0 k1 x16 x17 x19 x20 x21 x23 hpre_0 hpre_1 hpre_2 hpre_3 hpre_4 hpre_5 hr1 hr14 ex16 tx16 ex17 tx17 c18 ex19 tx19 ex20 tx20 tx21 c22 ex23 tx23) dX12_alike_78 (fun x24 ex24 => ?_)
          have tx24 : x24.toInt = ((σ.2.2.1 53) k1.toNatClampNeg).toInt := by rw [ex24]
          refine W.lcmp hx hb dX12_alike_79 ?_
          refine lv_topi (fun x25 ex25 => ?_)
          have tx25 : (x25.toInt = 0 ↔ x23.toInt = x24.toInt) ∧ (x25.toInt < 0 ↔ x23.toInt < x24.toInt) := z_lcmp ex25 rfl rfl
          refine lv_if_ne (tgt := 87) hx hb dX12_alike_80 (by decide) (fun c26 => ?_) (fun c26 => ?_)
          · have c26 : ¬ x25.toInt = 0 := by have h := z_ne c26; rw [show (0 : Int32).toInt = 0 from by decide +kernel] at h; exact h
            refine lv_iconst (v := 0) hx hb dX12_alike_87 (by decide +kernel) ?_
            exact r_retz C () (v_alike_5  ) ⟨trivial, (v_alike_23 σ k0 k1 r1 r14 x16 x17 x19 x20 x21 x23 x24 x25 hpre_0 hpre_1 hpre_2 hpre_3 hpre_4 hpre_5 hr1 c2 hr1v hr14 c15 ex16 tx16 ex17 tx17 c18 ex19 tx19 ex20 tx20 tx21 c22 ex23 tx23 ex24 tx24 tx25 c26)⟩ hP hS dX12_alike_88
          · have c26 : x25.toInt = 0 := by have h := z_eq c26; rw [show (0 : Int32).toInt = 0 from by decide +kernel] at h; exact h
            refine lv_iconst (v := 1) hx hb dX12_alike_83 (by decide +kernel) ?_
            refine lv_goto (tgt := 88) hx hb dX12_alike_84 (by decide) ?_
            exact r_retz C () (v_alike_13  ) ⟨trivial, (v_alike_24 σ k0 k1 r1 r14 x16 x17 x19 x20 x21 x23 x24 x25 hpre_0 hpre_1 hpre_2 hpre_3 hpre_4 hpre_5 hr1 c2 hr1v hr14 c15 ex16 tx16 ex17 tx17 c18 ex19 tx19 ex20 tx20 tx21 c22 ex23 tx23 ex24 tx24 tx25 c26)⟩ hP hS dX12_alike_88
    · have c15 : ¬ r14.toInt = 0 := by have h := z_ne c15; rw [show (0 : Int32).toInt = 0 from by decide +kernel] at h; exact h
      have hr14v : r14.toInt = 1 := hr14.elim (fun h9 => absurd h9.1 c15) (fun h9 => h9.1)
      have hr14 : ((σ.2.1 51) k1.toNatClampNeg).toInt = 2 ∨ ((σ.2.1 51) k1.toNatClampNeg).toInt = 3 := bq_t hr14 c15
      refine lv_aload_n hx hb dX12_alike_16 rfl (lv_at hl 0 rfl) ?_
      refine lv_iload_n hx hb dX12_alike_17 rfl (lv_at hl 1 rfl) ?_
      refine r_callVd (As := [.int k0]) (rest := []) C hP hS hl.1 ⟨Nat.zero_le _, Nat.zero_le _⟩ (M_realOf l D cy sz0 sa ad σ H.size k0 (v_alike_25 σ k0 k1 hpre_0 hpre_1 hpre_2 hpre_3 hpre_4 hpre_5 hr1 hr14)) (n := 1) ⟨wm_287, wm_282, by decide +kernel⟩ ⟨wm_288, wm_289, wm_10⟩ rfl rfl (lv_room (Nat.le_of_ble_eq_true rfl)) ⟨Nat.le_of_ble_eq_true rfl, Nat.le_of_ble_eq_true rfl⟩ dX12_alike_18 (fun r27 u H locs hr27 hP hS => ?_)
      obtain ⟨hr27, hr27y⟩ := hr27
      have hr27y : ∀ v9 : QV, QAT (qH (σ.2.1 36) (σ.2.1 37) (σ.2.1 38) (σ.2.1 39) (σ.2.1 40) (σ.2.1 41) (σ.2.1 42) (σ.2.1 43) (σ.2.1 44) (σ.2.1 45) (σ.2.1 46) (σ.2.1 48)) (σ.1 47).toInt ((σ.2.1 51), (σ.2.2.1 52), (σ.2.2.1 53), (σ.2.2.2)) k0.toNatClampNeg v9 → qNum v9 = true → r27 = qRe v9 := hr27y
      have hr27 : FN r27 := hr27
      refine lv_aload_n hx hb dX12_alike_21 rfl (lv_at hl 0 rfl) ?_
      refine lv_iload_n hx hb dX12_alike_22 rfl (lv_at hl 2 rfl) ?_
      refine r_callVd (As := [.int k1]) (rest := [.double r27]) C hP hS hl.1 ⟨Nat.zero_le _, Nat.zero_le _⟩ (M_realOf l D cy sz0 sa ad σ H.size k1 (v_alike_26 σ k0 k1 hpre_0 hpre_1 hpre_2 hpre_3 hpre_4 hpre_5 hr1 hr14)) (n := 1) ⟨wm_287, wm_282, by decide +kernel⟩ ⟨wm_288, wm_289, wm_10⟩ rfl rfl (lv_room (Nat.le_of_ble_eq_true rfl)) ⟨Nat.le_of_ble_eq_true rfl, Nat.le_of_ble_eq_true rfl⟩ dX12_alike_23 (fun r28 u H locs hr28 hP hS => ?_)
      obtain ⟨hr28, hr28y⟩ := hr28
      have hr28y : ∀ v9 : QV, QAT (qH (σ.2.1 36) (σ.2.1 37) (σ.2.1 38) (σ.2.1 39) (σ.2.1 40) (σ.2.1 41) (σ.2.1 42) (σ.2.1 43) (σ.2.1 44) (σ.2.1 45) (σ.2.1 46) (σ.2.1 48)) (σ.1 47).toInt ((σ.2.1 51), (σ.2.2.1 52), (σ.2.2.1 53), (σ.2.2.2)) k1.toNatClampNeg v9 → qNum v9 = true → r28 = qRe v9 := hr28y
      have hr28 : FN r28 := hr28
      refine lv_dcmp hx hb dX12_alike_26 ?_
      refine lv_topi (fun x29 ex29 => ?_)
      refine lv_if_ne (tgt := 34) hx hb dX12_alike_27 (by decide) (fun c30 => ?_) (fun c30 => ?_)
      · have c30 : ¬ x29.toInt = 0 := by have h := z_ne c30; rw [show (0 : Int32).toInt = 0 from by decide +kernel] at h; exact h
        refine lv_iconst (v := 0) hx hb dX12_alike_34 (by decide +kernel) ?_
        exact r_retz C () (v_alike_5  ) ⟨trivial, (v_alike_27 σ k0 k1 r1 r14 r27 r28 x29 hpre_0 hpre_1 hpre_2 hpre_3 hpre_4 hpre_5 hr1 c2 hr1v hr14 c15 hr14v hr27y hr27 hr28y hr28 ex29 c30)⟩ hP hS dX12_alike_35
      · have c30 : x29.toInt = 0 := by have h := z_eq c30; rw [show (0 : Int32).toInt = 0 from by decide +kernel] at h; exact h
        refine lv_iconst (v := 1) hx hb dX12_alike_30 (by decide +kernel) ?_
        refine lv_goto (tgt := 35) hx hb dX12_alike_31 (by decide) ?_
        exact r_retz C () (v_alike_13  ) ⟨trivial, (v_alike_28 σ k0 k1 r1 r14 r27 r28 x29 hpre_0 hpre_1 hpre_2 hpre_3 hpre_4 hpre_5 hr1 c2 hr1v hr14 c15 hr14v hr27y hr27 hr28y hr28 ex29 c30)⟩ hP hS dX12_alike_35

-- pre:isNumber@41 @41
theorem v_compare_1 (σ : RS) (k0 : Int32) (k1 : Int32) (hpre_0 : 0 ≤ k0.toInt) (hpre_1 : k0.toInt < 980) (hpre_2 : 0 ≤ k1.toInt) (hpre_3 : k1.toInt < 980) (hpre_4 : ((σ.2.1 51) k0.toNatClampNeg).toInt = 3 → FN ((σ.2.2.2) k0.toNatClampNeg)) (hpre_5 : ((σ.2.1 51) k1.toNatClampNeg).toInt = 3 → FN ((σ.2.2.2) k1.toNatClampNeg)) : 0 ≤ k0.toInt ∧ k0.toInt < 980 := by
  refine ⟨?_, ?_⟩ <;> first | assumption | omega | (subst_vars; omega) | trivial
-- pre:set@172 @172
theorem v_compare_2 (σ : RS) (k0 : Int32) (k1 : Int32) (hpre_0 : 0 ≤ k0.toInt) (hpre_1 : k0.toInt < 980) (hpre_2 : 0 ≤ k1.toInt) (hpre_3 : k1.toInt < 980) (hpre_4 : ((σ.2.1 51) k0.toNatClampNeg).toInt = 3 → FN ((σ.2.2.2) k0.toNatClampNeg)) (hpre_5 : ((σ.2.1 51) k1.toNatClampNeg).toInt = 3 → FN ((σ.2.2.2) k1.toNatClampNeg)) (hr2 : ¬ (((σ.2.1 51) k0.toNatClampNeg).toInt = 2 ∨ ((σ.2.1 51) k0.toNatClampNeg).toInt = 3)) : 0 ≤ k0.toInt ∧ k0.toInt < 980 := by
  refine ⟨?_, ?_⟩ <;> first | assumption | omega | (subst_vars; omega) | trivial
-- post @175
theorem v_compare_3 (σ : RS) (k0 : Int32) (k1 : Int32) (hpre_0 : 0 ≤ k0.toInt) (hpre_1 : k0.toInt < 980) (hpre_2 : 0 ≤ k1.toInt) (hpre_3 : k1.toInt < 980) (hpre_4 : ((σ.2.1 51) k0.toNatClampNeg).toInt = 3 → FN ((σ.2.2.2) k0.toNatClampNeg)) (hpre_5 : ((σ.2.1 51) k1.toNatClampNeg).toInt = 3 → FN ((σ.2.2.2) k1.toNatClampNeg)) (hr2 : ¬ (((σ.2.1 51) k0.toNatClampNeg).toInt = 2 ∨ ((σ.2.1 51) k0.toNatClampNeg).toInt = 3)) : 0 ≤ (1 : Int32).toInt ∧ (1 : Int32).toInt ≤ 11 ∧ Cell1 (σ.2.1 51) (upd (σ.2.1 51) k0.toNatClampNeg (1 : Int32)) (σ.2.2.1 52) (vp_updL (σ.2.2.1 52) k0.toNatClampNeg (0 : Int64)) (σ.2.2.2) (vf_upd (σ.2.2.2) k0.toNatClampNeg FP.dconst0) k0.toNatClampNeg (fun k v r => k = 1) := by
  have q1 : (1 : Int32).toInt = 1 := by decide +kernel
  have ql0 : (0 : Int64).toInt = 0 := by decide +kernel
  exact ⟨by omega, by omega, _, _, _, rfl, rfl, rfl, q1⟩
-- post2 @175
theorem v_compare_4 (σ : RS) (k0 : Int32) (k1 : Int32) (k2 : Int32) (r2 : Int32) (hpre_0 : 0 ≤ k0.toInt) (hpre_1 : k0.toInt < 980) (hpre_2 : 0 ≤ k1.toInt) (hpre_3 : k1.toInt < 980) (hpre_4 : ((σ.2.1 51) k0.toNatClampNeg).toInt = 3 → FN ((σ.2.2.2) k0.toNatClampNeg)) (hpre_5 : ((σ.2.1 51) k1.toNatClampNeg).toInt = 3 → FN ((σ.2.2.2) k1.toNatClampNeg)) (hpre_6 : (σ.1 56).toInt = 0) (c1 : k2.toInt < 25) (hr2 : ¬ (((σ.2.1 51) k0.toNatClampNeg).toInt = 2 ∨ ((σ.2.1 51) k0.toNatClampNeg).toInt = 3)) (c3 : r2.toInt = 0) : ∀ v9 w9 : QV, QAT (qH (σ.2.1 36) (σ.2.1 37) (σ.2.1 38) (σ.2.1 39) (σ.2.1 40) (σ.2.1 41) (σ.2.1 42) (σ.2.1 43) (σ.2.1 44) (σ.2.1 45) (σ.2.1 46) (σ.2.1 48)) (σ.1 47).toInt ((σ.2.1 51), (σ.2.2.1 52), (σ.2.2.1 53), (σ.2.2.2)) k0.toNatClampNeg v9 → QAT (qH (σ.2.1 36) (σ.2.1 37) (σ.2.1 38) (σ.2.1 39) (σ.2.1 40) (σ.2.1 41) (σ.2.1 42) (σ.2.1 43) (σ.2.1 44) (σ.2.1 45) (σ.2.1 46) (σ.2.1 48)) (σ.1 47).toInt ((σ.2.1 51), (σ.2.2.1 52), (σ.2.2.1 53), (σ.2.2.2)) k1.toNatClampNeg w9 → (σ.1 56).toInt = 0 → (21 ≤ k2.toInt ∧ k2.toInt ≤ 26) → QRES (qH (σ.2.1 36) (σ.2.1 37) (σ.2.1 38) (σ.2.1 39) (σ.2.1 40) (σ.2.1 41) (σ.2.1 42) (σ.2.1 43) (σ.2.1 44) (σ.2.1 45) (σ.2.1 46) (σ.2.1 48)) (σ.1 47).toInt ((σ.2.1 51), (σ.2.2.1 52), (σ.2.2.1 53), (σ.2.2.2)) ((upd (σ.2.1 51) k0.toNatClampNeg (1 : Int32)), (vp_updL (σ.2.2.1 52) k0.toNatClampNeg (0 : Int64)), (vp_updL (σ.2.2.1 53) k0.toNatClampNeg (0 : Int64)), (vf_upd (σ.2.2.2) k0.toNatClampNeg FP.dconst0)) k0.toNatClampNeg (1 : Int32).toInt (qComp v9 w9 k2.toInt) := by
  have q1 : (1 : Int32).toInt = 1 := by decide +kernel
  have ql0 : (0 : Int64).toInt = 0 := by decide +kernel
  intro v9 w9 h9 g9 h0 hs
  have kd := h9.kd
  have kq := g9.kd
  dsimp only at kd kq
  rw [qComp_x (by omega) (by first | exact Or.inl (decide_eq_false (by omega)) | exact Or.inr (decide_eq_false (by omega)))]
  exact ⟨by decide +kernel, by decide, by decide, QX.put⟩
-- pre:isNumber@49 @49
theorem v_compare_5 (σ : RS) (k0 : Int32) (k1 : Int32) (hpre_0 : 0 ≤ k0.toInt) (hpre_1 : k0.toInt < 980) (hpre_2 : 0 ≤ k1.toInt) (hpre_3 : k1.toInt < 980) (hpre_4 : ((σ.2.1 51) k0.toNatClampNeg).toInt = 3 → FN ((σ.2.2.2) k0.toNatClampNeg)) (hpre_5 : ((σ.2.1 51) k1.toNatClampNeg).toInt = 3 → FN ((σ.2.2.2) k1.toNatClampNeg)) (hr2 : ((σ.2.1 51) k0.toNatClampNeg).toInt = 2 ∨ ((σ.2.1 51) k0.toNatClampNeg).toInt = 3) : 0 ≤ k1.toInt ∧ k1.toInt < 980 := by
  refine ⟨?_, ?_⟩ <;> first | assumption | omega | (subst_vars; omega) | trivial
-- pre:realOf@65 @65
theorem v_compare_6 (σ : RS) (k0 : Int32) (k1 : Int32) (hpre_0 : 0 ≤ k0.toInt) (hpre_1 : k0.toInt < 980) (hpre_2 : 0 ≤ k1.toInt) (hpre_3 : k1.toInt < 980) (hpre_4 : ((σ.2.1 51) k0.toNatClampNeg).toInt = 3 → FN ((σ.2.2.2) k0.toNatClampNeg)) (hpre_5 : ((σ.2.1 51) k1.toNatClampNeg).toInt = 3 → FN ((σ.2.2.2) k1.toNatClampNeg)) (hr2 : ((σ.2.1 51) k0.toNatClampNeg).toInt = 2 ∨ ((σ.2.1 51) k0.toNatClampNeg).toInt = 3) (hr6 : ((σ.2.1 51) k1.toNatClampNeg).toInt = 2 ∨ ((σ.2.1 51) k1.toNatClampNeg).toInt = 3) : 0 ≤ k0.toInt ∧ k0.toInt < 980 ∧ (((σ.2.1 51) k0.toNatClampNeg).toInt = 3 → FN ((σ.2.2.2) k0.toNatClampNeg)) := by
  refine ⟨?_, ?_, ?_⟩ <;> first | assumption | omega | (subst_vars; omega) | trivial
-- pre:realOf@72 @72
theorem v_compare_7 (σ : RS) (k0 : Int32) (k1 : Int32) (hpre_0 : 0 ≤ k0.toInt) (hpre_1 : k0.toInt < 980) (hpre_2 : 0 ≤ k1.toInt) (hpre_3 : k1.toInt < 980) (hpre_4 : ((σ.2.1 51) k0.toNatClampNeg).toInt = 3 → FN ((σ.2.2.2) k0.toNatClampNeg)) (hpre_5 : ((σ.2.1 51) k1.toNatClampNeg).toInt = 3 → FN ((σ.2.2.2) k1.toNatClampNeg)) (hr2 : ((σ.2.1 51) k0.toNatClampNeg).toInt = 2 ∨ ((σ.2.1 51) k0.toNatClampNeg).toInt = 3) (hr6 : ((σ.2.1 51) k1.toNatClampNeg).toInt = 2 ∨ ((σ.2.1 51) k1.toNatClampNeg).toInt = 3) : 0 ≤ k1.toInt ∧ k1.toInt < 980 ∧ (((σ.2.1 51) k1.toNatClampNeg).toInt = 3 → FN ((σ.2.2.2) k1.toNatClampNeg)) := by
  refine ⟨?_, ?_, ?_⟩ <;> first | assumption | omega | (subst_vars; omega) | trivial
-- pre:set@172 @172
theorem v_compare_8 (σ : RS) (k0 : Int32) (k1 : Int32) (hpre_0 : 0 ≤ k0.toInt) (hpre_1 : k0.toInt < 980) (hpre_2 : 0 ≤ k1.toInt) (hpre_3 : k1.toInt < 980) (hpre_4 : ((σ.2.1 51) k0.toNatClampNeg).toInt = 3 → FN ((σ.2.2.2) k0.toNatClampNeg)) (hpre_5 : ((σ.2.1 51) k1.toNatClampNeg).toInt = 3 → FN ((σ.2.2.2) k1.toNatClampNeg)) (hr2 : ((σ.2.1 51) k0.toNatClampNeg).toInt = 2 ∨ ((σ.2.1 51) k0.toNatClampNeg).toInt = 3) (hr6 : ((σ.2.1 51) k1.toNatClampNeg).toInt = 2 ∨ ((σ.2.1 51) k1.toNatClampNeg).toInt = 3) : 0 ≤ k0.toInt ∧ k0.toInt < 980 := by
  refine ⟨?_, ?_⟩ <;> first | assumption | omega | (subst_vars; omega) | trivial
-- post @175
theorem v_compare_9 (σ : RS) (k0 : Int32) (k1 : Int32) (hpre_0 : 0 ≤ k0.toInt) (hpre_1 : k0.toInt < 980) (hpre_2 : 0 ≤ k1.toInt) (hpre_3 : k1.toInt < 980) (hpre_4 : ((σ.2.1 51) k0.toNatClampNeg).toInt = 3 → FN ((σ.2.2.2) k0.toNatClampNeg)) (hpre_5 : ((σ.2.1 51) k1.toNatClampNeg).toInt = 3 → FN ((σ.2.2.2) k1.toNatClampNeg)) (hpre_6 : (σ.1 56).toInt = 0) (hr2 : ((σ.2.1 51) k0.toNatClampNeg).toInt = 2 ∨ ((σ.2.1 51) k0.toNatClampNeg).toInt = 3) (hr6 : ((σ.2.1 51) k1.toNatClampNeg).toInt = 2 ∨ ((σ.2.1 51) k1.toNatClampNeg).toInt = 3) : 0 ≤ (σ.1 56).toInt ∧ (σ.1 56).toInt ≤ 11 ∧ Cell1 (σ.2.1 51) (upd (σ.2.1 51) k0.toNatClampNeg (1 : Int32)) (σ.2.2.1 52) (vp_updL (σ.2.2.1 52) k0.toNatClampNeg (0 : Int64)) (σ.2.2.2) (vf_upd (σ.2.2.2) k0.toNatClampNeg FP.dconst0) k0.toNatClampNeg (fun k v r => k = 1) := by
  have q1 : (1 : Int32).toInt = 1 := by decide +kernel
  have ql0 : (0 : Int64).toInt = 0 := by decide +kernel
  exact ⟨by omega, by omega, _, _, _, rfl, rfl, rfl, q1⟩
-- post2 @175
theorem v_compare_10 (σ : RS) (k0 : Int32) (k1 : Int32) (k2 : Int32) (r2 : Int32) (r6 : Int32) (r8 : UInt64) (r9 : UInt64) (x13 : Int32) (hpre_0 : 0 ≤ k0.toInt) (hpre_1 : k0.toInt < 980) (hpre_2 : 0 ≤ k1.toInt) (hpre_3 : k1.toInt < 980) (hpre_4 : ((σ.2.1 51) k0.toNatClampNeg).toInt = 3 → FN ((σ.2.2.2) k0.toNatClampNeg)) (hpre_5 : ((σ.2.1 51) k1.toNatClampNeg).toInt = 3 → FN ((σ.2.2.2) k1.toNatClampNeg)) (hpre_6 : (σ.1 56).toInt = 0) (c1 : k2.toInt < 25) (hr2 : ((σ.2.1 51) k0.toNatClampNeg).toInt = 2 ∨ ((σ.2.1 51) k0.toNatClampNeg).toInt = 3) (c3 : ¬ r2.toInt = 0) (hr2v : r2.toInt = 1) (hr6 : ((σ.2.1 51) k1.toNatClampNeg).toInt = 2 ∨ ((σ.2.1 51) k1.toNatClampNeg).toInt = 3) (c7 : ¬ r6.toInt = 0) (hr6v : r6.toInt = 1) (hr8y : ∀ v9 : QV, QAT (qH (σ.2.1 36) (σ.2.1 37) (σ.2.1 38) (σ.2.1 39) (σ.2.1 40) (σ.2.1 41) (σ.2.1 42) (σ.2.1 43) (σ.2.1 44) (σ.2.1 45) (σ.2.1 46) (σ.2.1 48)) (σ.1 47).toInt ((σ.2.1 51), (σ.2.2.1 52), (σ.2.2.1 53), (σ.2.2.2)) k0.toNatClampNeg v9 → qNum v9 = true → r8 = qRe v9) (hr8 : FN r8) (hr9y : ∀ v9 : QV, QAT (qH (σ.2.1 36) (σ.2.1 37) (σ.2.1 38) (σ.2.1 39) (σ.2.1 40) (σ.2.1 41) (σ.2.1 42) (σ.2.1 43) (σ.2.1 44) (σ.2.1 45) (σ.2.1 46) (σ.2.1 48)) (σ.1 47).toInt ((σ.2.1 51), (σ.2.2.1 52), (σ.2.2.1 53), (σ.2.2.2)) k1.toNatClampNeg v9 → qNum v9 = true → r9 = qRe v9) (hr9 : FN r9) (c10 : ¬ k2.toInt = 21) (c11 : ¬ k2.toInt = 22) (c12 : ¬ k2.toInt = 23) (ex13 : x13 = Op.cmpValue (FP.dcmp r8 r9) .l) (c14 : x13.toInt < 0) : ∀ v9 w9 : QV, QAT (qH (σ.2.1 36) (σ.2.1 37) (σ.2.1 38) (σ.2.1 39) (σ.2.1 40) (σ.2.1 41) (σ.2.1 42) (σ.2.1 43) (σ.2.1 44) (σ.2.1 45) (σ.2.1 46) (σ.2.1 48)) (σ.1 47).toInt ((σ.2.1 51), (σ.2.2.1 52), (σ.2.2.1 53), (σ.2.2.2)) k0.toNatClampNeg v9 → QAT (qH (σ.2.1 36) (σ.2.1 37) (σ.2.1 38) (σ.2.1 39) (σ.2.1 40) (σ.2.1 41) (σ.2.1 42) (σ.2.1 43) (σ.2.1 44) (σ.2.1 45) (σ.2.1 46) (σ.2.1 48)) (σ.1 47).toInt ((σ.2.1 51), (σ.2.2.1 52), (σ.2.2.1 53), (σ.2.2.2)) k1.toNatClampNeg w9 → (σ.1 56).toInt = 0 → (21 ≤ k2.toInt ∧ k2.toInt ≤ 26) → QRES (qH (σ.2.1 36) (σ.2.1 37) (σ.2.1 38) (σ.2.1 39) (σ.2.1 40) (σ.2.1 41) (σ.2.1 42) (σ.2.1 43) (σ.2.1 44) (σ.2.1 45) (σ.2.1 46) (σ.2.1 48)) (σ.1 47).toInt ((σ.2.1 51), (σ.2.2.1 52), (σ.2.2.1 53), (σ.2.2.2)) ((upd (σ.2.1 51) k0.toNatClampNeg (1 : Int32)), (vp_updL (σ.2.2.1 52) k0.toNatClampNeg (0 : Int64)), (vp_updL (σ.2.2.1 53) k0.toNatClampNeg (0 : Int64)), (vf_upd (σ.2.2.2) k0.toNatClampNeg FP.dconst0)) k0.toNatClampNeg (σ.1 56).toInt (qComp v9 w9 k2.toInt) := by
  have q1 : (1 : Int32).toInt = 1 := by decide +kernel
  have ql0 : (0 : Int64).toInt = 0 := by decide +kernel
  intro v9 w9 h9 g9 h0 hs
  have kd := h9.kd
  have kq := g9.kd
  dsimp only at kd kq
  have nv : qNum v9 = true := decide_eq_true (by omega)
  have nw : qNum w9 = true := decide_eq_true (by omega)
  have a := hr8y v9 h9 nv
  have b := hr9y w9 g9 nw
  have z := ex13
  rw [a, b] at z
  rw [qComp_n (by omega) nv nw]
  refine ⟨h0, ?_⟩
  rw [if_neg (by omega), if_neg (by omega), if_neg (by omega)]
  rw [show qGe (qRe v9) (qRe w9) = false from decide_eq_false (by rw [← z]; omega)]
  exact QW.bool q1 (by decide +kernel) (by decide +kernel)
-- post @175
theorem v_compare_11 (σ : RS) (k0 : Int32) (k1 : Int32) (hpre_0 : 0 ≤ k0.toInt) (hpre_1 : k0.toInt < 980) (hpre_2 : 0 ≤ k1.toInt) (hpre_3 : k1.toInt < 980) (hpre_4 : ((σ.2.1 51) k0.toNatClampNeg).toInt = 3 → FN ((σ.2.2.2) k0.toNatClampNeg)) (hpre_5 : ((σ.2.1 51) k1.toNatClampNeg).toInt = 3 → FN ((σ.2.2.2) k1.toNatClampNeg)) (hpre_6 : (σ.1 56).toInt = 0) (hr2 : ((σ.2.1 51) k0.toNatClampNeg).toInt = 2 ∨ ((σ.2.1 51) k0.toNatClampNeg).toInt = 3) (hr6 : ((σ.2.1 51) k1.toNatClampNeg).toInt = 2 ∨ ((σ.2.1 51) k1.toNatClampNeg).toInt = 3) : 0 ≤ (σ.1 56).toInt ∧ (σ.1 56).toInt ≤ 11 ∧ Cell1 (σ.2.1 51) (upd (σ.2.1 51) k0.toNatClampNeg (1 : Int32)) (σ.2.2.1 52) (vp_updL (σ.2.2.1 52) k0.toNatClampNeg (1 : Int64)) (σ.2.2.2) (vf_upd (σ.2.2.2) k0.toNatClampNeg FP.dconst0) k0.toNatClampNeg (fun k v r => k = 1) := by
  have q1 : (1 : Int32).toInt = 1 := by decide +kernel
  have ql1 : (1 : Int64).toInt = 1 := by decide +kernel
  exact ⟨by omega, by omega, _, _, _, rfl, rfl, rfl, q1⟩
-- post2 @175
theorem v_compare_12 (σ : RS) (k0 : Int32) (k1 : Int32) (k2 : Int32) (r2 : Int32) (r6 : Int32) (r8 : UInt64) (r9 : UInt64) (x13 : Int32) (hpre_0 : 0 ≤ k0.toInt) (hpre_1 : k0.toInt < 980) (hpre_2 : 0 ≤ k1.toInt) (hpre_3 : k1.toInt < 980) (hpre_4 : ((σ.2.1 51) k0.toNatClampNeg).toInt = 3 → FN ((σ.2.2.2) k0.toNatClampNeg)) (hpre_5 : ((σ.2.1 51) k1.toNatClampNeg).toInt = 3 → FN ((σ.2.2.2) k1.toNatClampNeg)) (hpre_6 : (σ.1 56).toInt = 0) (c1 : k2.toInt < 25) (hr2 : ((σ.2.1 51) k0.toNatClampNeg).toInt = 2 ∨ ((σ.2.1 51) k0.toNatClampNeg).toInt = 3) (c3 : ¬ r2.toInt = 0) (hr2v : r2.toInt = 1) (hr6 : ((σ.2.1 51) k1.toNatClampNeg).toInt = 2 ∨ ((σ.2.1 51) k1.toNatClampNeg).toInt = 3) (c7 : ¬ r6.toInt = 0) (hr6v : r6.toInt = 1) (hr8y : ∀ v9 : QV, QAT (qH (σ.2.1 36) (σ.2.1 37) (σ.2.1 38) (σ.2.1 39) (σ.2.1 40) (σ.2.1 41) (σ.2.1 42) (σ.2.1 43) (σ.2.1 44) (σ.2.1 45) (σ.2.1 46) (σ.2.1 48)) (σ.1 47).toInt ((σ.2.1 51), (σ.2.2.1 52), (σ.2.2.1 53), (σ.2.2.2)) k0.toNatClampNeg v9 → qNum v9 = true → r8 = qRe v9) (hr8 : FN r8) (hr9y : ∀ v9 : QV, QAT (qH (σ.2.1 36) (σ.2.1 37) (σ.2.1 38) (σ.2.1 39) (σ.2.1 40) (σ.2.1 41) (σ.2.1 42) (σ.2.1 43) (σ.2.1 44) (σ.2.1 45) (σ.2.1 46) (σ.2.1 48)) (σ.1 47).toInt ((σ.2.1 51), (σ.2.2.1 52), (σ.2.2.1 53), (σ.2.2.2)) k1.toNatClampNeg v9 → qNum v9 = true → r9 = qRe v9) (hr9 : FN r9) (c10 : ¬ k2.toInt = 21) (c11 : ¬ k2.toInt = 22) (c12 : ¬ k2.toInt = 23) (ex13 : x13 = Op.cmpValue (FP.dcmp r8 r9) .l) (c14 : 0 ≤ x13.toInt) : ∀ v9 w9 : QV, QAT (qH (σ.2.1 36) (σ.2.1 37) (σ.2.1 38) (σ.2.1 39) (σ.2.1 40) (σ.2.1 41) (σ.2.1 42) (σ.2.1 43) (σ.2.1 44) (σ.2.1 45) (σ.2.1 46) (σ.2.1 48)) (σ.1 47).toInt ((σ.2.1 51), (σ.2.2.1 52), (σ.2.2.1 53), (σ.2.2.2)) k0.toNatClampNeg v9 → QAT (qH (σ.2.1 36) (σ.2.1 37) (σ.2.1 38) (σ.2.1 39) (σ.2.1 40) (σ.2.1 41) (σ.2.1 42) (σ.2.1 43) (σ.2.1 44) (σ.2.1 45) (σ.2.1 46) (σ.2.1 48)) (σ.1 47).toInt ((σ.2.1 51), (σ.2.2.1 52), (σ.2.2.1 53), (σ.2.2.2)) k1.toNatClampNeg w9 → (σ.1 56).toInt = 0 → (21 ≤ k2.toInt ∧ k2.toInt ≤ 26) → QRES (qH (σ.2.1 36) (σ.2.1 37) (σ.2.1 38) (σ.2.1 39) (σ.2.1 40) (σ.2.1 41) (σ.2.1 42) (σ.2.1 43) (σ.2.1 44) (σ.2.1 45) (σ.2.1 46) (σ.2.1 48)) (σ.1 47).toInt ((σ.2.1 51), (σ.2.2.1 52), (σ.2.2.1 53), (σ.2.2.2)) ((upd (σ.2.1 51) k0.toNatClampNeg (1 : Int32)), (vp_updL (σ.2.2.1 52) k0.toNatClampNeg (1 : Int64)), (vp_updL (σ.2.2.1 53) k0.toNatClampNeg (0 : Int64)), (vf_upd (σ.2.2.2) k0.toNatClampNeg FP.dconst0)) k0.toNatClampNeg (σ.1 56).toInt (qComp v9 w9 k2.toInt) := by
  have q1 : (1 : Int32).toInt = 1 := by decide +kernel
  have ql0 : (0 : Int64).toInt = 0 := by decide +kernel
  have ql1 : (1 : Int64).toInt = 1 := by decide +kernel
  intro v9 w9 h9 g9 h0 hs
  have kd := h9.kd
  have kq := g9.kd
  dsimp only at kd kq
  have nv : qNum v9 = true := decide_eq_true (by omega)
  have nw : qNum w9 = true := decide_eq_true (by omega)
  have a := hr8y v9 h9 nv
  have b := hr9y w9 g9 nw
  have z := ex13
  rw [a, b] at z
  rw [qComp_n (by omega) nv nw]
  refine ⟨h0, ?_⟩
  rw [if_neg (by omega), if_neg (by omega), if_neg (by omega)]
  rw [show qGe (qRe v9) (qRe w9) = true from decide_eq_true (by rw [← z]; omega)]
  exact QW.bool q1 (by decide +kernel) (by decide +kernel)
-- post2 @175
theorem v_compare_13 (σ : RS) (k0 : Int32) (k1 : Int32) (k2 : Int32) (r2 : Int32) (r6 : Int32) (r8 : UInt64) (r9 : UInt64) (x19 : Int32) (hpre_0 : 0 ≤ k0.toInt) (hpre_1 : k0.toInt < 980) (hpre_2 : 0 ≤ k1.toInt) (hpre_3 : k1.toInt < 980) (hpre_4 : ((σ.2.1 51) k0.toNatClampNeg).toInt = 3 → FN ((σ.2.2.2) k0.toNatClampNeg)) (hpre_5 : ((σ.2.1 51) k1.toNatClampNeg).toInt = 3 → FN ((σ.2.2.2) k1.toNatClampNeg)) (hpre_6 : (σ.1 56).toInt = 0) (c1 : k2.toInt < 25) (hr2 : ((σ.2.1 51) k0.toNatClampNeg).toInt = 2 ∨ ((σ.2.1 51) k0.toNatClampNeg).toInt = 3) (c3 : ¬ r2.toInt = 0) (hr2v : r2.toInt = 1) (hr6 : ((σ.2.1 51) k1.toNatClampNeg).toInt = 2 ∨ ((σ.2.1 51) k1.toNatClampNeg).toInt = 3) (c7 : ¬ r6.toInt = 0) (hr6v : r6.toInt = 1) (hr8y : ∀ v9 : QV, QAT (qH (σ.2.1 36) (σ.2.1 37) (σ.2.1 38) (σ.2.1 39) (σ.2.1 40) (σ.2.1 41) (σ.2.1 42) (σ.2.1 43) (σ.2.1 44) (σ.2.1 45) (σ.2.1 46) (σ.2.1 48)) (σ.1 47).toInt ((σ.2.1 51), (σ.2.2.1 52), (σ.2.2.1 53), (σ.2.2.2)) k0.toNatClampNeg v9 → qNum v9 = true → r8 = qRe v9) (hr8 : FN r8) (hr9y : ∀ v9 : QV, QAT (qH (σ.2.1 36) (σ.2.1 37) (σ.2.1 38) (σ.2.1 39) (σ.2.1 40) (σ.2.1 41) (σ.2.1 42) (σ.2.1 43) (σ.2.1 44) (σ.2.1 45) (σ.2.1 46) (σ.2.1 48)) (σ.1 47).toInt ((σ.2.1 51), (σ.2.2.1 52), (σ.2.2.1 53), (σ.2.2.2)) k1.toNatClampNeg v9 → qNum v9 = true → r9 = qRe v9) (hr9 : FN r9) (c10 : ¬ k2.toInt = 21) (c11 : ¬ k2.toInt = 22) (c12 : k2.toInt = 23) (ex19 : x19 = Op.cmpValue (FP.dcmp r8 r9) .g) (c20 : 0 < x19.toInt) : ∀ v9 w9 : QV, QAT (qH (σ.2.1 36) (σ.2.1 37) (σ.2.1 38) (σ.2.1 39) (σ.2.1 40) (σ.2.1 41) (σ.2.1 42) (σ.2.1 43) (σ.2.1 44) (σ.2.1 45) (σ.2.1 46) (σ.2.1 48)) (σ.1 47).toInt ((σ.2.1 51), (σ.2.2.1 52), (σ.2.2.1 53), (σ.2.2.2)) k0.toNatClampNeg v9 → QAT (qH (σ.2.1 36) (σ.2.1 37) (σ.2.1 38) (σ.2.1 39) (σ.2.1 40) (σ.2.1 41) (σ.2.1 42) (σ.2.1 43) (σ.2.1 44) (σ.2.1 45) (σ.2.1 46) (σ.2.1 48)) (σ.1 47).toInt ((σ.2.1 51), (σ.2.2.1 52), (σ.2.2.1 53), (σ.2.2.2)) k1.toNatClampNeg w9 → (σ.1 56).toInt = 0 → (21 ≤ k2.toInt ∧ k2.toInt ≤ 26) → QRES (qH (σ.2.1 36) (σ.2.1 37) (σ.2.1 38) (σ.2.1 39) (σ.2.1 40) (σ.2.1 41) (σ.2.1 42) (σ.2.1 43) (σ.2.1 44) (σ.2.1 45) (σ.2.1 46) (σ.2.1 48)) (σ.1 47).toInt ((σ.2.1 51), (σ.2.2.1 52), (σ.2.2.1 53), (σ.2.2.2)) ((upd (σ.2.1 51) k0.toNatClampNeg (1 : Int32)), (vp_updL (σ.2.2.1 52) k0.toNatClampNeg (0 : Int64)), (vp_updL (σ.2.2.1 53) k0.toNatClampNeg (0 : Int64)), (vf_upd (σ.2.2.2) k0.toNatClampNeg FP.dconst0)) k0.toNatClampNeg (σ.1 56).toInt (qComp v9 w9 k2.toInt) := by
  have q1 : (1 : Int32).toInt = 1 := by decide +kernel
  have ql0 : (0 : Int64).toInt = 0 := by decide +kernel
  intro v9 w9 h9 g9 h0 hs
  have kd := h9.kd
  have kq := g9.kd
  dsimp only at kd kq
  have nv : qNum v9 = true := decide_eq_true (by omega)
  have nw : qNum w9 = true := decide_eq_true (by omega)
  have a := hr8y v9 h9 nv
  have b := hr9y w9 g9 nw
  have z := ex19
  rw [a, b] at z
  rw [qComp_n (by omega) nv nw]
  refine ⟨h0, ?_⟩
  rw [if_neg (by omega), if_neg (by omega), if_pos (by omega)]
  rw [show qLe (qRe v9) (qRe w9) = false from decide_eq_false (by rw [← z]; omega)]
  exact QW.bool q1 (by decide +kernel) (by decide +kernel)
-- post2 @175
theorem v_compare_14 (σ : RS) (k0 : Int32) (k1 : Int32) (k2 : Int32) (r2 : Int32) (r6 : Int32) (r8 : UInt64) (r9 : UInt64) (x19 : Int32) (hpre_0 : 0 ≤ k0.toInt) (hpre_1 : k0.toInt < 980) (hpre_2 : 0 ≤ k1.toInt) (hpre_3 : k1.toInt < 980) (hpre_4 : ((σ.2.1 51) k0.toNatClampNeg).toInt = 3 → FN ((σ.2.2.2) k0.toNatClampNeg)) (hpre_5 : ((σ.2.1 51) k1.toNatClampNeg).toInt = 3 → FN ((σ.2.2.2) k1.toNatClampNeg)) (hpre_6 : (σ.1 56).toInt = 0) (c1 : k2.toInt < 25) (hr2 : ((σ.2.1 51) k0.toNatClampNeg).toInt = 2 ∨ ((σ.2.1 51) k0.toNatClampNeg).toInt = 3) (c3 : ¬ r2.toInt = 0) (hr2v : r2.toInt = 1) (hr6 : ((σ.2.1 51) k1.toNatClampNeg).toInt = 2 ∨ ((σ.2.1 51) k1.toNatClampNeg).toInt = 3) (c7 : ¬ r6.toInt = 0) (hr6v : r6.toInt = 1) (hr8y : ∀ v9 : QV, QAT (qH (σ.2.1 36) (σ.2.1 37) (σ.2.1 38) (σ.2.1 39) (σ.2.1 40) (σ.2.1 41) (σ.2.1 42) (σ.2.1 43) (σ.2.1 44) (σ.2.1 45) (σ.2.1 46) (σ.2.1 48)) (σ.1 47).toInt ((σ.2.1 51), (σ.2.2.1 52), (σ.2.2.1 53), (σ.2.2.2)) k0.toNatClampNeg v9 → qNum v9 = true → r8 = qRe v9) (hr8 : FN r8) (hr9y : ∀ v9 : QV, QAT (qH (σ.2.1 36) (σ.2.1 37) (σ.2.1 38) (σ.2.1 39) (σ.2.1 40) (σ.2.1 41) (σ.2.1 42) (σ.2.1 43) (σ.2.1 44) (σ.2.1 45) (σ.2.1 46) (σ.2.1 48)) (σ.1 47).toInt ((σ.2.1 51), (σ.2.2.1 52), (σ.2.2.1 53), (σ.2.2.2)) k1.toNatClampNeg v9 → qNum v9 = true → r9 = qRe v9) (hr9 : FN r9) (c10 : ¬ k2.toInt = 21) (c11 : ¬ k2.toInt = 22) (c12 : k2.toInt = 23) (ex19 : x19 = Op.cmpValue (FP.dcmp r8 r9) .g) (c20 : x19.toInt ≤ 0) : ∀ v9 w9 : QV, QAT (qH (σ.2.1 36) (σ.2.1 37) (σ.2.1 38) (σ.2.1 39) (σ.2.1 40) (σ.2.1 41) (σ.2.1 42) (σ.2.1 43) (σ.2.1 44) (σ.2.1 45) (σ.2.1 46) (σ.2.1 48)) (σ.1 47).toInt ((σ.2.1 51), (σ.2.2.1 52), (σ.2.2.1 53), (σ.2.2.2)) k0.toNatClampNeg v9 → QAT (qH (σ.2.1 36) (σ.2.1 37) (σ.2.1 38) (σ.2.1 39) (σ.2.1 40) (σ.2.1 41) (σ.2.1 42) (σ.2.1 43) (σ.2.1 44) (σ.2.1 45) (σ.2.1 46) (σ.2.1 48)) (σ.1 47).toInt ((σ.2.1 51), (σ.2.2.1 52), (σ.2.2.1 53), (σ.2.2.2)) k1.toNatClampNeg w9 → (σ.1 56).toInt = 0 → (21 ≤ k2.toInt ∧ k2.toInt ≤ 26) → QRES (qH (σ.2.1 36) (σ.2.1 37) (σ.2.1 38) (σ.2.1 39) (σ.2.1 40) (σ.2.1 41) (σ.2.1 42) (σ.2.1 43) (σ.2.1 44) (σ.2.1 45) (σ.2.1 46) (σ.2.1 48)) (σ.1 47).toInt ((σ.2.1 51), (σ.2.2.1 52), (σ.2.2.1 53), (σ.2.2.2)) ((upd (σ.2.1 51) k0.toNatClampNeg (1 : Int32)), (vp_updL (σ.2.2.1 52) k0.toNatClampNeg (1 : Int64)), (vp_updL (σ.2.2.1 53) k0.toNatClampNeg (0 : Int64)), (vf_upd (σ.2.2.2) k0.toNatClampNeg FP.dconst0)) k0.toNatClampNeg (σ.1 56).toInt (qComp v9 w9 k2.toInt) := by
  have q1 : (1 : Int32).toInt = 1 := by decide +kernel
  have ql0 : (0 : Int64).toInt = 0 := by decide +kernel
  have ql1 : (1 : Int64).toInt = 1 := by decide +kernel
  intro v9 w9 h9 g9 h0 hs
  have kd := h9.kd
  have kq := g9.kd
  dsimp only at kd kq
  have nv : qNum v9 = true := decide_eq_true (by omega)
  have nw : qNum w9 = true := decide_eq_true (by omega)
  have a := hr8y v9 h9 nv
  have b := hr9y w9 g9 nw
  have z := ex19
  rw [a, b] at z
  rw [qComp_n (by omega) nv nw]
  refine ⟨h0, ?_⟩
  rw [if_neg (by omega), if_neg (by omega), if_pos (by omega)]
  rw [show qLe (qRe v9) (qRe w9) = true from decide_eq_true (by rw [← z]; omega)]
  exact QW.bool q1 (by decide +kernel) (by decide +kernel)
-- post2 @175
theorem v_compare_15 (σ : RS) (k0 : Int32) (k1 : Int32) (k2 : Int32) (r2 : Int32) (r6 : Int32) (r8 : UInt64) (r9 : UInt64) (x25 : Int32) (hpre_0 : 0 ≤ k0.toInt) (hpre_1 : k0.toInt < 980) (hpre_2 : 0 ≤ k1.toInt) (hpre_3 : k1.toInt < 980) (hpre_4 : ((σ.2.1 51) k0.toNatClampNeg).toInt = 3 → FN ((σ.2.2.2) k0.toNatClampNeg)) (hpre_5 : ((σ.2.1 51) k1.toNatClampNeg).toInt = 3 → FN ((σ.2.2.2) k1.toNatClampNeg)) (hpre_6 : (σ.1 56).toInt = 0) (c1 : k2.toInt < 25) (hr2 : ((σ.2.1 51) k0.toNatClampNeg).toInt = 2 ∨ ((σ.2.1 51) k0.toNatClampNeg).toInt = 3) (c3 : ¬ r2.toInt = 0) (hr2v : r2.toInt = 1) (hr6 : ((σ.2.1 51) k1.toNatClampNeg).toInt = 2 ∨ ((σ.2.1 51) k1.toNatClampNeg).toInt = 3) (c7 : ¬ r6.toInt = 0) (hr6v : r6.toInt = 1) (hr8y : ∀ v9 : QV, QAT (qH (σ.2.1 36) (σ.2.1 37) (σ.2.1 38) (σ.2.1 39) (σ.2.1 40) (σ.2.1 41) (σ.2.1 42) (σ.2.1 43) (σ.2.1 44) (σ.2.1 45) (σ.2.1 46) (σ.2.1 48)) (σ.1 47).toInt ((σ.2.1 51), (σ.2.2.1 52), (σ.2.2.1 53), (σ.2.2.2)) k0.toNatClampNeg v9 → qNum v9 = true → r8 = qRe v9) (hr8 : FN r8) (hr9y : ∀ v9 : QV, QAT (qH (σ.2.1 36) (σ.2.1 37) (σ.2.1 38) (σ.2.1 39) (σ.2.1 40) (σ.2.1 41) (σ.2.1 42) (σ.2.1 43) (σ.2.1 44) (σ.2.1 45) (σ.2.1 46) (σ.2.1 48)) (σ.1 47).toInt ((σ.2.1 51), (σ.2.2.1 52), (σ.2.2.1 53), (σ.2.2.2)) k1.toNatClampNeg v9 → qNum v9 = true → r9 = qRe v9) (hr9 : FN r9) (c10 : ¬ k2.toInt = 21) (c11 : k2.toInt = 22) (ex25 : x25 = Op.cmpValue (FP.dcmp r8 r9) .l) (c26 : x25.toInt ≤ 0) : ∀ v9 w9 : QV, QAT (qH (σ.2.1 36) (σ.2.1 37) (σ.2.1 38) (σ.2.1 39) (σ.2.1 40) (σ.2.1 41) (σ.2.1 42) (σ.2.1 43) (σ.2.1 44) (σ.2.1 45) (σ.2.1 46) (σ.2.1 48)) (σ.1 47).toInt ((σ.2.1 51), (σ.2.2.1 52), (σ.2.2.1 53), (σ.2.2.2)) k0.toNatClampNeg v9 → QAT (qH (σ.2.1 36) (σ.2.1 37) (σ.2.1 38) (σ.2.1 39) (σ.2.1 40) (σ.2.1 41) (σ.2.1 42) (σ.2.1 43) (σ.2.1 44) (σ.2.1 45) (σ.2.1 46) (σ.2.1 48)) (σ.1 47).toInt ((σ.2.1 51), (σ.2.2.1 52), (σ.2.2.1 53), (σ.2.2.2)) k1.toNatClampNeg w9 → (σ.1 56).toInt = 0 → (21 ≤ k2.toInt ∧ k2.toInt ≤ 26) → QRES (qH (σ.2.1 36) (σ.2.1 37) (σ.2.1 38) (σ.2.1 39) (σ.2.1 40) (σ.2.1 41) (σ.2.1 42) (σ.2.1 43) (σ.2.1 44) (σ.2.1 45) (σ.2.1 46) (σ.2.1 48)) (σ.1 47).toInt ((σ.2.1 51), (σ.2.2.1 52), (σ.2.2.1 53), (σ.2.2.2)) ((upd (σ.2.1 51) k0.toNatClampNeg (1 : Int32)), (vp_updL (σ.2.2.1 52) k0.toNatClampNeg (0 : Int64)), (vp_updL (σ.2.2.1 53) k0.toNatClampNeg (0 : Int64)), (vf_upd (σ.2.2.2) k0.toNatClampNeg FP.dconst0)) k0.toNatClampNeg (σ.1 56).toInt (qComp v9 w9 k2.toInt) := by
  have q1 : (1 : Int32).toInt = 1 := by decide +kernel
  have ql0 : (0 : Int64).toInt = 0 := by decide +kernel
  intro v9 w9 h9 g9 h0 hs
  have kd := h9.kd
  have kq := g9.kd
  dsimp only at kd kq
  have nv : qNum v9 = true := decide_eq_true (by omega)
  have nw : qNum w9 = true := decide_eq_true (by omega)
  have a := hr8y v9 h9 nv
  have b := hr9y w9 g9 nw
  have z := ex25
  rw [a, b] at z
  rw [qComp_n (by omega) nv nw]
  refine ⟨h0, ?_⟩
  rw [if_neg (by omega), if_pos (by omega)]
  rw [show qGt (qRe v9) (qRe w9) = false from decide_eq_false (by rw [← z]; omega)]
  exact QW.bool q1 (by decide +kernel) (by decide +kernel)
-- post2 @175
theorem v_compare_16 (σ : RS) (k0 : Int32) (k1 : Int32) (k2 : Int32) (r2 : Int32) (r6 : Int32) (r8 : UInt64) (r9 : UInt64) (x25 : Int32) (hpre_0 : 0 ≤ k0.toInt) (hpre_1 : k0.toInt < 980) (hpre_2 : 0 ≤ k1.toInt) (hpre_3 : k1.toInt < 980) (hpre_4 : ((σ.2.1 51) k0.toNatClampNeg).toInt = 3 → FN ((σ.2.2.2) k0.toNatClampNeg)) (hpre_5 : ((σ.2.1 51) k1.toNatClampNeg).toInt = 3 → FN ((σ.2.2.2) k1.toNatClampNeg)) (hpre_6 : (σ.1 56).toInt = 0) (c1 : k2.toInt < 25) (hr2 : ((σ.2.1 51) k0.toNatClampNeg).toInt = 2 ∨ ((σ.2.1 51) k0.toNatClampNeg).toInt = 3) (c3 : ¬ r2.toInt = 0) (hr2v : r2.toInt = 1) (hr6 : ((σ.2.1 51) k1.toNatClampNeg).toInt = 2 ∨ ((σ.2.1 51) k1.toNatClampNeg).toInt = 3) (c7 : ¬ r6.toInt = 0) (hr6v : r6.toInt = 1) (hr8y : ∀ v9 : QV, QAT (qH (σ.2.1 36) (σ.2.1 37) (σ.2.1 38) (σ.2.1 39) (σ.2.1 40) (σ.2.1 41) (σ.2.1 42) (σ.2.1 43) (σ.2.1 44) (σ.2.1 45) (σ.2.1 46) (σ.2.1 48)) (σ.1 47).toInt ((σ.2.1 51), (σ.2.2.1 52), (σ.2.2.1 53), (σ.2.2.2)) k0.toNatClampNeg v9 → qNum v9 = true → r8 = qRe v9) (hr8 : FN r8) (hr9y : ∀ v9 : QV, QAT (qH (σ.2.1 36) (σ.2.1 37) (σ.2.1 38) (σ.2.1 39) (σ.2.1 40) (σ.2.1 41) (σ.2.1 42) (σ.2.1 43) (σ.2.1 44) (σ.2.1 45) (σ.2.1 46) (σ.2.1 48)) (σ.1 47).toInt ((σ.2.1 51), (σ.2.2.1 52), (σ.2.2.1 53), (σ.2.2.2)) k1.toNatClampNeg v9 → qNum v9 = true → r9 = qRe v9) (hr9 : FN r9) (c10 : ¬ k2.toInt = 21) (c11 : k2.toInt = 22) (ex25 : x25 = Op.cmpValue (FP.dcmp r8 r9) .l) (c26 : 0 < x25.toInt) : ∀ v9 w9 : QV, QAT (qH (σ.2.1 36) (σ.2.1 37) (σ.2.1 38) (σ.2.1 39) (σ.2.1 40) (σ.2.1 41) (σ.2.1 42) (σ.2.1 43) (σ.2.1 44) (σ.2.1 45) (σ.2.1 46) (σ.2.1 48)) (σ.1 47).toInt ((σ.2.1 51), (σ.2.2.1 52), (σ.2.2.1 53), (σ.2.2.2)) k0.toNatClampNeg v9 → QAT (qH (σ.2.1 36) (σ.2.1 37) (σ.2.1 38) (σ.2.1 39) (σ.2.1 40) (σ.2.1 41) (σ.2.1 42) (σ.2.1 43) (σ.2.1 44) (σ.2.1 45) (σ.2.1 46) (σ.2.1 48)) (σ.1 47).toInt ((σ.2.1 51), (σ.2.2.1 52), (σ.2.2.1 53), (σ.2.2.2)) k1.toNatClampNeg w9 → (σ.1 56).toInt = 0 → (21 ≤ k2.toInt ∧ k2.toInt ≤ 26) → QRES (qH (σ.2.1 36) (σ.2.1 37) (σ.2.1 38) (σ.2.1 39) (σ.2.1 40) (σ.2.1 41) (σ.2.1 42) (σ.2.1 43) (σ.2.1 44) (σ.2.1 45) (σ.2.1 46) (σ.2.1 48)) (σ.1 47).toInt ((σ.2.1 51), (σ.2.2.1 52), (σ.2.2.1 53), (σ.2.2.2)) ((upd (σ.2.1 51) k0.toNatClampNeg (1 : Int32)), (vp_updL (σ.2.2.1 52) k0.toNatClampNeg (1 : Int64)), (vp_updL (σ.2.2.1 53) k0.toNatClampNeg (0 : Int64)), (vf_upd (σ.2.2.2) k0.toNatClampNeg FP.dconst0)) k0.toNatClampNeg (σ.1 56).toInt (qComp v9 w9 k2.toInt) := by
  have q1 : (1 : Int32).toInt = 1 := by decide +kernel
  have ql0 : (0 : Int64).toInt = 0 := by decide +kernel
  have ql1 : (1 : Int64).toInt = 1 := by decide +kernel
  intro v9 w9 h9 g9 h0 hs
  have kd := h9.kd
  have kq := g9.kd
  dsimp only at kd kq
  have nv : qNum v9 = true := decide_eq_true (by omega)
  have nw : qNum w9 = true := decide_eq_true (by omega)
  have a := hr8y v9 h9 nv
  have b := hr9y w9 g9 nw
  have z := ex25
  rw [a, b] at z
  rw [qComp_n (by omega) nv nw]
  refine ⟨h0, ?_⟩
  rw [if_neg (by omega), if_pos (by omega)]
  rw [show qGt (qRe v9) (qRe w9) = true from decide_eq_true (by rw [← z]; omega)]
  exact QW.bool q1 (by decide +kernel) (by decide +kernel)
-- post2 @175
theorem v_compare_17 (σ : RS) (k0 : Int32) (k1 : Int32) (k2 : Int32) (r2 : Int32) (r6 : Int32) (r8 : UInt64) (r9 : UInt64) (x31 : Int32) (hpre_0 : 0 ≤ k0.toInt) (hpre_1 : k0.toInt < 980) (hpre_2 : 0 ≤ k1.toInt) (hpre_3 : k1.toInt < 980) (hpre_4 : ((σ.2.1 51) k0.toNatClampNeg).toInt = 3 → FN ((σ.2.2.2) k0.toNatClampNeg)) (hpre_5 : ((σ.2.1 51) k1.toNatClampNeg).toInt = 3 → FN ((σ.2.2.2) k1.toNatClampNeg)) (hpre_6 : (σ.1 56).toInt = 0) (c1 : k2.toInt < 25) (hr2 : ((σ.2.1 51) k0.toNatClampNeg).toInt = 2 ∨ ((σ.2.1 51) k0.toNatClampNeg).toInt = 3) (c3 : ¬ r2.toInt = 0) (hr2v : r2.toInt = 1) (hr6 : ((σ.2.1 51) k1.toNatClampNeg).toInt = 2 ∨ ((σ.2.1 51) k1.toNatClampNeg).toInt = 3) (c7 : ¬ r6.toInt = 0) (hr6v : r6.toInt = 1) (hr8y : ∀ v9 : QV, QAT (qH (σ.2.1 36) (σ.2.1 37) (σ.2.1 38) (σ.2.1 39) (σ.2.1 40) (σ.2.1 41) (σ.2.1 42) (σ.2.1 43) (σ.2.1 44) (σ.2.1 45) (σ.2.1 46) (σ.2.1 48)) (σ.1 47).toInt ((σ.2.1 51), (σ.2.2.1 52), (σ.2.2.1 53), (σ.2.2.2)) k0.toNatClampNeg v9 → qNum v9 = true → r8 = qRe v9) (hr8 : FN r8) (hr9y : ∀ v9 : QV, QAT (qH (σ.2.1 36) (σ.2.1 37) (σ.2.1 38) (σ.2.1 39) (σ.2.1 40) (σ.2.1 41) (σ.2.1 42) (σ.2.1 43) (σ.2.1 44) (σ.2.1 45) (σ.2.1 46) (σ.2.1 48)) (σ.1 47).toInt ((σ.2.1 51), (σ.2.2.1 52), (σ.2.2.1 53), (σ.2.2.2)) k1.toNatClampNeg v9 → qNum v9 = true → r9 = qRe v9) (hr9 : FN r9) (c10 : k2.toInt = 21) (ex31 : x31 = Op.cmpValue (FP.dcmp r8 r9) .g) (c32 : 0 ≤ x31.toInt) : ∀ v9 w9 : QV, QAT (qH (σ.2.1 36) (σ.2.1 37) (σ.2.1 38) (σ.2.1 39) (σ.2.1 40) (σ.2.1 41) (σ.2.1 42) (σ.2.1 43) (σ.2.1 44) (σ.2.1 45) (σ.2.1 46) (σ.2.1 48)) (σ.1 47).toInt ((σ.2.1 51), (σ.2.2.1 52), (σ.2.2.1 53), (σ.2.2.2)) k0.toNatClampNeg v9 → QAT (qH (σ.2.1 36) (σ.2.1 37) (σ.2.1 38) (σ.2.1 39) (σ.2.1 40) (σ.2.1 41) (σ.2.1 42) (σ.2.1 43) (σ.2.1 44) (σ.2.1 45) (σ.2.1 46) (σ.2.1 48)) (σ.1 47).toInt ((σ.2.1 51), (σ.2.2.1 52), (σ.2.2.1 53), (σ.2.2.2)) k1.toNatClampNeg w9 → (σ.1 56).toInt = 0 → (21 ≤ k2.toInt ∧ k2.toInt ≤ 26) → QRES (qH (σ.2.1 36) (σ.2.1 37) (σ.2.1 38) (σ.2.1 39) (σ.2.1 40) (σ.2.1 41) (σ.2.1 42) (σ.2.1 43) (σ.2.1 44) (σ.2.1 45) (σ.2.1 46) (σ.2.1 48)) (σ.1 47).toInt ((σ.2.1 51), (σ.2.2.1 52), (σ.2.2.1 53), (σ.2.2.2)) ((upd (σ.2.1 51) k0.toNatClampNeg (1 : Int32)), (vp_updL (σ.2.2.1 52) k0.toNatClampNeg (0 : Int64)), (vp_updL (σ.2.2.1 53) k0.toNatClampNeg (0 : Int64)), (vf_upd (σ.2.2.2) k0.toNatClampNeg FP.dconst0)) k0.toNatClampNeg (σ.1 56).toInt (qComp v9 w9 k2.toInt) := by
  have q1 : (1 : Int32).toInt = 1 := by decide +kernel
  have ql0 : (0 : Int64).toInt = 0 := by decide +kernel
  intro v9 w9 h9 g9 h0 hs
  have kd := h9.kd
  have kq := g9.kd
  dsimp only at kd kq
  have nv : qNum v9 = true := decide_eq_true (by omega)
  have nw : qNum w9 = true := decide_eq_true (by omega)
  have a := hr8y v9 h9 nv
  have b := hr9y w9 g9 nw
  have z := ex31
  rw [a, b] at z
  rw [qComp_n (by omega) nv nw]
  refine ⟨h0, ?_⟩
  rw [if_pos (by omega)]
  rw [show qLt (qRe v9) (qRe w9) = false from decide_eq_false (by rw [← z]; omega)]
  exact QW.bool q1 (by decide +kernel) (by decide +kernel)
-- post2 @175
theorem v_compare_18 (σ : RS) (k0 : Int32) (k1 : Int32) (k2 : Int32) (r2 : Int32) (r6 : Int32) (r8 : UInt64) (r9 : UInt64) (x31 : Int32) (hpre_0 : 0 ≤ k0.toInt) (hpre_1 : k0.toInt < 980) (hpre_2 : 0 ≤ k1.toInt) (hpre_3 : k1.toInt < 980) (hpre_4 : ((σ.2.1 51) k0.toNatClampNeg).toInt = 3 → FN ((σ.2.2.2) k0.toNatClampNeg)) (hpre_5 : ((σ.2.1 51) k1.toNatClampNeg).toInt = 3 → FN ((σ.2.2.2) k1.toNatClampNeg)) (hpre_6 : (σ.1 56).toInt = 0) (c1 : k2.toInt < 25) (hr2 : ((σ.2.1 51) k0.toNatClampNeg).toInt = 2 ∨ ((σ.2.1 51) k0.toNatClampNeg).toInt = 3) (c3 : ¬ r2.toInt = 0) (hr2v : r2.toInt = 1) (hr6 : ((σ.2.1 51) k1.toNatClampNeg).toInt = 2 ∨ ((σ.2.1 51) k1.toNatClampNeg).toInt = 3) (c7 : ¬ r6.toInt = 0) (hr6v : r6.toInt = 1) (hr8y : ∀ v9 : QV, QAT (qH (σ.2.1 36) (σ.2.1 37) (σ.2.1 38) (σ.2.1 39) (σ.2.1 40) (σ.2.1 41) (σ.2.1 42) (σ.2.1 43) (σ.2.1 44) (σ.2.1 45) (σ.2.1 46) (σ.2.1 48)) (σ.1 47).toInt ((σ.2.1 51), (σ.2.2.1 52), (σ.2.2.1 53), (σ.2.2.2)) k0.toNatClampNeg v9 → qNum v9 = true → r8 = qRe v9) (hr8 : FN r8) (hr9y : ∀ v9 : QV, QAT (qH (σ.2.1 36) (σ.2.1 37) (σ.2.1 38) (σ.2.1 39) (σ.2.1 40) (σ.2.1 41) (σ.2.1 42) (σ.2.1 43) (σ.2.1 44) (σ.2.1 45) (σ.2.1 46) (σ.2.1 48)) (σ.1 47).toInt ((σ.2.1 51), (σ.2.2.1 52), (σ.2.2.1 53), (σ.2.2.2)) k1.toNatClampNeg v9 → qNum v9 = true → r9 = qRe v9) (hr9 : FN r9) (c10 : k2.toInt = 21) (ex31 : x31 = Op.cmpValue (FP.dcmp r8 r9) .g) (c32 : x31.toInt < 0) : ∀ v9 w9 : QV, QAT (qH (σ.2.1 36) (σ.2.1 37) (σ.2.1 38) (σ.2.1 39) (σ.2.1 40) (σ.2.1 41) (σ.2.1 42) (σ.2.1 43) (σ.2.1 44) (σ.2.1 45) (σ.2.1 46) (σ.2.1 48)) (σ.1 47).toInt ((σ.2.1 51), (σ.2.2.1 52), (σ.2.2.1 53), (σ.2.2.2)) k0.toNatClampNeg v9 → QAT (qH (σ.2.1 36) (σ.2.1 37) (σ.2.1 38) (σ.2.1 39) (σ.2.1 40) (σ.2.1 41) (σ.2.1 42) (σ.2.1 43) (σ.2.1 44) (σ.2.1 45) (σ.2.1 46) (σ.2.1 48)) (σ.1 47).toInt ((σ.2.1 51), (σ.2.2.1 52), (σ.2.2.1 53), (σ.2.2.2)) k1.toNatClampNeg w9 → (σ.1 56).toInt = 0 → (21 ≤ k2.toInt ∧ k2.toInt ≤ 26) → QRES (qH (σ.2.1 36) (σ.2.1 37) (σ.2.1 38) (σ.2.1 39) (σ.2.1 40) (σ.2.1 41) (σ.2.1 42) (σ.2.1 43) (σ.2.1 44) (σ.2.1 45) (σ.2.1 46) (σ.2.1 48)) (σ.1 47).toInt ((σ.2.1 51), (σ.2.2.1 52), (σ.2.2.1 53), (σ.2.2.2)) ((upd (σ.2.1 51) k0.toNatClampNeg (1 : Int32)), (vp_updL (σ.2.2.1 52) k0.toNatClampNeg (1 : Int64)), (vp_updL (σ.2.2.1 53) k0.toNatClampNeg (0 : Int64)), (vf_upd (σ.2.2.2) k0.toNatClampNeg FP.dconst0)) k0.toNatClampNeg (σ.1 56).toInt (qComp v9 w9 k2.toInt) := by
  have q1 : (1 : Int32).toInt = 1 := by decide +kernel
  have ql0 : (0 : Int64).toInt = 0 := by decide +kernel
  have ql1 : (1 : Int64).toInt = 1 := by decide +kernel
  intro v9 w9 h9 g9 h0 hs
  have kd := h9.kd
  have kq := g9.kd
  dsimp only at kd kq
  have nv : qNum v9 = true := decide_eq_true (by omega)
  have nw : qNum w9 = true := decide_eq_true (by omega)
  have a := hr8y v9 h9 nv
  have b := hr9y w9 g9 nw
  have z := ex31
  rw [a, b] at z
  rw [qComp_n (by omega) nv nw]
  refine ⟨h0, ?_⟩
  rw [if_pos (by omega)]
  rw [show qLt (qRe v9) (qRe w9) = true from decide_eq_true (by rw [← z]; omega)]
  exact QW.bool q1 (by decide +kernel) (by decide +kernel)
-- pre:set@172 @172
theorem v_compare_19 (σ : RS) (k0 : Int32) (k1 : Int32) (hpre_0 : 0 ≤ k0.toInt) (hpre_1 : k0.toInt < 980) (hpre_2 : 0 ≤ k1.toInt) (hpre_3 : k1.toInt < 980) (hpre_4 : ((σ.2.1 51) k0.toNatClampNeg).toInt = 3 → FN ((σ.2.2.2) k0.toNatClampNeg)) (hpre_5 : ((σ.2.1 51) k1.toNatClampNeg).toInt = 3 → FN ((σ.2.2.2) k1.toNatClampNeg)) (hr2 : ((σ.2.1 51) k0.toNatClampNeg).toInt = 2 ∨ ((σ.2.1 51) k0.toNatClampNeg).toInt = 3) (hr6 : ¬ (((σ.2.1 51) k1.toNatClampNeg).toInt = 2 ∨ ((σ.2.1 51) k1.toNatClampNeg).toInt = 3)) : 0 ≤ k0.toInt ∧ k0.toInt < 980 := by
  refine ⟨?_, ?_⟩ <;> first | assumption | omega | (subst_vars; omega) | trivial
-- post @175
theorem v_compare_20 (σ : RS) (k0 : Int32) (k1 : Int32) (hpre_0 : 0 ≤ k0.toInt) (hpre_1 : k0.toInt < 980) (hpre_2 : 0 ≤ k1.toInt) (hpre_3 : k1.toInt < 980) (hpre_4 : ((σ.2.1 51) k0.toNatClampNeg).toInt = 3 → FN ((σ.2.2.2) k0.toNatClampNeg)) (hpre_5 : ((σ.2.1 51) k1.toNatClampNeg).toInt = 3 → FN ((σ.2.2.2) k1.toNatClampNeg)) (hr2 : ((σ.2.1 51) k0.toNatClampNeg).toInt = 2 ∨ ((σ.2.1 51) k0.toNatClampNeg).toInt = 3) (hr6 : ¬ (((σ.2.1 51) k1.toNatClampNeg).toInt = 2 ∨ ((σ.2.1 51) k1.toNatClampNeg).toInt = 3)) : 0 ≤ (1 : Int32).toInt ∧ (1 : Int32).toInt ≤ 11 ∧ Cell1 (σ.2.1 51) (upd (σ.2.1 51) k0.toNatClampNeg (1 : Int32)) (σ.2.2.1 52) (vp_updL (σ.2.2.1 52) k0.toNatClampNeg (0 : Int64)) (σ.2.2.2) (vf_upd (σ.2.2.2) k0.toNatClampNeg FP.dconst0) k0.toNatClampNeg (fun k v r => k = 1) := by
  have q1 : (1 : Int32).toInt = 1 := by decide +kernel
  have ql0 : (0 : Int64).toInt = 0 := by decide +kernel
  exact ⟨by omega, by omega, _, _, _, rfl, rfl, rfl, q1⟩
-- post2 @175
theorem v_compare_21 (σ : RS) (k0 : Int32) (k1 : Int32) (k2 : Int32) (r2 : Int32) (r6 : Int32) (hpre_0 : 0 ≤ k0.toInt) (hpre_1 : k0.toInt < 980) (hpre_2 : 0 ≤ k1.toInt) (hpre_3 : k1.toInt < 980) (hpre_4 : ((σ.2.1 51) k0.toNatClampNeg).toInt = 3 → FN ((σ.2.2.2) k0.toNatClampNeg)) (hpre_5 : ((σ.2.1 51) k1.toNatClampNeg).toInt = 3 → FN ((σ.2.2.2) k1.toNatClampNeg)) (hpre_6 : (σ.1 56).toInt = 0) (c1 : k2.toInt < 25) (hr2 : ((σ.2.1 51) k0.toNatClampNeg).toInt = 2 ∨ ((σ.2.1 51) k0.toNatClampNeg).toInt = 3) (c3 : ¬ r2.toInt = 0) (hr2v : r2.toInt = 1) (hr6 : ¬ (((σ.2.1 51) k1.toNatClampNeg).toInt = 2 ∨ ((σ.2.1 51) k1.toNatClampNeg).toInt = 3)) (c7 : r6.toInt = 0) : ∀ v9 w9 : QV, QAT (qH (σ.2.1 36) (σ.2.1 37) (σ.2.1 38) (σ.2.1 39) (σ.2.1 40) (σ.2.1 41) (σ.2.1 42) (σ.2.1 43) (σ.2.1 44) (σ.2.1 45) (σ.2.1 46) (σ.2.1 48)) (σ.1 47).toInt ((σ.2.1 51), (σ.2.2.1 52), (σ.2.2.1 53), (σ.2.2.2)) k0.toNatClampNeg v9 → QAT (qH (σ.2.1 36) (σ.2.1 37) (σ.2.1 38) (σ.2.1 39) (σ.2.1 40) (σ.2.1 41) (σ.2.1 42) (σ.2.1 43) (σ.2.1 44) (σ.2.1 45) (σ.2.1 46) (σ.2.1 48)) (σ.1 47).toInt ((σ.2.1 51), (σ.2.2.1 52), (σ.2.2.1 53), (σ.2.2.2)) k1.toNatClampNeg w9 → (σ.1 56).toInt = 0 → (21 ≤ k2.toInt ∧ k2.toInt ≤ 26) → QRES (qH (σ.2.1 36) (σ.2.1 37) (σ.2.1 38) (σ.2.1 39) (σ.2.1 40) (σ.2.1 41) (σ.2.1 42) (σ.2.1 43) (σ.2.1 44) (σ.2.1 45) (σ.2.1 46) (σ.2.1 48)) (σ.1 47).toInt ((σ.2.1 51), (σ.2.2.1 52), (σ.2.2.1 53), (σ.2.2.2)) ((upd (σ.2.1 51) k0.toNatClampNeg (1 : Int32)), (vp_updL (σ.2.2.1 52) k0.toNatClampNeg (0 : Int64)), (vp_updL (σ.2.2.1 53) k0.toNatClampNeg (0 : Int64)), (vf_upd (σ.2.2.2) k0.toNatClampNeg FP.dconst0)) k0.toNatClampNeg (1 : Int32).toInt (qComp v9 w9 k2.toInt) := by
  have q1 : (1 : Int32).toInt = 1 := by decide +kernel
  have ql0 : (0 : Int64).toInt = 0 := by decide +kernel
  intro v9 w9 h9 g9 h0 hs
  have kd := h9.kd
  have kq := g9.kd
  dsimp only at kd kq
  rw [qComp_x (by omega) (by first | exact Or.inl (decide_eq_false (by omega)) | exact Or.inr (decide_eq_false (by omega)))]
  exact ⟨by decide +kernel, by decide, by decide, QX.put⟩
-- pre:alike@12 @12
theorem v_compare_22 (σ : RS) (k0 : Int32) (k1 : Int32) (hpre_0 : 0 ≤ k0.toInt) (hpre_1 : k0.toInt < 980) (hpre_2 : 0 ≤ k1.toInt) (hpre_3 : k1.toInt < 980) (hpre_4 : ((σ.2.1 51) k0.toNatClampNeg).toInt = 3 → FN ((σ.2.2.2) k0.toNatClampNeg)) (hpre_5 : ((σ.2.1 51) k1.toNatClampNeg).toInt = 3 → FN ((σ.2.2.2) k1.toNatClampNeg)) : 0 ≤ k0.toInt ∧ k0.toInt < 980 ∧ 0 ≤ k1.toInt ∧ k1.toInt < 980 ∧ (((σ.2.1 51) k0.toNatClampNeg).toInt = 3 → FN ((σ.2.2.2) k0.toNatClampNeg)) ∧ (((σ.2.1 51) k1.toNatClampNeg).toInt = 3 → FN ((σ.2.2.2) k1.toNatClampNeg)) := by
  refine ⟨?_, ?_, ?_, ?_, ?_, ?_⟩ <;> first | assumption | omega | (subst_vars; omega) | trivial
-- post @175
theorem v_compare_23 (σ : RS) (k0 : Int32) (k1 : Int32) (hpre_0 : 0 ≤ k0.toInt) (hpre_1 : k0.toInt < 980) (hpre_2 : 0 ≤ k1.toInt) (hpre_3 : k1.toInt < 980) (hpre_4 : ((σ.2.1 51) k0.toNatClampNeg).toInt = 3 → FN ((σ.2.2.2) k0.toNatClampNeg)) (hpre_5 : ((σ.2.1 51) k1.toNatClampNeg).toInt = 3 → FN ((σ.2.2.2) k1.toNatClampNeg)) (hpre_6 : (σ.1 56).toInt = 0) : 0 ≤ (σ.1 56).toInt ∧ (σ.1 56).toInt ≤ 11 ∧ Cell1 (σ.2.1 51) (upd (σ.2.1 51) k0.toNatClampNeg (1 : Int32)) (σ.2.2.1 52) (vp_updL (σ.2.2.1 52) k0.toNatClampNeg (0 : Int64)) (σ.2.2.2) (vf_upd (σ.2.2.2) k0.toNatClampNeg FP.dconst0) k0.toNatClampNeg (fun k v r => k = 1) := by
  have q1 : (1 : Int32).toInt = 1 := by decide +kernel
  have ql0 : (0 : Int64).toInt = 0 := by decide +kernel
  exact ⟨by omega, by omega, _, _, _, rfl, rfl, rfl, q1⟩
-- post2 @175
theorem v_compare_24 (σ : RS) (k0 : Int32) (k1 : Int32) (k2 : Int32) (r39 : Int32) (hpre_0 : 0 ≤ k0.toInt) (hpre_1 : k0.toInt < 980) (hpre_2 : 0 ≤ k1.toInt) (hpre_3 : k1.toInt < 980) (hpre_4 : ((σ.2.1 51) k0.toNatClampNeg).toInt = 3 → FN ((σ.2.2.2) k0.toNatClampNeg)) (hpre_5 : ((σ.2.1 51) k1.toNatClampNeg).toInt = 3 → FN ((σ.2.2.2) k1.toNatClampNeg)) (hpre_6 : (σ.1 56).toInt = 0) (c1 : 25 ≤ k2.toInt) (hr39y : ∀ v9 w9 : QV, QAT (qH (σ.2.1 36) (σ.2.1 37) (σ.2.1 38) (σ.2.1 39) (σ.2.1 40) (σ.2.1 41) (σ.2.1 42) (σ.2.1 43) (σ.2.1 44) (σ.2.1 45) (σ.2.1 46) (σ.2.1 48)) (σ.1 47).toInt ((σ.2.1 51), (σ.2.2.1 52), (σ.2.2.1 53), (σ.2.2.2)) k0.toNatClampNeg v9 → QAT (qH (σ.2.1 36) (σ.2.1 37) (σ.2.1 38) (σ.2.1 39) (σ.2.1 40) (σ.2.1 41) (σ.2.1 42) (σ.2.1 43) (σ.2.1 44) (σ.2.1 45) (σ.2.1 46) (σ.2.1 48)) (σ.1 47).toInt ((σ.2.1 51), (σ.2.2.1 52), (σ.2.2.1 53), (σ.2.2.2)) k1.toNatClampNeg w9 → (r39.toInt = 0 ∨ r39.toInt = 1) ∧ (r39.toInt = 0 → qSame v9 w9 = false) ∧ (¬ r39.toInt = 0 → qSame v9 w9 = true)) (c40 : ¬ k2.toInt = 25) (c41 : ¬ r39.toInt = 0) : ∀ v9 w9 : QV, QAT (qH (σ.2.1 36) (σ.2.1 37) (σ.2.1 38) (σ.2.1 39) (σ.2.1 40) (σ.2.1 41) (σ.2.1 42) (σ.2.1 43) (σ.2.1 44) (σ.2.1 45) (σ.2.1 46) (σ.2.1 48)) (σ.1 47).toInt ((σ.2.1 51), (σ.2.2.1 52), (σ.2.2.1 53), (σ.2.2.2)) k0.toNatClampNeg v9 → QAT (qH (σ.2.1 36) (σ.2.1 37) (σ.2.1 38) (σ.2.1 39) (σ.2.1 40) (σ.2.1 41) (σ.2.1 42) (σ.2.1 43) (σ.2.1 44) (σ.2.1 45) (σ.2.1 46) (σ.2.1 48)) (σ.1 47).toInt ((σ.2.1 51), (σ.2.2.1 52), (σ.2.2.1 53), (σ.2.2.2)) k1.toNatClampNeg w9 → (σ.1 56).toInt = 0 → (21 ≤ k2.toInt ∧ k2.toInt ≤ 26) → QRES (qH (σ.2.1 36) (σ.2.1 37) (σ.2.1 38) (σ.2.1 39) (σ.2.1 40) (σ.2.1 41) (σ.2.1 42) (σ.2.1 43) (σ.2.1 44) (σ.2.1 45) (σ.2.1 46) (σ.2.1 48)) (σ.1 47).toInt ((σ.2.1 51), (σ.2.2.1 52), (σ.2.2.1 53), (σ.2.2.2)) ((upd (σ.2.1 51) k0.toNatClampNeg (1 : Int32)), (vp_updL (σ.2.2.1 52) k0.toNatClampNeg (0 : Int64)), (vp_updL (σ.2.2.1 53) k0.toNatClampNeg (0 : Int64)), (vf_upd (σ.2.2.2) k0.toNatClampNeg FP.dconst0)) k0.toNatClampNeg (σ.1 56).toInt (qComp v9 w9 k2.toInt) := by
  have q1 : (1 : Int32).toInt = 1 := by decide +kernel
  have ql0 : (0 : Int64).toInt = 0 := by decide +kernel
  intro v9 w9 h9 g9 h0 hs
  have kd := h9.kd
  have kq := g9.kd
  dsimp only at kd kq
  obtain ⟨ar, a⟩ := hr39y v9 w9 h9 g9
  rw [qComp_a (by omega)]
  refine ⟨h0, ?_⟩
  first
  | (rw [a.1 (by omega), decide_eq_true (show k2.toInt = 25 by omega)]; exact QW.bool q1 (by decide +kernel) (by decide +kernel))
  | (rw [a.1 (by omega), decide_eq_false (show ¬ k2.toInt = 25 by omega)]; exact QW.bool q1 (by decide +kernel) (by decide +kernel))
  | (rw [a.2 (by omega), decide_eq_true (show k2.toInt = 25 by omega)]; exact QW.bool q1 (by decide +kernel) (by decide +kernel))
  | (rw [a.2 (by omega), decide_eq_false (show ¬ k2.toInt = 25 by omega)]; exact QW.bool q1 (by decide +kernel) (by decide +kernel))
  | (exfalso; omega)
-- post @175
theorem v_compare_25 (σ : RS) (k0 : Int32) (k1 : Int32) (hpre_0 : 0 ≤ k0.toInt) (hpre_1 : k0.toInt < 980) (hpre_2 : 0 ≤ k1.toInt) (hpre_3 : k1.toInt < 980) (hpre_4 : ((σ.2.1 51) k0.toNatClampNeg).toInt = 3 → FN ((σ.2.2.2) k0.toNatClampNeg)) (hpre_5 : ((σ.2.1 51) k1.toNatClampNeg).toInt = 3 → FN ((σ.2.2.2) k1.toNatClampNeg)) (hpre_6 : (σ.1 56).toInt = 0) : 0 ≤ (σ.1 56).toInt ∧ (σ.1 56).toInt ≤ 11 ∧ Cell1 (σ.2.1 51) (upd (σ.2.1 51) k0.toNatClampNeg (1 : Int32)) (σ.2.2.1 52) (vp_updL (σ.2.2.1 52) k0.toNatClampNeg (1 : Int64)) (σ.2.2.2) (vf_upd (σ.2.2.2) k0.toNatClampNeg FP.dconst0) k0.toNatClampNeg (fun k v r => k = 1) := by
  have q1 : (1 : Int32).toInt = 1 := by decide +kernel
  have ql1 : (1 : Int64).toInt = 1 := by decide +kernel
  exact ⟨by omega, by omega, _, _, _, rfl, rfl, rfl, q1⟩
-- post2 @175
theorem v_compare_26 (σ : RS) (k0 : Int32) (k1 : Int32) (k2 : Int32) (r39 : Int32) (hpre_0 : 0 ≤ k0.toInt) (hpre_1 : k0.toInt < 980) (hpre_2 : 0 ≤ k1.toInt) (hpre_3 : k1.toInt < 980) (hpre_4 : ((σ.2.1 51) k0.toNatClampNeg).toInt = 3 → FN ((σ.2.2.2) k0.toNatClampNeg)) (hpre_5 : ((σ.2.1 51) k1.toNatClampNeg).toInt = 3 → FN ((σ.2.2.2) k1.toNatClampNeg)) (hpre_6 : (σ.1 56).toInt = 0) (c1 : 25 ≤ k2.toInt) (hr39y : ∀ v9 w9 : QV, QAT (qH (σ.2.1 36) (σ.2.1 37) (σ.2.1 38) (σ.2.1 39) (σ.2.1 40) (σ.2.1 41) (σ.2.1 42) (σ.2.1 43) (σ.2.1 44) (σ.2.1 45) (σ.2.1 46) (σ.2.1 48)) (σ.1 47).toInt ((σ.2.1 51), (σ.2.2.1 52), (σ.2.2.1 53), (σ.2.2.2)) k0.toNatClampNeg v9 → QAT (qH (σ.2.1 36) (σ.2.1 37) (σ.2.1 38) (σ.2.1 39) (σ.2.1 40) (σ.2.1 41) (σ.2.1 42) (σ.2.1 43) (σ.2.1 44) (σ.2.1 45) (σ.2.1 46) (σ.2.1 48)) (σ.1 47).toInt ((σ.2.1 51), (σ.2.2.1 52), (σ.2.2.1 53), (σ.2.2.2)) k1.toNatClampNeg w9 → (r39.toInt = 0 ∨ r39.toInt = 1) ∧ (r39.toInt = 0 → qSame v9 w9 = false) ∧ (¬ r39.toInt = 0 → qSame v9 w9 = true)) (c40 : ¬ k2.toInt = 25) (c41 : r39.toInt = 0) : ∀ v9 w9 : QV, QAT (qH (σ.2.1 36) (σ.2.1 37) (σ.2.1 38) (σ.2.1 39) (σ.2.1 40) (σ.2.1 41) (σ.2.1 42) (σ.2.1 43) (σ.2.1 44) (σ.2.1 45) (σ.2.1 46) (σ.2.1 48)) (σ.1 47).toInt ((σ.2.1 51), (σ.2.2.1 52), (σ.2.2.1 53), (σ.2.2.2)) k0.toNatClampNeg v9 → QAT (qH (σ.2.1 36) (σ.2.1 37) (σ.2.1 38) (σ.2.1 39) (σ.2.1 40) (σ.2.1 41) (σ.2.1 42) (σ.2.1 43) (σ.2.1 44) (σ.2.1 45) (σ.2.1 46) (σ.2.1 48)) (σ.1 47).toInt ((σ.2.1 51), (σ.2.2.1 52), (σ.2.2.1 53), (σ.2.2.2)) k1.toNatClampNeg w9 → (σ.1 56).toInt = 0 → (21 ≤ k2.toInt ∧ k2.toInt ≤ 26) → QRES (qH (σ.2.1 36) (σ.2.1 37) (σ.2.1 38) (σ.2.1 39) (σ.2.1 40) (σ.2.1 41) (σ.2.1 42) (σ.2.1 43) (σ.2.1 44) (σ.2.1 45) (σ.2.1 46) (σ.2.1 48)) (σ.1 47).toInt ((σ.2.1 51), (σ.2.2.1 52), (σ.2.2.1 53), (σ.2.2.2)) ((upd (σ.2.1 51) k0.toNatClampNeg (1 : Int32)), (vp_updL (σ.2.2.1 52) k0.toNatClampNeg (1 : Int64)), (vp_updL (σ.2.2.1 53) k0.toNatClampNeg (0 : Int64)), (vf_upd (σ.2.2.2) k0.toNatClampNeg FP.dconst0)) k0.toNatClampNeg (σ.1 56).toInt (qComp v9 w9 k2.toInt) := by
  have q1 : (1 : Int32).toInt = 1 := by decide +kernel
  have ql0 : (0 : Int64).toInt = 0 := by decide +kernel
  have ql1 : (1 : Int64).toInt = 1 := by decide +kernel
  intro v9 w9 h9 g9 h0 hs
  have kd := h9.kd
  have kq := g9.kd
  dsimp only at kd kq
  obtain ⟨ar, a⟩ := hr39y v9 w9 h9 g9
  rw [qComp_a (by omega)]
  refine ⟨h0, ?_⟩
  first
  | (rw [a.1 (by omega), decide_eq_true (show k2.toInt = 25 by omega)]; exact QW.bool q1 (by decide +kernel) (by decide +kernel))
  | (rw [a.1 (by omega), decide_eq_false (show ¬ k2.toInt = 25 by omega)]; exact QW.bool q1 (by decide +kernel) (by decide +kernel))
  | (rw [a.2 (by omega), decide_eq_true (show k2.toInt = 25 by omega)]; exact QW.bool q1 (by decide +kernel) (by decide +kernel))
  | (rw [a.2 (by omega), decide_eq_false (show ¬ k2.toInt = 25 by omega)]; exact QW.bool q1 (by decide +kernel) (by decide +kernel))
  | (exfalso; omega)
-- post2 @175
theorem v_compare_27 (σ : RS) (k0 : Int32) (k1 : Int32) (k2 : Int32) (r39 : Int32) (hpre_0 : 0 ≤ k0.toInt) (hpre_1 : k0.toInt < 980) (hpre_2 : 0 ≤ k1.toInt) (hpre_3 : k1.toInt < 980) (hpre_4 : ((σ.2.1 51) k0.toNatClampNeg).toInt = 3 → FN ((σ.2.2.2) k0.toNatClampNeg)) (hpre_5 : ((σ.2.1 51) k1.toNatClampNeg).toInt = 3 → FN ((σ.2.2.2) k1.toNatClampNeg)) (hpre_6 : (σ.1 56).toInt = 0) (c1 : 25 ≤ k2.toInt) (hr39y : ∀ v9 w9 : QV, QAT (qH (σ.2.1 36) (σ.2.1 37) (σ.2.1 38) (σ.2.1 39) (σ.2.1 40) (σ.2.1 41) (σ.2.1 42) (σ.2.1 43) (σ.2.1 44) (σ.2.1 45) (σ.2.1 46) (σ.2.1 48)) (σ.1 47).toInt ((σ.2.1 51), (σ.2.2.1 52), (σ.2.2.1 53), (σ.2.2.2)) k0.toNatClampNeg v9 → QAT (qH (σ.2.1 36) (σ.2.1 37) (σ.2.1 38) (σ.2.1 39) (σ.2.1 40) (σ.2.1 41) (σ.2.1 42) (σ.2.1 43) (σ.2.1 44) (σ.2.1 45) (σ.2.1 46) (σ.2.1 48)) (σ.1 47).toInt ((σ.2.1 51), (σ.2.2.1 52), (σ.2.2.1 53), (σ.2.2.2)) k1.toNatClampNeg w9 → (r39.toInt = 0 ∨ r39.toInt = 1) ∧ (r39.toInt = 0 → qSame v9 w9 = false) ∧ (¬ r39.toInt = 0 → qSame v9 w9 = true)) (c40 : k2.toInt = 25) (c46 : ¬ r39.toInt = 1) : ∀ v9 w9 : QV, QAT (qH (σ.2.1 36) (σ.2.1 37) (σ.2.1 38) (σ.2.1 39) (σ.2.1 40) (σ.2.1 41) (σ.2.1 42) (σ.2.1 43) (σ.2.1 44) (σ.2.1 45) (σ.2.1 46) (σ.2.1 48)) (σ.1 47).toInt ((σ.2.1 51), (σ.2.2.1 52), (σ.2.2.1 53), (σ.2.2.2)) k0.toNatClampNeg v9 → QAT (qH (σ.2.1 36) (σ.2.1 37) (σ.2.1 38) (σ.2.1 39) (σ.2.1 40) (σ.2.1 41) (σ.2.1 42) (σ.2.1 43) (σ.2.1 44) (σ.2.1 45) (σ.2.1 46) (σ.2.1 48)) (σ.1 47).toInt ((σ.2.1 51), (σ.2.2.1 52), (σ.2.2.1 53), (σ.2.2.2)) k1.toNatClampNeg w9 → (σ.1 56).toInt = 0 → (21 ≤ k2.toInt ∧ k2.toInt ≤ 26) → QRES (qH (σ.2.1 36) (σ.2.1 37) (σ.2.1 38) (σ.2.1 39) (σ.2.1 40) (σ.2.1 41) (σ.2.1 42) (σ.2.1 43) (σ.2.1 44) (σ.2.1 45) (σ.2.1 46) (σ.2.1 48)) (σ.1 47).toInt ((σ.2.1 51), (σ.2.2.1 52), (σ.2.2.1 53), (σ.2.2.2)) ((upd (σ.2.1 51) k0.toNatClampNeg (1 : Int32)), (vp_updL (σ.2.2.1 52) k0.toNatClampNeg (0 : Int64)), (vp_updL (σ.2.2.1 53) k0.toNatClampNeg (0 : Int64)), (vf_upd (σ.2.2.2) k0.toNatClampNeg FP.dconst0)) k0.toNatClampNeg (σ.1 56).toInt (qComp v9 w9 k2.toInt) := by
  have q1 : (1 : Int32).toInt = 1 := by decide +kernel
  have ql0 : (0 : Int64).toInt = 0 := by decide +kernel
  intro v9 w9 h9 g9 h0 hs
  have kd := h9.kd
  have kq := g9.kd
  dsimp only at kd kq
  obtain ⟨ar, a⟩ := hr39y v9 w9 h9 g9
  rw [qComp_a (by omega)]
  refine ⟨h0, ?_⟩
  first
  | (rw [a.1 (by omega), decide_eq_true (show k2.toInt = 25 by omega)]; exact QW.bool q1 (by decide +kernel) (by decide +kernel))
  | (rw [a.1 (by omega), decide_eq_false (show ¬ k2.toInt = 25 by omega)]; exact QW.bool q1 (by decide +kernel) (by decide +kernel))
  | (rw [a.2 (by omega), decide_eq_true (show k2.toInt = 25 by omega)]; exact QW.bool q1 (by decide +kernel) (by decide +kernel))
  | (rw [a.2 (by omega), decide_eq_false (show ¬ k2.toInt = 25 by omega)]; exact QW.bool q1 (by decide +kernel) (by decide +kernel))
  | (exfalso; omega)
-- post2 @175
theorem v_compare_28 (σ : RS) (k0 : Int32) (k1 : Int32) (k2 : Int32) (r39 : Int32) (hpre_0 : 0 ≤ k0.toInt) (hpre_1 : k0.toInt < 980) (hpre_2 : 0 ≤ k1.toInt) (hpre_3 : k1.toInt < 980) (hpre_4 : ((σ.2.1 51) k0.toNatClampNeg).toInt = 3 → FN ((σ.2.2.2) k0.toNatClampNeg)) (hpre_5 : ((σ.2.1 51) k1.toNatClampNeg).toInt = 3 → FN ((σ.2.2.2) k1.toNatClampNeg)) (hpre_6 : (σ.1 56).toInt = 0) (c1 : 25 ≤ k2.toInt) (hr39y : ∀ v9 w9 : QV, QAT (qH (σ.2.1 36) (σ.2.1 37) (σ.2.1 38) (σ.2.1 39) (σ.2.1 40) (σ.2.1 41) (σ.2.1 42) (σ.2.1 43) (σ.2.1 44) (σ.2.1 45) (σ.2.1 46) (σ.2.1 48)) (σ.1 47).toInt ((σ.2.1 51), (σ.2.2.1 52), (σ.2.2.1 53), (σ.2.2.2)) k0.toNatClampNeg v9 → QAT (qH (σ.2.1 36) (σ.2.1 37) (σ.2.1 38) (σ.2.1 39) (σ.2.1 40) (σ.2.1 41) (σ.2.1 42) (σ.2.1 43) (σ.2.1 44) (σ.2.1 45) (σ.2.1 46) (σ.2.1 48)) (σ.1 47).toInt ((σ.2.1 51), (σ.2.2.1 52), (σ.2.2.1 53), (σ.2.2.2)) k1.toNatClampNeg w9 → (r39.toInt = 0 ∨ r39.toInt = 1) ∧ (r39.toInt = 0 → qSame v9 w9 = false) ∧ (¬ r39.toInt = 0 → qSame v9 w9 = true)) (c40 : k2.toInt = 25) (c46 : r39.toInt = 1) : ∀ v9 w9 : QV, QAT (qH (σ.2.1 36) (σ.2.1 37) (σ.2.1 38) (σ.2.1 39) (σ.2.1 40) (σ.2.1 41) (σ.2.1 42) (σ.2.1 43) (σ.2.1 44) (σ.2.1 45) (σ.2.1 46) (σ.2.1 48)) (σ.1 47).toInt ((σ.2.1 51), (σ.2.2.1 52), (σ.2.2.1 53), (σ.2.2.2)) k0.toNatClampNeg v9 → QAT (qH (σ.2.1 36) (σ.2.1 37) (σ.2.1 38) (σ.2.1 39) (σ.2.1 40) (σ.2.1 41) (σ.2.1 42) (σ.2.1 43) (σ.2.1 44) (σ.2.1 45) (σ.2.1 46) (σ.2.1 48)) (σ.1 47).toInt ((σ.2.1 51), (σ.2.2.1 52), (σ.2.2.1 53), (σ.2.2.2)) k1.toNatClampNeg w9 → (σ.1 56).toInt = 0 → (21 ≤ k2.toInt ∧ k2.toInt ≤ 26) → QRES (qH (σ.2.1 36) (σ.2.1 37) (σ.2.1 38) (σ.2.1 39) (σ.2.1 40) (σ.2.1 41) (σ.2.1 42) (σ.2.1 43) (σ.2.1 44) (σ.2.1 45) (σ.2.1 46) (σ.2.1 48)) (σ.1 47).toInt ((σ.2.1 51), (σ.2.2.1 52), (σ.2.2.1 53), (σ.2.2.2)) ((upd (σ.2.1 51) k0.toNatClampNeg (1 : Int32)), (vp_updL (σ.2.2.1 52) k0.toNatClampNeg (1 : Int64)), (vp_updL (σ.2.2.1 53) k0.toNatClampNeg (0 : Int64)), (vf_upd (σ.2.2.2) k0.toNatClampNeg FP.dconst0)) k0.toNatClampNeg (σ.1 56).toInt (qComp v9 w9 k2.toInt) := by
  have q1 : (1 : Int32).toInt = 1 := by decide +kernel
  have ql0 : (0 : Int64).toInt = 0 := by decide +kernel
  have ql1 : (1 : Int64).toInt = 1 := by decide +kernel
  intro v9 w9 h9 g9 h0 hs
  have kd := h9.kd
  have kq := g9.kd
  dsimp only at kd kq
  obtain ⟨ar, a⟩ := hr39y v9 w9 h9 g9
  rw [qComp_a (by omega)]
  refine ⟨h0, ?_⟩
  first
  | (rw [a.1 (by omega), decide_eq_true (show k2.toInt = 25 by omega)]; exact QW.bool q1 (by decide +kernel) (by decide +kernel))
  | (rw [a.1 (by omega), decide_eq_false (show ¬ k2.toInt = 25 by omega)]; exact QW.bool q1 (by decide +kernel) (by decide +kernel))
  | (rw [a.2 (by omega), decide_eq_true (show k2.toInt = 25 by omega)]; exact QW.bool q1 (by decide +kernel) (by decide +kernel))
  | (rw [a.2 (by omega), decide_eq_false (show ¬ k2.toInt = 25 by omega)]; exact QW.bool q1 (by decide +kernel) (by decide +kernel))
  | (exfalso; omega)
set_option maxHeartbeats 4000000 in
set_option maxRecDepth 100000 in
theorem M_compare (l : Launch) (D : va_G) (cy : Nat → ClassId) (sz0 : Nat) (sa : Nat → Nat) (ad : Nat → Nat) (σ : RS) (sz : Nat) (k0 : Int32) (k1 : Int32) (k2 : Int32) (hpre : 0 ≤ k0.toInt ∧ k0.toInt < 980 ∧ 0 ≤ k1.toInt ∧ k1.toInt < 980 ∧ (((σ.2.1 51) k0.toNatClampNeg).toInt = 3 → FN ((σ.2.2.2) k0.toNatClampNeg)) ∧ (((σ.2.1 51) k1.toNatClampNeg).toInt = 3 → FN ((σ.2.2.2) k1.toNatClampNeg)) ∧ (σ.1 56).toInt = 0) : Met l yX12_compare (Cond.code yX12_compare cX12_compare 9 none :: GWm) ({ frames := 2, cells := 0, slots := 0, locals := 43 }) (PcR D cy sz0 sa ad [.ref (ad 0), .int k0, .int k1, .int k2] σ sz) (va_Qv (fun (u : (Nat → Int32) × (Nat → Int64) × (Nat → Int64) × (Nat → UInt64) × Int32) => (0 ≤ u.2.2.2.2.toInt ∧ u.2.2.2.2.toInt ≤ 11 ∧ Cell1 (σ.2.1 51) u.1 (σ.2.2.1 52) u.2.1 (σ.2.2.2) u.2.2.2.1 k0.toNatClampNeg (fun k v r => k = 1)) ∧ (∀ v9 w9 : QV, QAT (qH (σ.2.1 36) (σ.2.1 37) (σ.2.1 38) (σ.2.1 39) (σ.2.1 40) (σ.2.1 41) (σ.2.1 42) (σ.2.1 43) (σ.2.1 44) (σ.2.1 45) (σ.2.1 46) (σ.2.1 48)) (σ.1 47).toInt ((σ.2.1 51), (σ.2.2.1 52), (σ.2.2.1 53), (σ.2.2.2)) k0.toNatClampNeg v9 → QAT (qH (σ.2.1 36) (σ.2.1 37) (σ.2.1 38) (σ.2.1 39) (σ.2.1 40) (σ.2.1 41) (σ.2.1 42) (σ.2.1 43) (σ.2.1 44) (σ.2.1 45) (σ.2.1 46) (σ.2.1 48)) (σ.1 47).toInt ((σ.2.1 51), (σ.2.2.1 52), (σ.2.2.1 53), (σ.2.2.2)) k1.toNatClampNeg w9 → (σ.1 56).toInt = 0 → (21 ≤ k2.toInt ∧ k2.toInt ≤ 26) → QRES (qH (σ.2.1 36) (σ.2.1 37) (σ.2.1 38) (σ.2.1 39) (σ.2.1 40) (σ.2.1 41) (σ.2.1 42) (σ.2.1 43) (σ.2.1 44) (σ.2.1 45) (σ.2.1 46) (σ.2.1 48)) (σ.1 47).toInt ((σ.2.1 51), (σ.2.2.1 52), (σ.2.2.1 53), (σ.2.2.2)) (u.1, u.2.1, u.2.2.1, u.2.2.2.1) k0.toNatClampNeg u.2.2.2.2.toInt (qComp v9 w9 k2.toInt))) (fun (u : (Nat → Int32) × (Nat → Int64) × (Nat → Int64) × (Nat → UInt64) × Int32) (t : State) => RP D cy ad (rS (rR (rJ (rJ (rA σ 51 u.1) 52 u.2.1) 53 u.2.2.1) u.2.2.2.1) 56 u.2.2.2.2) t.heap) (AR cy ad sz)) 0 0 (AR cy ad sz) := by
  refine RM_of (loc0 := [(0, .ref (ad 0)), (1, .int k0), (2, .int k1), (3, .int k2)]) (by decide) rfl rfl (Nat.le_of_ble_eq_true rfl) ?_
  intro p e s m below meth c ls hsz C hP hS hl
  have hx := C.1
  have hb := C.2.1
  have hown := C.2.2.2.2.1
  have hw := C.2.2.2.2.2.1
  clear hsz
  obtain ⟨hpre_0, hpre_1, hpre_2, hpre_3, hpre_4, hpre_5, hpre_6⟩ := hpre
  refine lv_iconst (v := 0) hx hb dX12_compare_0 (by decide +kernel) ?_
  refine lv_istore (lv' := [(4, .int 0), (0, .ref (ad 0)), (1, .int k0), (2, .int k1), (3, .int k2)]) hx hb dX12_compare_1 hl (by decide) rfl (fun ls hl => ?_)
  refine lv_iload_n hx hb dX12_compare_3 rfl (lv_at hl 4 rfl) ?_
  refine lv_bipush (v := 25) hx hb dX12_compare_4 (by decide +kernel) ?_
  refine lv_icmp_lt (tgt := 39) hx hb dX12_compare_6 (by decide) (fun c1 => ?_) (fun c1 => ?_)
  · have c1 : k2.toInt < 25 := by have h := z_lt c1; rw [show (25 : Int32).toInt = 25 from by decide +kernel] at h; exact h
    refine lv_aload_n hx hb dX12_compare_39 rfl (lv_at hl 1 rfl) ?_
    refine lv_iload_n hx hb dX12_compare_40 rfl (lv_at hl 2 rfl) ?_
    refine r_callVi (As := [.int k0]) (rest := []) C hP hS hl.1 ⟨Nat.zero_le _, Nat.zero_le _⟩ (M_isNumber l D cy sz0 sa ad σ s.heap.size k0 (v_compare_1 σ k0 k1 hpre_0 hpre_1 hpre_2 hpre_3 hpre_4 hpre_5)) (n := 1) ⟨wm_295, wm_281, by decide +kernel⟩ ⟨wm_296, wm_297, wm_10⟩ rfl rfl (lv_room (Nat.le_of_ble_eq_true rfl)) ⟨Nat.le_of_ble_eq_true rfl, Nat.le_of_ble_eq_true rfl⟩ dX12_compare_41 (fun r2 u H locs hr2 hP hS => ?_)
    have hr2 : (r2.toInt = 0 ∧ ¬ (((σ.2.1 51) k0.toNatClampNeg).toInt = 2 ∨ ((σ.2.1 51) k0.toNatClampNeg).toInt = 3)) ∨ (r2.toInt = 1 ∧ (((σ.2.1 51) k0.toNatClampNeg).toInt = 2 ∨ ((σ.2.1 51) k0.toNatClampNeg).toInt = 3)) := hr2
    refine lv_if_eq (tgt := 55) hx hb dX12_compare_44 (by decide) (fun c3 => ?_) (fun c3 => ?_)
    · have c3 : r2.toInt = 0 := by have h := z_eq c3; rw [show (0 : Int32).toInt = 0 from by decide +kernel] at h; exact h
      have hr2 : ¬ (((σ.2.1 51) k0.toNatClampNeg).toInt = 2 ∨ ((σ.2.1 51) k0.toNatClampNeg).toInt = 3) := bq_f hr2 c3
      refine lv_aload_n hx hb dX12_compare_55 rfl (lv_at hl 1 rfl) ?_
      refine lv_iconst (v := 1) hx hb dX12_compare_56 (by decide +kernel) ?_
      refine rp_56 C hP hS wm_242 dX12_compare_57 (fun H locs hP hS => ?_)
      refine lv_goto (tgt := 158) hx hb dX12_compare_60 (by decide) ?_
      refine lv_aload_n hx hb dX12_compare_158 rfl (lv_at hl 1 rfl) ?_
      refine lv_iload_n hx hb dX12_compare_159 rfl (lv_at hl 2 rfl) ?_
      refine lv_iconst (v := 1) hx hb dX12_compare_160 (by decide +kernel) ?_
      refine lv_iload hx hb dX12_compare_161 (lv_at hl 0 rfl) ?_
      refine lv_if_eq (tgt := 170) hx hb dX12_compare_163 (by decide) (fun _ => ?_) (fun c4 => absurd (by decide +kernel) c4)
      refine lv_lconst (v := 0) hx hb dX12_compare_170 rfl ?_
      refine lv_dconst0 hx hb dX12_compare_171 ?_
      refine r_callVv (As := [.int k0, .int 1, .long 0, .double FP.dconst0]) (rest := []) C hP hS hl.1 ⟨Nat.zero_le _, Nat.zero_le _⟩ (M_set l D cy sz0 sa ad (rS σ 56 (1 : Int32)) H.size k0 (1 : Int32) (0 : Int64) FP.dconst0 (v_compare_2 σ k0 k1 hpre_0 hpre_1 hpre_2 hpre_3 hpre_4 hpre_5 hr2)) (n := 4) ⟨wm_213, wm_207, by decide +kernel⟩ ⟨wm_214, wm_215, wm_10⟩ rfl rfl (lv_room (Nat.le_of_ble_eq_true rfl)) ⟨Nat.le_of_ble_eq_true rfl, Nat.le_of_ble_eq_true rfl⟩ dX12_compare_172 (fun u H locs hr5 hP hS => ?_)
      have hr5 : True := hr5
      have hP : RP D cy ad (rR (rJ (rJ (rA (rS σ 56 (1 : Int32)) 51 (upd (σ.2.1 51) k0.toNatClampNeg (1 : Int32))) 52 (vp_updL (σ.2.2.1 52) k0.toNatClampNeg (0 : Int64))) 53 (vp_updL (σ.2.2.1 53) k0.toNatClampNeg (0 : Int64))) (vf_upd (σ.2.2.2) k0.toNatClampNeg FP.dconst0)) H := hP
      have hP : RP D cy ad (rS (rR (rJ (rJ (rA σ 51 (upd (σ.2.1 51) k0.toNatClampNeg (1 : Int32))) 52 (vp_updL (σ.2.2.1 52) k0.toNatClampNeg (0 : Int64))) 53 (vp_updL (σ.2.2.1 53) k0.toNatClampNeg (0 : Int64))) (vf_upd (σ.2.2.2) k0.toNatClampNeg FP.dconst0)) 56 (1 : Int32)) H := RP.cong hP (Eq.trans (b := (σ.1 0)) rfl rfl) (Eq.trans (b := (σ.1 1)) rfl rfl) (Eq.trans (b := (σ.2.1 2)) rfl rfl) (Eq.trans (b := (σ.1 3)) rfl rfl) (Eq.trans (b := (σ.2.1 4)) rfl rfl) (Eq.trans (b := (σ.2.1 5)) rfl rfl) (Eq.trans (b := (σ.2.2.1 6)) rfl rfl) (Eq.trans (b := (σ.2.1 7)) rfl rfl) (Eq.trans (b := (σ.1 8)) rfl rfl) (Eq.trans (b := (σ.1 9)) rfl rfl) (Eq.trans (b := (σ.1 10)) rfl rfl) (Eq.trans (b := (σ.2.1 11)) rfl rfl) (Eq.trans (b := (σ.2.2.1 12)) rfl rfl) (Eq.trans (b := (σ.2.1 13)) rfl rfl) (Eq.trans (b := (σ.1 14)) rfl rfl) (Eq.trans (b := (σ.1 15)) rfl rfl) (Eq.trans (b := (σ.1 16)) rfl rfl) (Eq.trans (b := (σ.1 17)) rfl rfl) (Eq.trans (b := (σ.1 18)) rfl rfl) (Eq.trans (b := (σ.1 19)) rfl rfl) (Eq.trans (b := (σ.2.1 20)) rfl rfl) (Eq.trans (b := (σ.2.1 21)) rfl rfl) (Eq.trans (b := (σ.2.1 22)) rfl rfl) (Eq.trans (b := (σ.2.1 23)) rfl rfl) (Eq.trans (b := (σ.2.1 24)) rfl rfl) (Eq.trans (b := (σ.2.1 25)) rfl rfl) (Eq.trans (b := (σ.2.1 26)) rfl rfl) (Eq.trans (b := (σ.2.1 27)) rfl rfl) (Eq.trans (b := (σ.2.1 28)) rfl rfl) (Eq.trans (b := (σ.1 29)) rfl rfl) (Eq.trans (b := (σ.2.1 30)) rfl rfl) (Eq.trans (b := (σ.2.1 31)) rfl rfl) (Eq.trans (b := (σ.2.1 32)) rfl rfl) (Eq.trans (b := (σ.1 33)) rfl rfl) (Eq.trans (b := (σ.1 34)) rfl rfl) (Eq.trans (b := (σ.1 35)) rfl rfl) (Eq.trans (b := (σ.2.1 36)) rfl rfl) (Eq.trans (b := (σ.2.1 37)) rfl rfl) (Eq.trans (b := (σ.2.1 38)) rfl rfl) (Eq.trans (b := (σ.2.1 39)) rfl rfl) (Eq.trans (b := (σ.2.1 40)) rfl rfl) (Eq.trans (b := (σ.2.1 41)) rfl rfl) (Eq.trans (b := (σ.2.1 42)) rfl rfl) (Eq.trans (b := (σ.2.1 43)) rfl rfl) (Eq.trans (b := (σ.2.1 44)) rfl rfl) (Eq.trans (b := (σ.2.1 45)) rfl rfl) (Eq.trans (b := (σ.2.1 46)) rfl rfl) (Eq.trans (b := (σ.1 47)) rfl rfl) (Eq.trans (b := (σ.2.1 48)) rfl rfl) (Eq.trans (b := (σ.1 49)) rfl rfl) (Eq.trans (b := (σ.2.1 50)) rfl rfl) (Eq.trans (b := (upd (σ.2.1 51) k0.toNatClampNeg (1 : Int32))) rfl rfl) (Eq.trans (b := (vp_updL (σ.2.2.1 52) k0.toNatClampNeg (0 : Int64))) rfl rfl) (Eq.trans (b := (vp_updL (σ.2.2.1 53) k0.toNatClampNeg (0 : Int64))) rfl rfl) (Eq.trans (b := (vf_upd (σ.2.2.2) k0.toNatClampNeg FP.dconst0)) rfl rfl) (Eq.trans (b := (σ.1 55)) rfl rfl) (Eq.trans (b := (1 : Int32)) rfl rfl) (Eq.trans (b := (σ.1 57)) rfl rfl) (Eq.trans (b := (σ.2.1 58)) rfl rfl) (Eq.trans (b := (σ.1 59)) rfl rfl)
      exact r_retv C ⟨(upd (σ.2.1 51) k0.toNatClampNeg (1 : Int32)), (vp_updL (σ.2.2.1 52) k0.toNatClampNeg (0 : Int64)), (vp_updL (σ.2.2.1 53) k0.toNatClampNeg (0 : Int64)), (vf_upd (σ.2.2.2) k0.toNatClampNeg FP.dconst0), (1 : Int32)⟩ ⟨(v_compare_3 σ k0 k1 hpre_0 hpre_1 hpre_2 hpre_3 hpre_4 hpre_5 hr2), (v_compare_4 σ k0 k1 k2 r2 hpre_0 hpre_1 hpre_2 hpre_3 hpre_4 hpre_5 hpre_6 c1 hr2 c3)⟩ hP hS dX12_compare_175
    · have c3 : ¬ r2.toInt = 0 := by have h := z_ne c3; rw [show (0 : Int32).toInt = 0 from by decide +kernel] at h; exact h
      have hr2v : r2.toInt = 1 := hr2.elim (fun h9 => absurd h9.1 c3) (fun h9 => h9.1)
      have hr2 : ((σ.2.1 51) k0.toNatClampNeg).toInt = 2 ∨ ((σ.2.1 51) k0.toNatClampNeg).toInt = 3 := bq_t hr2 c3
      refine lv_aload_n hx hb dX12_compare_47 rfl (lv_at hl 1 rfl) ?_
      refine lv_iload_n hx hb dX12_compare_48 rfl (lv_at hl 3 rfl) ?_
      refine r_callVi (As := [.int k1]) (rest := []) C hP hS hl.1 ⟨Nat.zero_le _, Nat.zero_le _⟩ (M_isNumber l D cy sz0 sa ad σ H.size k1 (v_compare_5 σ k0 k1 hpre_0 hpre_1 hpre_2 hpre_3 hpre_4 hpre_5 hr2)) (n := 1) ⟨wm_295, wm_281, by decide +kernel⟩ ⟨wm_296, wm_297, wm_10⟩ rfl rfl (lv_room (Nat.le_of_ble_eq_true rfl)) ⟨Nat.le_of_ble_eq_true rfl, Nat.le_of_ble_eq_true rfl⟩ dX12_compare_49 (fun r6 u H locs hr6 hP hS => ?_)
      have hr6 : (r6.toInt = 0 ∧ ¬ (((σ.2.1 51) k1.toNatClampNeg).toInt = 2 ∨ ((σ.2.1 51) k1.toNatClampNeg).toInt = 3)) ∨ (r6.toInt = 1 ∧ (((σ.2.1 51) k1.toNatClampNeg).toInt = 2 ∨ ((σ.2.1 51) k1.toNatClampNeg).toInt = 3)) := hr6
      refine lv_if_ne (tgt := 63) hx hb dX12_compare_52 (by decide) (fun c7 => ?_) (fun c7 => ?_)
      · have c7 : ¬ r6.toInt = 0 := by have h := z_ne c7; rw [show (0 : Int32).toInt = 0 from by decide +kernel] at h; exact h
        have hr6v : r6.toInt = 1 := hr6.elim (fun h9 => absurd h9.1 c7) (fun h9 => h9.1)
        have hr6 : ((σ.2.1 51) k1.toNatClampNeg).toInt = 2 ∨ ((σ.2.1 51) k1.toNatClampNeg).toInt = 3 := bq_t hr6 c7
        refine lv_aload_n hx hb dX12_compare_63 rfl (lv_at hl 1 rfl) ?_
        refine lv_iload_n hx hb dX12_compare_64 rfl (lv_at hl 2 rfl) ?_
        refine r_callVd (As := [.int k0]) (rest := []) C hP hS hl.1 ⟨Nat.zero_le _, Nat.zero_le _⟩ (M_realOf l D cy sz0 sa ad σ H.size k0 (v_compare_6 σ k0 k1 hpre_0 hpre_1 hpre_2 hpre_3 hpre_4 hpre_5 hr2 hr6)) (n := 1) ⟨wm_287, wm_282, by decide +kernel⟩ ⟨wm_288, wm_289, wm_10⟩ rfl rfl (lv_room (Nat.le_of_ble_eq_true rfl)) ⟨Nat.le_of_ble_eq_true rfl, Nat.le_of_ble_eq_true rfl⟩ dX12_compare_65 (fun r8 u H locs hr8 hP hS => ?_)
        obtain ⟨hr8, hr8y⟩ := hr8
        have hr8y : ∀ v9 : QV, QAT (qH (σ.2.1 36) (σ.2.1 37) (σ.2.1 38) (σ.2.1 39) (σ.2.1 40) (σ.2.1 41) (σ.2.1 42) (σ.2.1 43) (σ.2.1 44) (σ.2.1 45) (σ.2.1 46) (σ.2.1 48)) (σ.1 47).toInt ((σ.2.1 51), (σ.2.2.1 52), (σ.2.2.1 53), (σ.2.2.2)) k0.toNatClampNeg v9 → qNum v9 = true → r8 = qRe v9 := hr8y
        have hr8 : FN r8 := hr8
        refine lv_dstore (lv' := [(5, .double r8), (4, .int 0), (0, .ref (ad 0)), (1, .int k0), (2, .int k1), (3, .int k2)]) hx hb dX12_compare_68 hl (by decide) rfl (fun ls hl => ?_)
        refine lv_aload_n hx hb dX12_compare_70 rfl (lv_at hl 2 rfl) ?_
        refine lv_iload_n hx hb dX12_compare_71 rfl (lv_at hl 4 rfl) ?_
        refine r_callVd (As := [.int k1]) (rest := []) C hP hS hl.1 ⟨Nat.zero_le _, Nat.zero_le _⟩ (M_realOf l D cy sz0 sa ad σ H.size k1 (v_compare_7 σ k0 k1 hpre_0 hpre_1 hpre_2 hpre_3 hpre_4 hpre_5 hr2 hr6)) (n := 1) ⟨wm_287, wm_282, by decide +kernel⟩ ⟨wm_288, wm_289, wm_10⟩ rfl rfl (lv_room (Nat.le_of_ble_eq_true rfl)) ⟨Nat.le_of_ble_eq_true rfl, Nat.le_of_ble_eq_true rfl⟩ dX12_compare_72 (fun r9 u H locs hr9 hP hS => ?_)
        obtain ⟨hr9, hr9y⟩ := hr9
        have hr9y : ∀ v9 : QV, QAT (qH (σ.2.1 36) (σ.2.1 37) (σ.2.1 38) (σ.2.1 39) (σ.2.1 40) (σ.2.1 41) (σ.2.1 42) (σ.2.1 43) (σ.2.1 44) (σ.2.1 45) (σ.2.1 46) (σ.2.1 48)) (σ.1 47).toInt ((σ.2.1 51), (σ.2.2.1 52), (σ.2.2.1 53), (σ.2.2.2)) k1.toNatClampNeg v9 → qNum v9 = true → r9 = qRe v9 := hr9y
        have hr9 : FN r9 := hr9
        refine lv_dstore (lv' := [(7, .double r9), (5, .double r8), (4, .int 0), (0, .ref (ad 0)), (1, .int k0), (2, .int k1), (3, .int k2)]) hx hb dX12_compare_75 hl (by decide) rfl (fun ls hl => ?_)
        refine lv_iload_n hx hb dX12_compare_77 rfl (lv_at hl 6 rfl) ?_
        refine lv_bipush (v := 21) hx hb dX12_compare_78 (by decide +kernel) ?_
        refine lv_icmp_ne (tgt := 99) hx hb dX12_compare_80 (by decide) (fun c10 => ?_) (fun c10 => ?_)
        · have c10 : ¬ k2.toInt = 21 := by have h := z_ne c10; rw [show (21 : Int32).toInt = 21 from by decide +kernel] at h; exact h
          refine lv_iload_n hx hb dX12_compare_99 rfl (lv_at hl 6 rfl) ?_
          refine lv_bipush (v := 22) hx hb dX12_compare_100 (by decide +kernel) ?_
          refine lv_icmp_ne (tgt := 121) hx hb dX12_compare_102 (by decide) (fun c11 => ?_) (fun c11 => ?_)
          · have c11 : ¬ k2.toInt = 22 := by have h := z_ne c11; rw [show (22 : Int32).toInt = 22 from by decide +kernel] at h; exact h
            refine lv_iload_n hx hb dX12_compare_121 rfl (lv_at hl 6 rfl) ?_
            refine lv_bipush (v := 23) hx hb dX12_compare_122 (by decide +kernel) ?_
            refine lv_icmp_ne (tgt := 143) hx hb dX12_compare_124 (by decide) (fun c12 => ?_) (fun c12 => ?_)
            · have c12 : ¬ k2.toInt = 23 := by have h := z_ne c12; rw [show (23 : Int32).toInt = 23 from by decide +kernel] at h; exact h
              refine lv_dload hx hb dX12_compare_143 (lv_at hl 1 rfl) ?_
              refine lv_dload hx hb dX12_compare_145 (lv_at hl 0 rfl) ?_
              refine lv_dcmp hx hb dX12_compare_147 ?_
              refine lv_topi (fun x13 ex13 => ?_)
              refine lv_if_lt (tgt := 155) hx hb dX12_compare_148 (by decide) (fun c14 => ?_) (fun c14 => ?_)
              · have c14 : x13.toInt < 0 := by have h := z_lt c14; rw [show (0 : Int32).toInt = 0 from by decide +kernel] at h; exact h
                refine lv_iconst (v := 0) hx hb dX12_compare_155 (by decide +kernel) ?_
                refine lv_istore (lv' := [(4, .int 0), (7, .double r9), (5, .double r8), (0, .ref (ad 0)), (1, .int k0), (2, .int k1), (3, .int k2)]) hx hb dX12_compare_156 hl (by decide) rfl (fun ls hl => ?_)
                refine lv_aload_n hx hb dX12_compare_158 rfl (lv_at hl 3 rfl) ?_
                refine lv_iload_n hx hb dX12_compare_159 rfl (lv_at hl 4 rfl) ?_
                refine lv_iconst (v := 1) hx hb dX12_compare_160 (by decide +kernel) ?_
                refine lv_iload hx hb dX12_compare_161 (lv_at hl 0 rfl) ?_
                refine lv_if_eq (tgt := 170) hx hb dX12_compare_163 (by decide) (fun _ => ?_) (fun c15 => absurd (by decide +kernel) c15)
                refine lv_lconst (v := 0) hx hb dX12_compare_170 rfl ?_
                refine lv_dconst0 hx hb dX12_compare_171 ?_
                refine r_callVv (As := [.int k0, .int 1, .long 0, .double FP.dconst0]) (rest := []) C hP hS hl.1 ⟨Nat.zero_le _, Nat.zero_le _⟩ (M_set l D cy sz0 sa ad σ H.size k0 (1 : Int32) (0 : Int64) FP.dconst0 (v_compare_8 σ k0 k1 hpre_0 hpre_1 hpre_2 hpre_3 hpre_4 hpre_5 hr2 hr6)) (n := 4) ⟨wm_213, wm_207, by decide +kernel⟩ ⟨wm_214, wm_215, wm_10⟩ rfl rfl (lv_room (Nat.le_of_ble_eq_true rfl)) ⟨Nat.le_of_ble_eq_true rfl, Nat.le_of_ble_eq_true rfl⟩ dX12_compare_172 (fun u H locs hr16 hP hS => ?_)
                have hr16 : True := hr16
                have hP : RP D cy ad (rR (rJ (rJ (rA σ 51 (upd (σ.2.1 51) k0.toNatClampNeg (1 : Int32))) 52 (vp_updL (σ.2.2.1 52) k0.toNatClampNeg (0 : Int64))) 53 (vp_updL (σ.2.2.1 53) k0.toNatClampNeg (0 : Int64))) (vf_upd (σ.2.2.2) k0.toNatClampNeg FP.dconst0)) H := hP
                have hP : RP D cy ad (rS (rR (rJ (rJ (rA σ 51 (upd (σ.2.1 51) k0.toNatClampNeg (1 : Int32))) 52 (vp_updL (σ.2.2.1 52) k0.toNatClampNeg (0 : Int64))) 53 (vp_updL (σ.2.2.1 53) k0.toNatClampNeg (0 : Int64))) (vf_upd (σ.2.2.2) k0.toNatClampNeg FP.dconst0)) 56 (σ.1 56)) H := RP.cong hP (Eq.trans (b := (σ.1 0)) rfl rfl) (Eq.trans (b := (σ.1 1)) rfl rfl) (Eq.trans (b := (σ.2.1 2)) rfl rfl) (Eq.trans (b := (σ.1 3)) rfl rfl) (Eq.trans (b := (σ.2.1 4)) rfl rfl) (Eq.trans (b := (σ.2.1 5)) rfl rfl) (Eq.trans (b := (σ.2.2.1 6)) rfl rfl) (Eq.trans (b := (σ.2.1 7)) rfl rfl) (Eq.trans (b := (σ.1 8)) rfl rfl) (Eq.trans (b := (σ.1 9)) rfl rfl) (Eq.trans (b := (σ.1 10)) rfl rfl) (Eq.trans (b := (σ.2.1 11)) rfl rfl) (Eq.trans (b := (σ.2.2.1 12)) rfl rfl) (Eq.trans (b := (σ.2.1 13)) rfl rfl) (Eq.trans (b := (σ.1 14)) rfl rfl) (Eq.trans (b := (σ.1 15)) rfl rfl) (Eq.trans (b := (σ.1 16)) rfl rfl) (Eq.trans (b := (σ.1 17)) rfl rfl) (Eq.trans (b := (σ.1 18)) rfl rfl) (Eq.trans (b := (σ.1 19)) rfl rfl) (Eq.trans (b := (σ.2.1 20)) rfl rfl) (Eq.trans (b := (σ.2.1 21)) rfl rfl) (Eq.trans (b := (σ.2.1 22)) rfl rfl) (Eq.trans (b := (σ.2.1 23)) rfl rfl) (Eq.trans (b := (σ.2.1 24)) rfl rfl) (Eq.trans (b := (σ.2.1 25)) rfl rfl) (Eq.trans (b := (σ.2.1 26)) rfl rfl) (Eq.trans (b := (σ.2.1 27)) rfl rfl) (Eq.trans (b := (σ.2.1 28)) rfl rfl) (Eq.trans (b := (σ.1 29)) rfl rfl) (Eq.trans (b := (σ.2.1 30)) rfl rfl) (Eq.trans (b := (σ.2.1 31)) rfl rfl) (Eq.trans (b := (σ.2.1 32)) rfl rfl) (Eq.trans (b := (σ.1 33)) rfl rfl) (Eq.trans (b := (σ.1 34)) rfl rfl) (Eq.trans (b := (σ.1 35)) rfl rfl) (Eq.trans (b := (σ.2.1 36)) rfl rfl) (Eq.trans (b := (σ.2.1 37)) rfl rfl) (Eq.trans (b := (σ.2.1 38)) rfl rfl) (Eq.trans (b := (σ.2.1 39)) rfl rfl) (Eq.trans (b := (σ.2.1 40)) rfl rfl) (Eq.trans (b := (σ.2.1 41)) rfl rfl) (Eq.trans (b := (σ.2.1 42)) rfl rfl) (Eq.trans (b := (σ.2.1 43)) rfl rfl) (Eq.trans (b := (σ.2.1 44)) rfl rfl) (Eq.trans (b := (σ.2.1 45)) rfl rfl) (Eq.trans (b := (σ.2.1 46)) rfl rfl) (Eq.trans (b := (σ.1 47)) rfl rfl) (Eq.trans (b := (σ.2.1 48)) rfl rfl) (Eq.trans (b := (σ.1 49)) rfl rfl) (Eq.trans (b := (σ.2.1 50)) rfl rfl) (Eq.trans (b := (upd (σ.2.1 51) k0.toNatClampNeg (1 : Int32))) rfl rfl) (Eq.trans (b := (vp_updL (σ.2.2.1 52) k0.toNatClampNeg (0 : Int64))) rfl rfl) (Eq.trans (b := (vp_updL (σ.2.2.1 53) k0.toNatClampNeg (0 : Int64))) rfl rfl) (Eq.trans (b := (vf_upd (σ.2.2.2) k0.toNatClampNeg FP.dconst0)) rfl rfl) (Eq.trans (b := (σ.1 55)) rfl rfl) (Eq.trans (b := (σ.1 56)) rfl rfl) (Eq.trans (b := (σ.1 57)) rfl rfl) (Eq.trans (b := (σ.2.1 58)) rfl rfl) (Eq.trans (b := (σ.1 59)) rfl rfl)
                exact r_retv C ⟨(upd (σ.2.1 51) k0.toNatClampNeg (1 : Int32)), (vp_updL (σ.2.2.1 52) k0.toNatClampNeg (0 : Int64)), (vp_updL (σ.2.2.1 53) k0.toNatClampNeg (0 : Int64)), (vf_upd (σ.2.2.2) k0.toNatClampNeg FP.dconst0), (σ.1 56)⟩ ⟨(v_compare_9 σ k0 k1 hpre_0 hpre_1 hpre_2 hpre_3 hpre_4 hpre_5 hpre_6 hr2 hr6), (v_compare_10 σ k0 k1 k2 r2 r6 r8 r9 x13 hpre_0 hpre_1 hpre_2 hpre_3 hpre_4 hpre_5 hpre_6 c1 hr2 c3 hr2v hr6 c7 hr6v hr8y hr8 hr9y hr9 c10 c11 c12 ex13 c14)⟩ hP hS dX12_compare_175
              · have c14 : 0 ≤ x13.toInt := by have h := z_nlt c14; rw [show (0 : Int32).toInt = 0 from by decide +kernel] at h; exact h
                refine lv_iconst (v := 1) hx hb dX12_compare_151 (by decide +kernel) ?_
                refine lv_goto (tgt := 156) hx hb dX12_compare_152 (by decide) ?_
                refine lv_istore (lv' := [(4, .int 1), (7, .double r9), (5, .double r8), (0, .ref (ad 0)), (1, .int k0), (2, .int k1), (3, .int k2)]) hx hb dX12_compare_156 hl (by decide) rfl (fun ls hl => ?_)
                refine lv_aload_n hx hb dX12_compare_158 rfl (lv_at hl 3 rfl) ?_
                refine lv_iload_n hx hb dX12_compare_159 rfl (lv_at hl 4 rfl) ?_
                refine lv_iconst (v := 1) hx hb dX12_compare_160 (by decide +kernel) ?_
                refine lv_iload hx hb dX12_compare_161 (lv_at hl 0 rfl) ?_
                refine lv_if_eq (tgt := 170) hx hb dX12_compare_163 (by decide) (fun c17 => absurd c17 (by decide +kernel)) (fun _ => ?_)
                refine lv_lconst (v := 1) hx hb dX12_compare_166 rfl ?_
                refine lv_goto (tgt := 171) hx hb dX12_compare_167 (by decide) ?_
                refine lv_dconst0 hx hb dX12_compare_171 ?_
                refine r_callVv (As := [.int k0, .int 1, .long 1, .double FP.dconst0]) (rest := []) C hP hS hl.1 ⟨Nat.zero_le _, Nat.zero_le _⟩ (M_set l D cy sz0 sa ad σ H.size k0 (1 : Int32) (1 : Int64) FP.dconst0 (v_compare_8 σ k0 k1 hpre_0 hpre_1 hpre_2 hpre_3 hpre_4 hpre_5 hr2 hr6)) (n := 4) ⟨wm_213, wm_207, by decide +kernel⟩ ⟨wm_214, wm_215, wm_10⟩ rfl rfl (lv_room (Nat.le_of_ble_eq_true rfl)) ⟨Nat.le_of_ble_eq_true rfl, Nat.le_of_ble_eq_true rfl⟩ dX12_compare_172 (fun u H locs hr18 hP hS => ?_)
                have hr18 : True := hr18
                have hP : RP D cy ad (rR (rJ (rJ (rA σ 51 (upd (σ.2.1 51) k0.toNatClampNeg (1 : Int32))) 52 (vp_updL (σ.2.2.1 52) k0.toNatClampNeg (1 : Int64))) 53 (vp_updL (σ.2.2.1 53) k0.toNatClampNeg (0 : Int64))) (vf_upd (σ.2.2.2) k0.toNatClampNeg FP.dconst0)) H := hP
                have hP : RP D cy ad (rS (rR (rJ (rJ (rA σ 51 (upd (σ.2.1 51) k0.toNatClampNeg (1 : Int32))) 52 (vp_updL (σ.2.2.1 52) k0.toNatClampNeg (1 : Int64))) 53 (vp_updL (σ.2.2.1 53) k0.toNatClampNeg (0 : Int64))) (vf_upd (σ.2.2.2) k0.toNatClampNeg FP.dconst0)) 56 (σ.1 56)) H := RP.cong hP (Eq.trans (b := (σ.1 0)) rfl rfl) (Eq.trans (b := (σ.1 1)) rfl rfl) (Eq.trans (b := (σ.2.1 2)) rfl rfl) (Eq.trans (b := (σ.1 3)) rfl rfl) (Eq.trans (b := (σ.2.1 4)) rfl rfl) (Eq.trans (b := (σ.2.1 5)) rfl rfl) (Eq.trans (b := (σ.2.2.1 6)) rfl rfl) (Eq.trans (b := (σ.2.1 7)) rfl rfl) (Eq.trans (b := (σ.1 8)) rfl rfl) (Eq.trans (b := (σ.1 9)) rfl rfl) (Eq.trans (b := (σ.1 10)) rfl rfl) (Eq.trans (b := (σ.2.1 11)) rfl rfl) (Eq.trans (b := (σ.2.2.1 12)) rfl rfl) (Eq.trans (b := (σ.2.1 13)) rfl rfl) (Eq.trans (b := (σ.1 14)) rfl rfl) (Eq.trans (b := (σ.1 15)) rfl rfl) (Eq.trans (b := (σ.1 16)) rfl rfl) (Eq.trans (b := (σ.1 17)) rfl rfl) (Eq.trans (b := (σ.1 18)) rfl rfl) (Eq.trans (b := (σ.1 19)) rfl rfl) (Eq.trans (b := (σ.2.1 20)) rfl rfl) (Eq.trans (b := (σ.2.1 21)) rfl rfl) (Eq.trans (b := (σ.2.1 22)) rfl rfl) (Eq.trans (b := (σ.2.1 23)) rfl rfl) (Eq.trans (b := (σ.2.1 24)) rfl rfl) (Eq.trans (b := (σ.2.1 25)) rfl rfl) (Eq.trans (b := (σ.2.1 26)) rfl rfl) (Eq.trans (b := (σ.2.1 27)) rfl rfl) (Eq.trans (b := (σ.2.1 28)) rfl rfl) (Eq.trans (b := (σ.1 29)) rfl rfl) (Eq.trans (b := (σ.2.1 30)) rfl rfl) (Eq.trans (b := (σ.2.1 31)) rfl rfl) (Eq.trans (b := (σ.2.1 32)) rfl rfl) (Eq.trans (b := (σ.1 33)) rfl rfl) (Eq.trans (b := (σ.1 34)) rfl rfl) (Eq.trans (b := (σ.1 35)) rfl rfl) (Eq.trans (b := (σ.2.1 36)) rfl rfl) (Eq.trans (b := (σ.2.1 37)) rfl rfl) (Eq.trans (b := (σ.2.1 38)) rfl rfl) (Eq.trans (b := (σ.2.1 39)) rfl rfl) (Eq.trans (b := (σ.2.1 40)) rfl rfl) (Eq.trans (b := (σ.2.1 41)) rfl rfl) (Eq.trans (b := (σ.2.1 42)) rfl rfl) (Eq.trans (b := (σ.2.1 43)) rfl rfl) (Eq.trans (b := (σ.2.1 44)) rfl rfl) (Eq.trans (b := (σ.2.1 45)) rfl rfl) (Eq.trans (b := (σ.2.1 46)) rfl rfl) (Eq.trans (b := (σ.1 47)) rfl rfl) (Eq.trans (b := (σ.2.1 48)) rfl rfl) (Eq.trans (b := (σ.1 49)) rfl rfl) (Eq.trans (b := (σ.2.1 50)) rfl rfl) (Eq.trans (b := (upd (σ.2.1 51) k0.toNatClampNeg (1 : Int32))) rfl rfl) (Eq.trans (b := (vp_updL (σ.2.2.1 52) k0.toNatClampNeg (1 : Int64))) rfl rfl) (Eq.trans (b := (vp_updL (σ.2.2.1 53) k0.toNatClampNeg (0 : Int64))) rfl rfl) (Eq.trans (b := (vf_upd (σ.2.2.2) k0.toNatClampNeg FP.dconst0)) rfl rfl) (Eq.trans (b := (σ.1 55)) rfl rfl) (Eq.trans (b := (σ.1 56)) rfl rfl) (Eq.trans (b := (σ.1 57)) rfl rfl) (Eq.trans (b := (σ.2.1 58)) rfl rfl) (Eq.trans (b := (σ.1 59)) rfl rfl)
                exact r_retv C ⟨(upd (σ.2.1 51) k0.toNatClampNeg (1 : Int32)), (vp_updL (σ.2.2.1 52) k0.toNatClampNeg (1 : Int64)), (vp_updL (σ.2.2.1 53) k0.toNatClampNeg (0 : Int64)), (vf_upd (σ.2.2.2) k0.toNatClampNeg FP.dconst0), (σ.1 56)⟩ ⟨(v_compare_11 σ k0 k1 hpre_0 hpre_1 hpre_2 hpre_3 hpre_4 hpre_5 hpre_6 hr2 hr6), (v_compare_12 σ k0 k1 k2 r2 r6 r8 r9 x13 hpre_0 hpre_1 hpre_2 hpre_3 hpre_4 hpre_5 hpre_6 c1 hr2 c3 hr2v hr6 c7 hr6v hr8y hr8 hr9y hr9 c10 c11 c12 ex13 c14)⟩ hP hS dX12_compare_175
            · have c12 : k2.toInt = 23 := by have h := z_eq c12; rw [show (23 : Int32).toInt = 23 from by decide +kernel] at h; exact h
              refine lv_dload hx hb dX12_compare_127 (lv_at hl 1 rfl) ?_
              refine lv_dload hx hb dX12_compare_129 (lv_at hl 0 rfl) ?_
              refine lv_dcmp hx hb dX12_compare_131 ?_
              refine lv_topi (fun x19 ex19 => ?_)
              refine lv_if_gt (tgt := 139) hx hb dX12_compare_132 (by decide) (fun c20 => ?_) (fun c20 => ?_)
              · have c20 : 0 < x19.toInt := by have h := z_lt c20; rw [show (0 : Int32).toInt = 0 from by decide +kernel] at h; exact h
                refine lv_iconst (v := 0) hx hb dX12_compare_139 (by decide +kernel) ?_
                refine lv_goto (tgt := 156) hx hb dX12_compare_140 (by decide) ?_
                refine lv_istore (lv' := [(4, .int 0), (7, .double r9), (5, .double r8), (0, .ref (ad 0)), (1, .int k0), (2, .int k1), (3, .int k2)]) hx hb dX12_compare_156 hl (by decide) rfl (fun ls hl => ?_)
                refine lv_aload_n hx hb dX12_compare_158 rfl (lv_at hl 3 rfl) ?_
                refine lv_iload_n hx hb dX12_compare_159 rfl (lv_at hl 4 rfl) ?_
                refine lv_iconst (v := 1) hx hb dX12_compare_160 (by decide +kernel) ?_
                refine lv_iload hx hb dX12_compare_161 (lv_at hl 0 rfl) ?_
                refine lv_if_eq (tgt := 170) hx hb dX12_compare_163 (by decide) (fun _ => ?_) (fun c21 => absurd (by decide +kernel) c21)
                refine lv_lconst (v := 0) hx hb dX12_compare_170 rfl ?_
                refine lv_dconst0 hx hb dX12_compare_171 ?_
                refine r_callVv (As := [.int k0, .int 1, .long 0, .double FP.dconst0]) (rest := []) C hP hS hl.1 ⟨Nat.zero_le _, Nat.zero_le _⟩ (M_set l D cy sz0 sa ad σ H.size k0 (1 : Int32) (0 : Int64) FP.dconst0 (v_compare_8 σ k0 k1 hpre_0 hpre_1 hpre_2 hpre_3 hpre_4 hpre_5 hr2 hr6)) (n := 4) ⟨wm_213, wm_207, by decide +kernel⟩ ⟨wm_214, wm_215, wm_10⟩ rfl rfl (lv_room (Nat.le_of_ble_eq_true rfl)) ⟨Nat.le_of_ble_eq_true rfl, Nat.le_of_ble_eq_true rfl⟩ dX12_compare_172 (fun u H locs hr22 hP hS => ?_)
                have hr22 : True := hr22
                have hP : RP D cy ad (rR (rJ (rJ (rA σ 51 (upd (σ.2.1 51) k0.toNatClampNeg (1 : Int32))) 52 (vp_updL (σ.2.2.1 52) k0.toNatClampNeg (0 : Int64))) 53 (vp_updL (σ.2.2.1 53) k0.toNatClampNeg (0 : Int64))) (vf_upd (σ.2.2.2) k0.toNatClampNeg FP.dconst0)) H := hP
                have hP : RP D cy ad (rS (rR (rJ (rJ (rA σ 51 (upd (σ.2.1 51) k0.toNatClampNeg (1 : Int32))) 52 (vp_updL (σ.2.2.1 52) k0.toNatClampNeg (0 : Int64))) 53 (vp_updL (σ.2.2.1 53) k0.toNatClampNeg (0 : Int64))) (vf_upd (σ.2.2.2) k0.toNatClampNeg FP.dconst0)) 56 (σ.1 56)) H := RP.cong hP (Eq.trans (b := (σ.1 0)) rfl rfl) (Eq.trans (b := (σ.1 1)) rfl rfl) (Eq.trans (b := (σ.2.1 2)) rfl rfl) (Eq.trans (b := (σ.1 3)) rfl rfl) (Eq.trans (b := (σ.2.1 4)) rfl rfl) (Eq.trans (b := (σ.2.1 5)) rfl rfl) (Eq.trans (b := (σ.2.2.1 6)) rfl rfl) (Eq.trans (b := (σ.2.1 7)) rfl rfl) (Eq.trans (b := (σ.1 8)) rfl rfl) (Eq.trans (b := (σ.1 9)) rfl rfl) (Eq.trans (b := (σ.1 10)) rfl rfl) (Eq.trans (b := (σ.2.1 11)) rfl rfl) (Eq.trans (b := (σ.2.2.1 12)) rfl rfl) (Eq.trans (b := (σ.2.1 13)) rfl rfl) (Eq.trans (b := (σ.1 14)) rfl rfl) (Eq.trans (b := (σ.1 15)) rfl rfl) (Eq.trans (b := (σ.1 16)) rfl rfl) (Eq.trans (b := (σ.1 17)) rfl rfl) (Eq.trans (b := (σ.1 18)) rfl rfl) (Eq.trans (b := (σ.1 19)) rfl rfl) (Eq.trans (b := (σ.2.1 20)) rfl rfl) (Eq.trans (b := (σ.2.1 21)) rfl rfl) (Eq.trans (b := (σ.2.1 22)) rfl rfl) (Eq.trans (b := (σ.2.1 23)) rfl rfl) (Eq.trans (b := (σ.2.1 24)) rfl rfl) (Eq.trans (b := (σ.2.1 25)) rfl rfl) (Eq.trans (b := (σ.2.1 26)) rfl rfl) (Eq.trans (b := (σ.2.1 27)) rfl rfl) (Eq.trans (b := (σ.2.1 28)) rfl rfl) (Eq.trans (b := (σ.1 29)) rfl rfl) (Eq.trans (b := (σ.2.1 30)) rfl rfl) (Eq.trans (b := (σ.2.1 31)) rfl rfl) (Eq.trans (b := (σ.2.1 32)) rfl rfl) (Eq.trans (b := (σ.1 33)) rfl rfl) (Eq.trans (b := (σ.1 34)) rfl rfl) (Eq.trans (b := (σ.1 35)) rfl rfl) (Eq.trans (b := (σ.2.1 36)) rfl rfl) (Eq.trans (b := (σ.2.1 37)) rfl rfl) (Eq.trans (b := (σ.2.1 38)) rfl rfl) (Eq.trans (b := (σ.2.1 39)) rfl rfl) (Eq.trans (b := (σ.2.1 40)) rfl rfl) (Eq.trans (b := (σ.2.1 41)) rfl rfl) (Eq.trans (b := (σ.2.1 42)) rfl rfl) (Eq.trans (b := (σ.2.1 43)) rfl rfl) (Eq.trans (b := (σ.2.1 44)) rfl rfl) (Eq.trans (b := (σ.2.1 45)) rfl rfl) (Eq.trans (b := (σ.2.1 46)) rfl rfl) (Eq.trans (b := (σ.1 47)) rfl rfl) (Eq.trans (b := (σ.2.1 48)) rfl rfl) (Eq.trans (b := (σ.1 49)) rfl rfl) (Eq.trans (b := (σ.2.1 50)) rfl rfl) (Eq.trans (b := (upd (σ.2.1 51) k0.toNatClampNeg (1 : Int32))) rfl rfl) (Eq.trans (b := (vp_updL (σ.2.2.1 52) k0.toNatClampNeg (0 : Int64))) rfl rfl) (Eq.trans (b := (vp_updL (σ.2.2.1 53) k0.toNatClampNeg (0 : Int64))) rfl rfl) (Eq.trans (b := (vf_upd (σ.2.2.2) k0.toNatClampNeg FP.dconst0)) rfl rfl) (Eq.trans (b := (σ.1 55)) rfl rfl) (Eq.trans (b := (σ.1 56)) rfl rfl) (Eq.trans (b := (σ.1 57)) rfl rfl) (Eq.trans (b := (σ.2.1 58)) rfl rfl) (Eq.trans (b := (σ.1 59)) rfl rfl)
                exact r_retv C ⟨(upd (σ.2.1 51) k0.toNatClampNeg (1 : Int32)), (vp_updL (σ.2.2.1 52) k0.toNatClampNeg (0 : Int64)), (vp_updL (σ.2.2.1 53) k0.toNatClampNeg (0 : Int64)), (vf_upd (σ.2.2.2) k0.toNatClampNeg FP.dconst0), (σ.1 56)⟩ ⟨(v_compare_9 σ k0 k1 hpre_0 hpre_1 hpre_2 hpre_3 hpre_4 hpre_5 hpre_6 hr2 hr6), (v_compare_13 σ k0 k1 k2 r2 r6 r8 r9 x19 hpre_0 hpre_1 hpre_2 hpre_3 hpre_4 hpre_5 hpre_6 c1 hr2 c3 hr2v hr6 c7 hr6v hr8y hr8 hr9y hr9 c10 c11 c12 ex19 c20)⟩ hP hS dX12_compare_175
              · have c20 : x19.toInt ≤ 0 := by have h := z_nlt c20; rw [show (0 : Int32).toInt = 0 from by decide +kernel] at h; exact h
                refine lv_iconst (v := 1) hx hb dX12_compare_135 (by decide +kernel) ?_
                refine lv_goto (tgt := 156) hx hb dX12_compare_136 (by decide) ?_
                refine lv_istore (lv' := [(4, .int 1), (7, .double r9), (5, .double r8), (0, .ref (ad 0)), (1, .int k0), (2, .int k1), (3, .int k2)]) hx hb dX12_compare_156 hl (by decide) rfl (fun ls hl => ?_)
                refine lv_aload_n hx hb dX12_compare_158 rfl (lv_at hl 3 rfl) ?_
                refine lv_iload_n hx hb dX12_compare_159 rfl (lv_at hl 4 rfl) ?_
                refine lv_iconst (v := 1) hx hb dX12_compare_160 (by decide +kernel) ?_
                refine lv_iload hx hb dX12_compare_161 (lv_at hl 0 rfl) ?_
                refine lv_if_eq (tgt := 170) hx hb dX12_compare_163 (by decide) (fun c23 => absurd c23 (by decide +kernel)) (fun _ => ?_)
                refine lv_lconst (v := 1) hx hb dX12_compare_166 rfl ?_
                refine lv_goto (tgt := 171) hx hb dX12_compare_167 (by decide) ?_
                refine lv_dconst0 hx hb dX12_compare_171 ?_
                refine r_callVv (As := [.int k0, .int 1, .long 1, .double FP.dconst0]) (rest := []) C hP hS hl.1 ⟨Nat.zero_le _, Nat.zero_le _⟩ (M_set l D cy sz0 sa ad σ H.size k0 (1 : Int32) (1 : Int64) FP.dconst0 (v_compare_8 σ k0 k1 hpre_0 hpre_1 hpre_2 hpre_3 hpre_4 hpre_5 hr2 hr6)) (n := 4) ⟨wm_213, wm_207, by decide +kernel⟩ ⟨wm_214, wm_215, wm_10⟩ rfl rfl (lv_room (Nat.le_of_ble_eq_true rfl)) ⟨Nat.le_of_ble_eq_true rfl, Nat.le_of_ble_eq_true rfl⟩ dX12_compare_172 (fun u H locs hr24 hP hS => ?_)
                have hr24 : True := hr24
                have hP : RP D cy ad (rR (rJ (rJ (rA σ 51 (upd (σ.2.1 51) k0.toNatClampNeg (1 : Int32))) 52 (vp_updL (σ.2.2.1 52) k0.toNatClampNeg (1 : Int64))) 53 (vp_updL (σ.2.2.1 53) k0.toNatClampNeg (0 : Int64))) (vf_upd (σ.2.2.2) k0.toNatClampNeg FP.dconst0)) H := hP
                have hP : RP D cy ad (rS (rR (rJ (rJ (rA σ 51 (upd (σ.2.1 51) k0.toNatClampNeg (1 : Int32))) 52 (vp_updL (σ.2.2.1 52) k0.toNatClampNeg (1 : Int64))) 53 (vp_updL (σ.2.2.1 53) k0.toNatClampNeg (0 : Int64))) (vf_upd (σ.2.2.2) k0.toNatClampNeg FP.dconst0)) 56 (σ.1 56)) H := RP.cong hP (Eq.trans (b := (σ.1 0)) rfl rfl) (Eq.trans (b := (σ.1 1)) rfl rfl) (Eq.trans (b := (σ.2.1 2)) rfl rfl) (Eq.trans (b := (σ.1 3)) rfl rfl) (Eq.trans (b := (σ.2.1 4)) rfl rfl) (Eq.trans (b := (σ.2.1 5)) rfl rfl) (Eq.trans (b := (σ.2.2.1 6)) rfl rfl) (Eq.trans (b := (σ.2.1 7)) rfl rfl) (Eq.trans (b := (σ.1 8)) rfl rfl) (Eq.trans (b := (σ.1 9)) rfl rfl) (Eq.trans (b := (σ.1 10)) rfl rfl) (Eq.trans (b := (σ.2.1 11)) rfl rfl) (Eq.trans (b := (σ.2.2.1 12)) rfl rfl) (Eq.trans (b := (σ.2.1 13)) rfl rfl) (Eq.trans (b := (σ.1 14)) rfl rfl) (Eq.trans (b := (σ.1 15)) rfl rfl) (Eq.trans (b := (σ.1 16)) rfl rfl) (Eq.trans (b := (σ.1 17)) rfl rfl) (Eq.trans (b := (σ.1 18)) rfl rfl) (Eq.trans (b := (σ.1 19)) rfl rfl) (Eq.trans (b := (σ.2.1 20)) rfl rfl) (Eq.trans (b := (σ.2.1 21)) rfl rfl) (Eq.trans (b := (σ.2.1 22)) rfl rfl) (Eq.trans (b := (σ.2.1 23)) rfl rfl) (Eq.trans (b := (σ.2.1 24)) rfl rfl) (Eq.trans (b := (σ.2.1 25)) rfl rfl) (Eq.trans (b := (σ.2.1 26)) rfl rfl) (Eq.trans (b := (σ.2.1 27)) rfl rfl) (Eq.trans (b := (σ.2.1 28)) rfl rfl) (Eq.trans (b := (σ.1 29)) rfl rfl) (Eq.trans (b := (σ.2.1 30)) rfl rfl) (Eq.trans (b := (σ.2.1 31)) rfl rfl) (Eq.trans (b := (σ.2.1 32)) rfl rfl) (Eq.trans (b := (σ.1 33)) rfl rfl) (Eq.trans (b := (σ.1 34)) rfl rfl) (Eq.trans (b := (σ.1 35)) rfl rfl) (Eq.trans (b := (σ.2.1 36)) rfl rfl) (Eq.trans (b := (σ.2.1 37)) rfl rfl) (Eq.trans (b := (σ.2.1 38)) rfl rfl) (Eq.trans (b := (σ.2.1 39)) rfl rfl) (Eq.trans (b := (σ.2.1 40)) rfl rfl) (Eq.trans (b := (σ.2.1 41)) rfl rfl) (Eq.trans (b := (σ.2.1 42)) rfl rfl) (Eq.trans (b := (σ.2.1 43)) rfl rfl) (Eq.trans (b := (σ.2.1 44)) rfl rfl) (Eq.trans (b := (σ.2.1 45)) rfl rfl) (Eq.trans (b := (σ.2.1 46)) rfl rfl) (Eq.trans (b := (σ.1 47)) rfl rfl) (Eq.trans (b := (σ.2.1 48)) rfl rfl) (Eq.trans (b := (σ.1 49)) rfl rfl) (Eq.trans (b := (σ.2.1 50)) rfl rfl) (Eq.trans (b := (upd (σ.2.1 51) k0.toNatClampNeg (1 : Int32))) rfl rfl) (Eq.trans (b := (vp_updL (σ.2.2.1 52) k0.toNatClampNeg (1 : Int64))) rfl rfl) (Eq.trans (b := (vp_updL (σ.2.2.1 53) k0.toNatClampNeg (0 : Int64))) rfl rfl) (Eq.trans (b := (vf_upd (σ.2.2.2) k0.toNatClampNeg FP.dconst0)) rfl rfl) (Eq.trans (b := (σ.1 55)) rfl rfl) (Eq.trans (b := (σ.1 56)) rfl rfl) (Eq.trans (b := (σ.1 57)) rfl rfl) (Eq.trans (b := (σ.2.1 58)) rfl rfl) (Eq.trans (b := (σ.1 59)) rfl rfl)
                exact r_retv C ⟨(upd (σ.2.1 51) k0.toNatClampNeg (1 : Int32)), (vp_updL (σ.2.2.1 52) k0.toNatClampNeg (1 : Int64)), (vp_updL (σ.2.2.1 53) k0.toNatClampNeg (0 : Int64)), (vf_upd (σ.2.2.2) k0.toNatClampNeg FP.dconst0), (σ.1 56)⟩ ⟨(v_compare_11 σ k0 k1 hpre_0 hpre_1 hpre_2 hpre_3 hpre_4 hpre_5 hpre_6 hr2 hr6), (v_compare_14 σ k0 k1 k2 r2 r6 r8 r9 x19 hpre_0 hpre_1 hpre_2 hpre_3 hpre_4 hpre_5 hpre_6 c1 hr2 c3 hr2v hr6 c7 hr6v hr8y hr8 hr9y hr9 c10 c11 c12 ex19 c20)⟩ hP hS dX12_compare_175
          · have c11 : k2.toInt = 22 := by have h := z_eq c11; rw [show (22 : Int32).toInt = 22 from by decide +kernel] at h; exact h
            refine lv_dload hx hb dX12_compare_105 (lv_at hl 1 rfl) ?_
            refine lv_dload hx hb dX12_compare_107 (lv_at hl 0 rfl) ?_
            refine lv_dcmp hx hb dX12_compare_109 ?_
            refine lv_topi (fun x25 ex25 => ?_)
            refine lv_if_le (tgt := 117) hx hb dX12_compare_110 (by decide) (fun c26 => ?_) (fun c26 => ?_)
            · have c26 : x25.toInt ≤ 0 := by have h := z_le c26; rw [show (0 : Int32).toInt = 0 from by decide +kernel] at h; exact h
              refine lv_iconst (v := 0) hx hb dX12_compare_117 (by decide +kernel) ?_
              refine lv_goto (tgt := 156) hx hb dX12_compare_118 (by decide) ?_
              refine lv_istore (lv' := [(4, .int 0), (7, .double r9), (5, .double r8), (0, .ref (ad 0)), (1, .int k0), (2, .int k1), (3, .int k2)]) hx hb dX12_compare_156 hl (by decide) rfl (fun ls hl => ?_)
              refine lv_aload_n hx hb dX12_compare_158 rfl (lv_at hl 3 rfl) ?_
              refine lv_iload_n hx hb dX12_compare_159 rfl (lv_at hl 4 rfl) ?_
              refine lv_iconst (v := 1) hx hb dX12_compare_160 (by decide +kernel) ?_
              refine lv_iload hx hb dX12_compare_161 (lv_at hl 0 rfl) ?_
              refine lv_if_eq (tgt := 170) hx hb dX12_compare_163 (by decide) (fun _ => ?_) (fun c27 => absurd (by decide +kernel) c27)
              refine lv_lconst (v := 0) hx hb dX12_compare_170 rfl ?_
              refine lv_dconst0 hx hb dX12_compare_171 ?_
              refine r_callVv (As := [.int k0, .int 1, .long 0, .double FP.dconst0]) (rest := []) C hP hS hl.1 ⟨Nat.zero_le _, Nat.zero_le _⟩ (M_set l D cy sz0 sa ad σ H.size k0 (1 : Int32) (0 : Int64) FP.dconst0 (v_compare_8 σ k0 k1 hpre_0 hpre_1 hpre_2 hpre_3 hpre_4 hpre_5 hr2 hr6)) (n := 4) ⟨wm_213, wm_207, by decide +kernel⟩ ⟨wm_214, wm_215, wm_10⟩ rfl rfl (lv_room (Nat.le_of_ble_eq_true rfl)) ⟨Nat.le_of_ble_eq_true rfl, Nat.le_of_ble_eq_true rfl⟩ dX12_compare_172 (fun u H locs hr28 hP hS => ?_)
              have hr28 : True := hr28
              have hP : RP D cy ad (rR (rJ (rJ (rA σ 51 (upd (σ.2.1 51) k0.toNatClampNeg (1 : Int32))) 52 (vp_updL (σ.2.2.1 52) k0.toNatClampNeg (0 : Int64))) 53 (vp_updL (σ.2.2.1 53) k0.toNatClampNeg (0 : Int64))) (vf_upd (σ.2.2.2) k0.toNatClampNeg FP.dconst0)) H := hP
              have hP : RP D cy ad (rS (rR (rJ (rJ (rA σ 51 (upd (σ.2.1 51) k0.toNatClampNeg (1 : Int32))) 52 (vp_updL (σ.2.2.1 52) k0.toNatClampNeg (0 : Int64))) 53 (vp_updL (σ.2.2.1 53) k0.toNatClampNeg (0 : Int64))) (vf_upd (σ.2.2.2) k0.toNatClampNeg FP.dconst0)) 56 (σ.1 56)) H := RP.cong hP (Eq.trans (b := (σ.1 0)) rfl rfl) (Eq.trans (b := (σ.1 1)) rfl rfl) (Eq.trans (b := (σ.2.1 2)) rfl rfl) (Eq.trans (b := (σ.1 3)) rfl rfl) (Eq.trans (b := (σ.2.1 4)) rfl rfl) (Eq.trans (b := (σ.2.1 5)) rfl rfl) (Eq.trans (b := (σ.2.2.1 6)) rfl rfl) (Eq.trans (b := (σ.2.1 7)) rfl rfl) (Eq.trans (b := (σ.1 8)) rfl rfl) (Eq.trans (b := (σ.1 9)) rfl rfl) (Eq.trans (b := (σ.1 10)) rfl rfl) (Eq.trans (b := (σ.2.1 11)) rfl rfl) (Eq.trans (b := (σ.2.2.1 12)) rfl rfl) (Eq.trans (b := (σ.2.1 13)) rfl rfl) (Eq.trans (b := (σ.1 14)) rfl rfl) (Eq.trans (b := (σ.1 15)) rfl rfl) (Eq.trans (b := (σ.1 16)) rfl rfl) (Eq.trans (b := (σ.1 17)) rfl rfl) (Eq.trans (b := (σ.1 18)) rfl rfl) (Eq.trans (b := (σ.1 19)) rfl rfl) (Eq.trans (b := (σ.2.1 20)) rfl rfl) (Eq.trans (b := (σ.2.1 21)) rfl rfl) (Eq.trans (b := (σ.2.1 22)) rfl rfl) (Eq.trans (b := (σ.2.1 23)) rfl rfl) (Eq.trans (b := (σ.2.1 24)) rfl rfl) (Eq.trans (b := (σ.2.1 25)) rfl rfl) (Eq.trans (b := (σ.2.1 26)) rfl rfl) (Eq.trans (b := (σ.2.1 27)) rfl rfl) (Eq.trans (b := (σ.2.1 28)) rfl rfl) (Eq.trans (b := (σ.1 29)) rfl rfl) (Eq.trans (b := (σ.2.1 30)) rfl rfl) (Eq.trans (b := (σ.2.1 31)) rfl rfl) (Eq.trans (b := (σ.2.1 32)) rfl rfl) (Eq.trans (b := (σ.1 33)) rfl rfl) (Eq.trans (b := (σ.1 34)) rfl rfl) (Eq.trans (b := (σ.1 35)) rfl rfl) (Eq.trans (b := (σ.2.1 36)) rfl rfl) (Eq.trans (b := (σ.2.1 37)) rfl rfl) (Eq.trans (b := (σ.2.1 38)) rfl rfl) (Eq.trans (b := (σ.2.1 39)) rfl rfl) (Eq.trans (b := (σ.2.1 40)) rfl rfl) (Eq.trans (b := (σ.2.1 41)) rfl rfl) (Eq.trans (b := (σ.2.1 42)) rfl rfl) (Eq.trans (b := (σ.2.1 43)) rfl rfl) (Eq.trans (b := (σ.2.1 44)) rfl rfl) (Eq.trans (b := (σ.2.1 45)) rfl rfl) (Eq.trans (b := (σ.2.1 46)) rfl rfl) (Eq.trans (b := (σ.1 47)) rfl rfl) (Eq.trans (b := (σ.2.1 48)) rfl rfl) (Eq.trans (b := (σ.1 49)) rfl rfl) (Eq.trans (b := (σ.2.1 50)) rfl rfl) (Eq.trans (b := (upd (σ.2.1 51) k0.toNatClampNeg (1 : Int32))) rfl rfl) (Eq.trans (b := (vp_updL (σ.2.2.1 52) k0.toNatClampNeg (0 : Int64))) rfl rfl) (Eq.trans (b := (vp_updL (σ.2.2.1 53) k0.toNatClampNeg (0 : Int64))) rfl rfl) (Eq.trans (b := (vf_upd (σ.2.2.2) k0.toNatClampNeg FP.dconst0)) rfl rfl) (Eq.trans (b := (σ.1 55)) rfl rfl) (Eq.trans (b := (σ.1 56)) rfl rfl) (Eq.trans (b := (σ.1 57)) rfl rfl) (Eq.trans (b := (σ.2.1 58)) rfl rfl) (Eq.trans (b := (σ.1 59)) rfl rfl)
              exact r_retv C ⟨(upd (σ.2.1 51) k0.toNatClampNeg (1 : Int32)), (vp_updL (σ.2.2.1 52) k0.toNatClampNeg (0 : Int64)), (vp_updL (σ.2.2.1 53) k0.toNatClampNeg (0 : Int64)), (vf_upd (σ.2.2.2) k0.toNatClampNeg FP.dconst0), (σ.1 56)⟩ ⟨(v_compare_9 σ k0 k1 hpre_0 hpre_1 hpre_2 hpre_3 hpre_4 hpre_5 hpre_6 hr2 hr6), (v_compare_15 σ k0 k1 k2 r2 r6 r8 r9 x25 hpre_0 hpre_1 hpre_2 hpre_3 hpre_4 hpre_5 hpre_6 c1 hr2 c3 hr2v hr6 c7 hr6v hr8y hr8 hr9y hr9 c10 c11 ex25 c26)⟩ hP hS dX12_compare_175
            · have c26 : 0 < x25.toInt := by have h := z_nle c26; rw [show (0 : Int32).toInt = 0 from by decide +kernel] at h; exact h
              refine lv_iconst (v := 1) hx hb dX12_compare_113 (by decide +kernel) ?_
              refine lv_goto (tgt := 156) hx hb dX12_compare_114 (by decide) ?_
              refine lv_istore (lv' := [(4, .int 1), (7, .double r9), (5, .double r8), (0, .ref (ad 0)), (1, .int k0), (2, .int k1), (3, .int k2)]) hx hb dX12_compare_156 hl (by decide) rfl (fun ls hl => ?_)
              refine lv_aload_n hx hb dX12_compare_158 rfl (lv_at hl 3 rfl) ?_
              refine lv_iload_n hx hb dX12_compare_159 rfl (lv_at hl 4 rfl) ?_
              refine lv_iconst (v := 1) hx hb dX12_compare_160 (by decide +kernel) ?_
              refine lv_iload hx hb dX12_compare_161 (lv_at hl 0 rfl) ?_
              refine lv_if_eq (tgt := 170) hx hb dX12_compare_163 (by decide) (fun c29 => absurd c29 (by decide +kernel)) (fun _ => ?_)
              refine lv_lconst (v := 1) hx hb dX12_compare_166 rfl ?_
              refine lv_goto (tgt := 171) hx hb dX12_compare_167 (by decide) ?_
              refine lv_dconst0 hx hb dX12_compare_171 ?_
              refine r_callVv (As := [.int k0, .int 1, .long 1, .double FP.dconst0]) (rest := []) C hP hS hl.1 ⟨Nat.zero_le _, Nat.zero_le _⟩ (M_set l D cy sz0 sa ad σ H.size k0 (1 : Int32) (1 : Int64) FP.dconst0 (v_compare_8 σ k0 k1 hpre_0 hpre_1 hpre_2 hpre_3 hpre_4 hpre_5 hr2 hr6)) (n := 4) ⟨wm_213, wm_207, by decide +kernel⟩ ⟨wm_214, wm_215, wm_10⟩ rfl rfl (lv_room (Nat.le_of_ble_eq_true rfl)) ⟨Nat.le_of_ble_eq_true rfl, Nat.le_of_ble_eq_true rfl⟩ dX12_compare_172 (fun u H locs hr30 hP hS => ?_)
              have hr30 : True := hr30
              have hP : RP D cy ad (rR (rJ (rJ (rA σ 51 (upd (σ.2.1 51) k0.toNatClampNeg (1 : Int32))) 52 (vp_updL (σ.2.2.1 52) k0.toNatClampNeg (1 : Int64))) 53 (vp_updL (σ.2.2.1 53) k0.toNatClampNeg (0 : Int64))) (vf_upd (σ.2.2.2) k0.toNatClampNeg FP.dconst0)) H := hP
              have hP : RP D cy ad (rS (rR (rJ (rJ (rA σ 51 (upd (σ.2.1 51) k0.toNatClampNeg (1 : Int32))) 52 (vp_updL (σ.2.2.1 52) k0.toNatClampNeg (1 : Int64))) 53 (vp_updL (σ.2.2.1 53) k0.toNatClampNeg (0 : Int64))) (vf_upd (σ.2.2.2) k0.toNatClampNeg FP.dconst0)) 56 (σ.1 56)) H := RP.cong hP (Eq.trans (b := (σ.1 0)) rfl rfl) (Eq.trans (b := (σ.1 1)) rfl rfl) (Eq.trans (b := (σ.2.1 2)) rfl rfl) (Eq.trans (b := (σ.1 3)) rfl rfl) (Eq.trans (b := (σ.2.1 4)) rfl rfl) (Eq.trans (b := (σ.2.1 5)) rfl rfl) (Eq.trans (b := (σ.2.2.1 6)) rfl rfl) (Eq.trans (b := (σ.2.1 7)) rfl rfl) (Eq.trans (b := (σ.1 8)) rfl rfl) (Eq.trans (b := (σ.1 9)) rfl rfl) (Eq.trans (b := (σ.1 10)) rfl rfl) (Eq.trans (b := (σ.2.1 11)) rfl rfl) (Eq.trans (b := (σ.2.2.1 12)) rfl rfl) (Eq.trans (b := (σ.2.1 13)) rfl rfl) (Eq.trans (b := (σ.1 14)) rfl rfl) (Eq.trans (b := (σ.1 15)) rfl rfl) (Eq.trans (b := (σ.1 16)) rfl rfl) (Eq.trans (b := (σ.1 17)) rfl rfl) (Eq.trans (b := (σ.1 18)) rfl rfl) (Eq.trans (b := (σ.1 19)) rfl rfl) (Eq.trans (b := (σ.2.1 20)) rfl rfl) (Eq.trans (b := (σ.2.1 21)) rfl rfl) (Eq.trans (b := (σ.2.1 22)) rfl rfl) (Eq.trans (b := (σ.2.1 23)) rfl rfl) (Eq.trans (b := (σ.2.1 24)) rfl rfl) (Eq.trans (b := (σ.2.1 25)) rfl rfl) (Eq.trans (b := (σ.2.1 26)) rfl rfl) (Eq.trans (b := (σ.2.1 27)) rfl rfl) (Eq.trans (b := (σ.2.1 28)) rfl rfl) (Eq.trans (b := (σ.1 29)) rfl rfl) (Eq.trans (b := (σ.2.1 30)) rfl rfl) (Eq.trans (b := (σ.2.1 31)) rfl rfl) (Eq.trans (b := (σ.2.1 32)) rfl rfl) (Eq.trans (b := (σ.1 33)) rfl rfl) (Eq.trans (b := (σ.1 34)) rfl rfl) (Eq.trans (b := (σ.1 35)) rfl rfl) (Eq.trans (b := (σ.2.1 36)) rfl rfl) (Eq.trans (b := (σ.2.1 37)) rfl rfl) (Eq.trans (b := (σ.2.1 38)) rfl rfl) (Eq.trans (b := (σ.2.1 39)) rfl rfl) (Eq.trans (b := (σ.2.1 40)) rfl rfl) (Eq.trans (b := (σ.2.1 41)) rfl rfl) (Eq.trans (b := (σ.2.1 42)) rfl rfl) (Eq.trans (b := (σ.2.1 43)) rfl rfl) (Eq.trans (b := (σ.2.1 44)) rfl rfl) (Eq.trans (b := (σ.2.1 45)) rfl rfl) (Eq.trans (b := (σ.2.1 46)) rfl rfl) (Eq.trans (b := (σ.1 47)) rfl rfl) (Eq.trans (b := (σ.2.1 48)) rfl rfl) (Eq.trans (b := (σ.1 49)) rfl rfl) (Eq.trans (b := (σ.2.1 50)) rfl rfl) (Eq.trans (b := (upd (σ.2.1 51) k0.toNatClampNeg (1 : Int32))) rfl rfl) (Eq.trans (b := (vp_updL (σ.2.2.1 52) k0.toNatClampNeg (1 : Int64))) rfl rfl) (Eq.trans (b := (vp_updL (σ.2.2.1 53) k0.toNatClampNeg (0 : Int64))) rfl rfl) (Eq.trans (b := (vf_upd (σ.2.2.2) k0.toNatClampNeg FP.dconst0)) rfl rfl) (Eq.trans (b := (σ.1 55)) rfl rfl) (Eq.trans (b := (σ.1 56)) rfl rfl) (Eq.trans (b := (σ.1 57)) rfl rfl) (Eq.trans (b := (σ.2.1 58)) rfl rfl) (Eq.trans (b := (σ.1 59)) rfl rfl)
              exact r_retv C ⟨(upd (σ.2.1 51) k0.toNatClampNeg (1 : Int32)), (vp_updL (σ.2.2.1 52) k0.toNatClampNeg (1 : Int64)), (vp_updL (σ.2.2.1 53) k0.toNatClampNeg (0 : Int64)), (vf_upd (σ.2.2.2) k0.toNatClampNeg FP.dconst0), (σ.1 56)⟩ ⟨(v_compare_11 σ k0 k1 hpre_0 hpre_1 hpre_2 hpre_3 hpre_4 hpre_5 hpre_6 hr2 hr6), (v_compare_16 σ k0 k1 k2 r2 r6 r8 r9 x25 hpre_0 hpre_1 hpre_2 hpre_3 hpre_4 hpre_5 hpre_6 c1 hr2 c3 hr2v hr6 c7 hr6v hr8y hr8 hr9y hr9 c10 c11 ex25 c26)⟩ hP hS dX12_compare_175
        · have c10 : k2.toInt = 21 := by have h := z_eq c10; rw [show (21 : Int32).toInt = 21 from by decide +kernel] at h; exact h
          refine lv_dload hx hb dX12_compare_83 (lv_at hl 1 rfl) ?_
          refine lv_dload hx hb dX12_compare_85 (lv_at hl 0 rfl) ?_
          refine lv_dcmp hx hb dX12_compare_87 ?_
          refine lv_topi (fun x31 ex31 => ?_)
          refine lv_if_ge (tgt := 95) hx hb dX12_compare_88 (by decide) (fun c32 => ?_) (fun c32 => ?_)
          · have c32 : 0 ≤ x31.toInt := by have h := z_le c32; rw [show (0 : Int32).toInt = 0 from by decide +kernel] at h; exact h
            refine lv_iconst (v := 0) hx hb dX12_compare_95 (by decide +kernel) ?_
            refine lv_goto (tgt := 156) hx hb dX12_compare_96 (by decide) ?_
            refine lv_istore (lv' := [(4, .int 0), (7, .double r9), (5, .double r8), (0, .ref (ad 0)), (1, .int k0), (2, .int k1), (3, .int k2)]) hx hb dX12_compare_156 hl (by decide) rfl (fun ls hl => ?_)
            refine lv_aload_n hx hb dX12_compare_158 rfl (lv_at hl 3 rfl) ?_
            refine lv_iload_n hx hb dX12_compare_159 rfl (lv_at hl 4 rfl) ?_
            refine lv_iconst (v := 1) hx hb dX12_compare_160 (by decide +kernel) ?_
            refine lv_iload hx hb dX12_compare_161 (lv_at hl 0 rfl) ?_
            refine lv_if_eq (tgt := 170) hx hb dX12_compare_163 (by decide) (fun _ => ?_) (fun c33 => absurd (by decide +kernel) c33)
            refine lv_lconst (v := 0) hx hb dX12_compare_170 rfl ?_
            refine lv_dconst0 hx hb dX12_compare_171 ?_
            refine r_callVv (As := [.int k0, .int 1, .long 0, .double FP.dconst0]) (rest := []) C hP hS hl.1 ⟨Nat.zero_le _, Nat.zero_le _⟩ (M_set l D cy sz0 sa ad σ H.size k0 (1 : Int32) (0 : Int64) FP.dconst0 (v_compare_8 σ k0 k1 hpre_0 hpre_1 hpre_2 hpre_3 hpre_4 hpre_5 hr2 hr6)) (n := 4) ⟨wm_213, wm_207, by decide +kernel⟩ ⟨wm_214, wm_215, wm_10⟩ rfl rfl (lv_room (Nat.le_of_ble_eq_true rfl)) ⟨Nat.le_of_ble_eq_true rfl, Nat.le_of_ble_eq_true rfl⟩ dX12_compare_172 (fun u H locs hr34 hP hS => ?_)
            have hr34 : True := hr34
            have hP : RP D cy ad (rR (rJ (rJ (rA σ 51 (upd (σ.2.1 51) k0.toNatClampNeg (1 : Int32))) 52 (vp_updL (σ.2.2.1 52) k0.toNatClampNeg (0 : Int64))) 53 (vp_updL (σ.2.2.1 53) k0.toNatClampNeg (0 : Int64))) (vf_upd (σ.2.2.2) k0.toNatClampNeg FP.dconst0)) H := hP
            have hP : RP D cy ad (rS (rR (rJ (rJ (rA σ 51 (upd (σ.2.1 51) k0.toNatClampNeg (1 : Int32))) 52 (vp_updL (σ.2.2.1 52) k0.toNatClampNeg (0 : Int64))) 53 (vp_updL (σ.2.2.1 53) k0.toNatClampNeg (0 : Int64))) (vf_upd (σ.2.2.2) k0.toNatClampNeg FP.dconst0)) 56 (σ.1 56)) H := RP.cong hP (Eq.trans (b := (σ.1 0)) rfl rfl) (Eq.trans (b := (σ.1 1)) rfl rfl) (Eq.trans (b := (σ.2.1 2)) rfl rfl) (Eq.trans (b := (σ.1 3)) rfl rfl) (Eq.trans (b := (σ.2.1 4)) rfl rfl) (Eq.trans (b := (σ.2.1 5)) rfl rfl) (Eq.trans (b := (σ.2.2.1 6)) rfl rfl) (Eq.trans (b := (σ.2.1 7)) rfl rfl) (Eq.trans (b := (σ.1 8)) rfl rfl) (Eq.trans (b := (σ.1 9)) rfl rfl) (Eq.trans (b := (σ.1 10)) rfl rfl) (Eq.trans (b := (σ.2.1 11)) rfl rfl) (Eq.trans (b := (σ.2.2.1 12)) rfl rfl) (Eq.trans (b := (σ.2.1 13)) rfl rfl) (Eq.trans (b := (σ.1 14)) rfl rfl) (Eq.trans (b := (σ.1 15)) rfl rfl) (Eq.trans (b := (σ.1 16)) rfl rfl) (Eq.trans (b := (σ.1 17)) rfl rfl) (Eq.trans (b := (σ.1 18)) rfl rfl) (Eq.trans (b := (σ.1 19)) rfl rfl) (Eq.trans (b := (σ.2.1 20)) rfl rfl) (Eq.trans (b := (σ.2.1 21)) rfl rfl) (Eq.trans (b := (σ.2.1 22)) rfl rfl) (Eq.trans (b := (σ.2.1 23)) rfl rfl) (Eq.trans (b := (σ.2.1 24)) rfl rfl) (Eq.trans (b := (σ.2.1 25)) rfl rfl) (Eq.trans (b := (σ.2.1 26)) rfl rfl) (Eq.trans (b := (σ.2.1 27)) rfl rfl) (Eq.trans (b := (σ.2.1 28)) rfl rfl) (Eq.trans (b := (σ.1 29)) rfl rfl) (Eq.trans (b := (σ.2.1 30)) rfl rfl) (Eq.trans (b := (σ.2.1 31)) rfl rfl) (Eq.trans (b := (σ.2.1 32)) rfl rfl) (Eq.trans (b := (σ.1 33)) rfl rfl) (Eq.trans (b := (σ.1 34)) rfl rfl) (Eq.trans (b := (σ.1 35)) rfl rfl) (Eq.trans (b := (σ.2.1 36)) rfl rfl) (Eq.trans (b := (σ.2.1 37)) rfl rfl) (Eq.trans (b := (σ.2.1 38)) rfl rfl) (Eq.trans (b := (σ.2.1 39)) rfl rfl) (Eq.trans (b := (σ.2.1 40)) rfl rfl) (Eq.trans (b := (σ.2.1 41)) rfl rfl) (Eq.trans (b := (σ.2.1 42)) rfl rfl) (Eq.trans (b := (σ.2.1 43)) rfl rfl) (Eq.trans (b := (σ.2.1 44)) rfl rfl) (Eq.trans (b := (σ.2.1 45)) rfl rfl) (Eq.trans (b := (σ.2.1 46)) rfl rfl) (Eq.trans (b := (σ.1 47)) rfl rfl) (Eq.trans (b := (σ.2.1 48)) rfl rfl) (Eq.trans (b := (σ.1 49)) rfl rfl) (Eq.trans (b := (σ.2.1 50)) rfl rfl) (Eq.trans (b := (upd (σ.2.1 51) k0.toNatClampNeg (1 : Int32))) rfl rfl) (Eq.trans (b := (vp_updL (σ.2.2.1 52) k0.toNatClampNeg (0 : Int64))) rfl rfl) (Eq.trans (b := (vp_updL (σ.2.2.1 53) k0.toNatClampNeg (0 : Int64))) rfl rfl) (Eq.trans (b := (vf_upd (σ.2.2.2) k0.toNatClampNeg FP.dconst0)) rfl rfl) (Eq.trans (b := (σ.1 55)) rfl rfl) (Eq.trans (b := (σ.1 56)) rfl rfl) (Eq.trans (b := (σ.1 57)) rfl rfl) (Eq.trans (b := (σ.2.1 58)) rfl rfl) (Eq.trans (b := (σ.1 59)) rfl rfl)
            exact r_retv C ⟨(upd (σ.2.1 51) k0.toNatClampNeg (1 : Int32)), (vp_updL (σ.2.2.1 52) k0.toNatClampNeg (0 : Int64)), (vp_updL (σ.2.2.1 53) k0.toNatClampNeg (0 : Int64)), (vf_upd (σ.2.2.2) k0.toNatClampNeg FP.dconst0), (σ.1 56)⟩ ⟨(v_compare_9 σ k0 k1 hpre_0 hpre_1 hpre_2 hpre_3 hpre_4 hpre_5 hpre_6 hr2 hr6), (v_compare_17 σ k0 k1 k2 r2 r6 r8 r9 x31 hpre_0 hpre_1 hpre_2 hpre_3 hpre_4 hpre_5 hpre_6 c1 hr2 c3 hr2v hr6 c7 hr6v hr8y hr8 hr9y hr9 c10 ex31 c32)⟩ hP hS dX12_compare_175
          · have c32 : x31.toInt < 0 := by have h := z_nle c32; rw [show (0 : Int32).toInt = 0 from by decide +kernel] at h; exact h
            refine lv_iconst (v := 1) hx hb dX12_compare_91 (by decide +kernel) ?_
            refine lv_goto (tgt := 156) hx hb dX12_compare_92 (by decide) ?_
            refine lv_istore (lv' := [(4, .int 1), (7, .double r9), (5, .double r8), (0, .ref (ad 0)), (1, .int k0), (2, .int k1), (3, .int k2)]) hx hb dX12_compare_156 hl (by decide) rfl (fun ls hl => ?_)
            refine lv_aload_n hx hb dX12_compare_158 rfl (lv_at hl 3 rfl) ?_
            refine lv_iload_n hx hb dX12_compare_159 rfl (lv_at hl 4 rfl) ?_
            refine lv_iconst (v := 1) hx hb dX12_compare_160 (by decide +kernel) ?_
            refine lv_iload hx hb dX12_compare_161 (lv_at hl 0 rfl) ?_
            refine lv_if_eq (tgt := 170) hx hb dX12_compare_163 (by decide) (fun c35 => absurd c35 (by decide +kernel)) (fun _ => ?_)
            refine lv_lconst (v := 1) hx hb dX12_compare_166 rfl ?_
            refine lv_goto (tgt := 171) hx hb dX12_compare_167 (by decide) ?_
            refine lv_dconst0 hx hb dX12_compare_171 ?_
            refine r_callVv (As := [.int k0, .int 1, .long 1, .double FP.dconst0]) (rest := []) C hP hS hl.1 ⟨Nat.zero_le _, Nat.zero_le _⟩ (M_set l D cy sz0 sa ad σ H.size k0 (1 : Int32) (1 : Int64) FP.dconst0 (v_compare_8 σ k0 k1 hpre_0 hpre_1 hpre_2 hpre_3 hpre_4 hpre_5 hr2 hr6)) (n := 4) ⟨wm_213, wm_207, by decide +kernel⟩ ⟨wm_214, wm_215, wm_10⟩ rfl rfl (lv_room (Nat.le_of_ble_eq_true rfl)) ⟨Nat.le_of_ble_eq_true rfl, Nat.le_of_ble_eq_true rfl⟩ dX12_compare_172 (fun u H locs hr36 hP hS => ?_)
            have hr36 : True := hr36
            have hP : RP D cy ad (rR (rJ (rJ (rA σ 51 (upd (σ.2.1 51) k0.toNatClampNeg (1 : Int32))) 52 (vp_updL (σ.2.2.1 52) k0.toNatClampNeg (1 : Int64))) 53 (vp_updL (σ.2.2.1 53) k0.toNatClampNeg (0 : Int64))) (vf_upd (σ.2.2.2) k0.toNatClampNeg FP.dconst0)) H := hP
            have hP : RP D cy ad (rS (rR (rJ (rJ (rA σ 51 (upd (σ.2.1 51) k0.toNatClampNeg (1 : Int32))) 52 (vp_updL (σ.2.2.1 52) k0.toNatClampNeg (1 : Int64))) 53 (vp_updL (σ.2.2.1 53) k0.toNatClampNeg (0 : Int64))) (vf_upd (σ.2.2.2) k0.toNatClampNeg FP.dconst0)) 56 (σ.1 56)) H := RP.cong hP (Eq.trans (b := (σ.1 0)) rfl rfl) (Eq.trans (b := (σ.1 1)) rfl rfl) (Eq.trans (b := (σ.2.1 2)) rfl rfl) (Eq.trans (b := (σ.1 3)) rfl rfl) (Eq.trans (b := (σ.2.1 4)) rfl rfl) (Eq.trans (b := (σ.2.1 5)) rfl rfl) (Eq.trans (b := (σ.2.2.1 6)) rfl rfl) (Eq.trans (b := (σ.2.1 7)) rfl rfl) (Eq.trans (b := (σ.1 8)) rfl rfl) (Eq.trans (b := (σ.1 9)) rfl rfl) (Eq.trans (b := (σ.1 10)) rfl rfl) (Eq.trans (b := (σ.2.1 11)) rfl rfl) (Eq.trans (b := (σ.2.2.1 12)) rfl rfl) (Eq.trans (b := (σ.2.1 13)) rfl rfl) (Eq.trans (b := (σ.1 14)) rfl rfl) (Eq.trans (b := (σ.1 15)) rfl rfl) (Eq.trans (b := (σ.1 16)) rfl rfl) (Eq.trans (b := (σ.1 17)) rfl rfl) (Eq.trans (b := (σ.1 18)) rfl rfl) (Eq.trans (b := (σ.1 19)) rfl rfl) (Eq.trans (b := (σ.2.1 20)) rfl rfl) (Eq.trans (b := (σ.2.1 21)) rfl rfl) (Eq.trans (b := (σ.2.1 22)) rfl rfl) (Eq.trans (b := (σ.2.1 23)) rfl rfl) (Eq.trans (b := (σ.2.1 24)) rfl rfl) (Eq.trans (b := (σ.2.1 25)) rfl rfl) (Eq.trans (b := (σ.2.1 26)) rfl rfl) (Eq.trans (b := (σ.2.1 27)) rfl rfl) (Eq.trans (b := (σ.2.1 28)) rfl rfl) (Eq.trans (b := (σ.1 29)) rfl rfl) (Eq.trans (b := (σ.2.1 30)) rfl rfl) (Eq.trans (b := (σ.2.1 31)) rfl rfl) (Eq.trans (b := (σ.2.1 32)) rfl rfl) (Eq.trans (b := (σ.1 33)) rfl rfl) (Eq.trans (b := (σ.1 34)) rfl rfl) (Eq.trans (b := (σ.1 35)) rfl rfl) (Eq.trans (b := (σ.2.1 36)) rfl rfl) (Eq.trans (b := (σ.2.1 37)) rfl rfl) (Eq.trans (b := (σ.2.1 38)) rfl rfl) (Eq.trans (b := (σ.2.1 39)) rfl rfl) (Eq.trans (b := (σ.2.1 40)) rfl rfl) (Eq.trans (b := (σ.2.1 41)) rfl rfl) (Eq.trans (b := (σ.2.1 42)) rfl rfl) (Eq.trans (b := (σ.2.1 43)) rfl rfl) (Eq.trans (b := (σ.2.1 44)) rfl rfl) (Eq.trans (b := (σ.2.1 45)) rfl rfl) (Eq.trans (b := (σ.2.1 46)) rfl rfl) (Eq.trans (b := (σ.1 47)) rfl rfl) (Eq.trans (b := (σ.2.1 48)) rfl rfl) (Eq.trans (b := (σ.1 49)) rfl rfl) (Eq.trans (b := (σ.2.1 50)) rfl rfl) (Eq.trans (b := (upd (σ.2.1 51) k0.toNatClampNeg (1 : Int32))) rfl rfl) (Eq.trans (b := (vp_updL (σ.2.2.1 52) k0.toNatClampNeg (1 : Int64))) rfl rfl) (Eq.trans (b := (vp_updL (σ.2.2.1 53) k0.toNatClampNeg (0 : Int64))) rfl rfl) (Eq.trans (b := (vf_upd (σ.2.2.2) k0.toNatClampNeg FP.dconst0)) rfl rfl) (Eq.trans (b := (σ.1 55)) rfl rfl) (Eq.trans (b := (σ.1 56)) rfl rfl) (Eq.trans (b := (σ.1 57)) rfl rfl) (Eq.trans (b := (σ.2.1 58)) rfl rfl) (Eq.trans (b := (σ.1 59)) rfl rfl)
            exact r_retv C ⟨(upd (σ.2.1 51) k0.toNatClampNeg (1 : Int32)), (vp_updL (σ.2.2.1 52) k0.toNatClampNeg (1 : Int64)), (vp_updL (σ.2.2.1 53) k0.toNatClampNeg (0 : Int64)), (vf_upd (σ.2.2.2) k0.toNatClampNeg FP.dconst0), (σ.1 56)⟩ ⟨(v_compare_11 σ k0 k1 hpre_0 hpre_1 hpre_2 hpre_3 hpre_4 hpre_5 hpre_6 hr2 hr6), (v_compare_18 σ k0 k1 k2 r2 r6 r8 r9 x31 hpre_0 hpre_1 hpre_2 hpre_3 hpre_4 hpre_5 hpre_6 c1 hr2 c3 hr2v hr6 c7 hr6v hr8y hr8 hr9y hr9 c10 ex31 c32)⟩ hP hS dX12_compare_175
      · have c7 : r6.toInt = 0 := by have h := z_eq c7; rw [show (0 : Int32).toInt = 0 from by decide +kernel] at h; exact h
        have hr6 : ¬ (((σ.2.1 51) k1.toNatClampNeg).toInt = 2 ∨ ((σ.2.1 51) k1.toNatClampNeg).toInt = 3) := bq_f hr6 c7
        refine lv_aload_n hx hb dX12_compare_55 rfl (lv_at hl 1 rfl) ?_
        refine lv_iconst (v := 1) hx hb dX12_compare_56 (by decide +kernel) ?_
        refine rp_56 C hP hS wm_242 dX12_compare_57 (fun H locs hP hS => ?_)
        refine lv_goto (tgt := 158) hx hb dX12_compare_60 (by decide) ?_
        refine lv_aload_n hx hb dX12_compare_158 rfl (lv_at hl 1 rfl) ?_
        refine lv_iload_n hx hb dX12_compare_159 rfl (lv_at hl 2 rfl) ?_
        refine lv_iconst (v := 1) hx hb dX12_compare_160 (by decide +kernel) ?_
        refine lv_iload hx hb dX12_compare_161 (lv_at hl 0 rfl) ?_
        refine lv_if_eq (tgt := 170) hx hb dX12_compare_163 (by decide) (fun _ => ?_) (fun c37 => absurd (by decide +kernel) c37)
        refine lv_lconst (v := 0) hx hb dX12_compare_170 rfl ?_
        refine lv_dconst0 hx hb dX12_compare_171 ?_
        refine r_callVv (As := [.int k0, .int 1, .long 0, .double FP.dconst0]) (rest := []) C hP hS hl.1 ⟨Nat.zero_le _, Nat.zero_le _⟩ (M_set l D cy sz0 sa ad (rS σ 56 (1 : Int32)) H.size k0 (1 : Int32) (0 : Int64) FP.dconst0 (v_compare_19 σ k0 k1 hpre_0 hpre_1 hpre_2 hpre_3 hpre_4 hpre_5 hr2 hr6)) (n := 4) ⟨wm_213, wm_207, by decide +kernel⟩ ⟨wm_214, wm_215, wm_10⟩ rfl rfl (lv_room (Nat.le_of_ble_eq_true rfl)) ⟨Nat.le_of_ble_eq_true rfl, Nat.le_of_ble_eq_true rfl⟩ dX12_compare_172 (fun u H locs hr38 hP hS => ?_)
        have hr38 : True := hr38
        have hP : RP D cy ad (rR (rJ (rJ (rA (rS σ 56 (1 : Int32)) 51 (upd (σ.2.1 51) k0.toNatClampNeg (1 : Int32))) 52 (vp_updL (σ.2.2.1 52) k0.toNatClampNeg (0 : Int64))) 53 (vp_updL (σ.2.2.1 53) k0.toNatClampNeg (0 : Int64))) (vf_upd (σ.2.2.2) k0.toNatClampNeg FP.dconst0)) H := hP
        have hP : RP D cy ad (rS (rR (rJ (rJ (rA σ 51 (upd (σ.2.1 51) k0.toNatClampNeg (1 : Int32))) 52 (vp_updL (σ.2.2.1 52) k0.toNatClampNeg (0 : Int64))) 53 (vp_updL (σ.2.2.1 53) k0.toNatClampNeg (0 : Int64))) (vf_upd (σ.2.2.2) k0.toNatClampNeg FP.dconst0)) 56 (1 : Int32)) H := RP.cong hP (Eq.trans (b := (σ.1 0)) rfl rfl) (Eq.trans (b := (σ.1 1)) rfl rfl) (Eq.trans (b := (σ.2.1 2)) rfl rfl) (Eq.trans (b := (σ.1 3)) rfl rfl) (Eq.trans (b := (σ.2.1 4)) rfl rfl) (Eq.trans (b := (σ.2.1 5)) rfl rfl) (Eq.trans (b := (σ.2.2.1 6)) rfl rfl) (Eq.trans (b := (σ.2.1 7)) rfl rfl) (Eq.trans (b := (σ.1 8)) rfl rfl) (Eq.trans (b := (σ.1 9)) rfl rfl) (Eq.trans (b := (σ.1 10)) rfl rfl) (Eq.trans (b := (σ.2.1 11)) rfl rfl) (Eq.trans (b := (σ.2.2.1 12)) rfl rfl) (Eq.trans (b := (σ.2.1 13)) rfl rfl) (Eq.trans (b := (σ.1 14)) rfl rfl) (Eq.trans (b := (σ.1 15)) rfl rfl) (Eq.trans (b := (σ.1 16)) rfl rfl) (Eq.trans (b := (σ.1 17)) rfl rfl) (Eq.trans (b := (σ.1 18)) rfl rfl) (Eq.trans (b := (σ.1 19)) rfl rfl) (Eq.trans (b := (σ.2.1 20)) rfl rfl) (Eq.trans (b := (σ.2.1 21)) rfl rfl) (Eq.trans (b := (σ.2.1 22)) rfl rfl) (Eq.trans (b := (σ.2.1 23)) rfl rfl) (Eq.trans (b := (σ.2.1 24)) rfl rfl) (Eq.trans (b := (σ.2.1 25)) rfl rfl) (Eq.trans (b := (σ.2.1 26)) rfl rfl) (Eq.trans (b := (σ.2.1 27)) rfl rfl) (Eq.trans (b := (σ.2.1 28)) rfl rfl) (Eq.trans (b := (σ.1 29)) rfl rfl) (Eq.trans (b := (σ.2.1 30)) rfl rfl) (Eq.trans (b := (σ.2.1 31)) rfl rfl) (Eq.trans (b := (σ.2.1 32)) rfl rfl) (Eq.trans (b := (σ.1 33)) rfl rfl) (Eq.trans (b := (σ.1 34)) rfl rfl) (Eq.trans (b := (σ.1 35)) rfl rfl) (Eq.trans (b := (σ.2.1 36)) rfl rfl) (Eq.trans (b := (σ.2.1 37)) rfl rfl) (Eq.trans (b := (σ.2.1 38)) rfl rfl) (Eq.trans (b := (σ.2.1 39)) rfl rfl) (Eq.trans (b := (σ.2.1 40)) rfl rfl) (Eq.trans (b := (σ.2.1 41)) rfl rfl) (Eq.trans (b := (σ.2.1 42)) rfl rfl) (Eq.trans (b := (σ.2.1 43)) rfl rfl) (Eq.trans (b := (σ.2.1 44)) rfl rfl) (Eq.trans (b := (σ.2.1 45)) rfl rfl) (Eq.trans (b := (σ.2.1 46)) rfl rfl) (Eq.trans (b := (σ.1 47)) rfl rfl) (Eq.trans (b := (σ.2.1 48)) rfl rfl) (Eq.trans (b := (σ.1 49)) rfl rfl) (Eq.trans (b := (σ.2.1 50)) rfl rfl) (Eq.trans (b := (upd (σ.2.1 51) k0.toNatClampNeg (1 : Int32))) rfl rfl) (Eq.trans (b := (vp_updL (σ.2.2.1 52) k0.toNatClampNeg (0 : Int64))) rfl rfl) (Eq.trans (b := (vp_updL (σ.2.2.1 53) k0.toNatClampNeg (0 : Int64))) rfl rfl) (Eq.trans (b := (vf_upd (σ.2.2.2) k0.toNatClampNeg FP.dconst0)) rfl rfl) (Eq.trans (b := (σ.1 55)) rfl rfl) (Eq.trans (b := (1 : Int32)) rfl rfl) (Eq.trans (b := (σ.1 57)) rfl rfl) (Eq.trans (b := (σ.2.1 58)) rfl rfl) (Eq.trans (b := (σ.1 59)) rfl rfl)
        exact r_retv C ⟨(upd (σ.2.1 51) k0.toNatClampNeg (1 : Int32)), (vp_updL (σ.2.2.1 52) k0.toNatClampNeg (0 : Int64)), (vp_updL (σ.2.2.1 53) k0.toNatClampNeg (0 : Int64)), (vf_upd (σ.2.2.2) k0.toNatClampNeg FP.dconst0), (1 : Int32)⟩ ⟨(v_compare_20 σ k0 k1 hpre_0 hpre_1 hpre_2 hpre_3 hpre_4 hpre_5 hr2 hr6), (v_compare_21 σ k0 k1 k2 r2 r6 hpre_0 hpre_1 hpre_2 hpre_3 hpre_4 hpre_5 hpre_6 c1 hr2 c3 hr2v hr6 c7)⟩ hP hS dX12_compare_175
  · have c1 : 25 ≤ k2.toInt := by have h := z_nlt c1; rw [show (25 : Int32).toInt = 25 from by decide +kernel] at h; exact h
    refine lv_aload_n hx hb dX12_compare_9 rfl (lv_at hl 1 rfl) ?_
    refine lv_iload_n hx hb dX12_compare_10 rfl (lv_at hl 2 rfl) ?_
    refine lv_iload_n hx hb dX12_compare_11 rfl (lv_at hl 3 rfl) ?_
    refine r_callVi (As := [.int k0, .int k1]) (rest := []) C hP hS hl.1 ⟨Nat.zero_le _, Nat.zero_le _⟩ (M_alike l D cy sz0 sa ad σ s.heap.size k0 k1 (v_compare_22 σ k0 k1 hpre_0 hpre_1 hpre_2 hpre_3 hpre_4 hpre_5)) (n := 2) ⟨wm_306, wm_304, by decide +kernel⟩ ⟨wm_307, wm_308, wm_10⟩ rfl rfl (lv_room (Nat.le_of_ble_eq_true rfl)) ⟨Nat.le_of_ble_eq_true rfl, Nat.le_of_ble_eq_true rfl⟩ dX12_compare_12 (fun r39 u H locs hr39 hP hS => ?_)
    obtain ⟨hr39, hr39y⟩ := hr39
    have hr39y : ∀ v9 w9 : QV, QAT (qH (σ.2.1 36) (σ.2.1 37) (σ.2.1 38) (σ.2.1 39) (σ.2.1 40) (σ.2.1 41) (σ.2.1 42) (σ.2.1 43) (σ.2.1 44) (σ.2.1 45) (σ.2.1 46) (σ.2.1 48)) (σ.1 47).toInt ((σ.2.1 51), (σ.2.2.1 52), (σ.2.2.1 53), (σ.2.2.2)) k0.toNatClampNeg v9 → QAT (qH (σ.2.1 36) (σ.2.1 37) (σ.2.1 38) (σ.2.1 39) (σ.2.1 40) (σ.2.1 41) (σ.2.1 42) (σ.2.1 43) (σ.2.1 44) (σ.2.1 45) (σ.2.1 46) (σ.2.1 48)) (σ.1 47).toInt ((σ.2.1 51), (σ.2.2.1 52), (σ.2.2.1 53), (σ.2.2.2)) k1.toNatClampNeg w9 → (r39.toInt = 0 ∨ r39.toInt = 1) ∧ (r39.toInt = 0 → qSame v9 w9 = false) ∧ (¬ r39.toInt = 0 → qSame v9 w9 = true) := hr39y
    have hr39 : True := hr39
    refine lv_iload_n hx hb dX12_compare_15 rfl (lv_at hl 4 rfl) ?_
    refine lv_bipush (v := 25) hx hb dX12_compare_16 (by decide +kernel) ?_
    refine lv_icmp_ne (tgt := 25) hx hb dX12_compare_18 (by decide) (fun c40 => ?_) (fun c40 => ?_)
    · have c40 : ¬ k2.toInt = 25 := by have h := z_ne c40; rw [show (25 : Int32).toInt = 25 from by decide +kernel] at h; exact h
      refine lv_iconst (v := 0) hx hb dX12_compare_25 (by decide +kernel) ?_
      refine lv_icmp_ne (tgt := 33) hx hb dX12_compare_26 (by decide) (fun c41 => ?_) (fun c41 => ?_)
      · have c41 : ¬ r39.toInt = 0 := by have h := z_ne c41; rw [show (0 : Int32).toInt = 0 from by decide +kernel] at h; exact h
        refine lv_iconst (v := 0) hx hb dX12_compare_33 (by decide +kernel) ?_
        refine lv_istore (lv' := [(4, .int 0), (0, .ref (ad 0)), (1, .int k0), (2, .int k1), (3, .int k2)]) hx hb dX12_compare_34 hl (by decide) rfl (fun ls hl => ?_)
        refine lv_goto (tgt := 158) hx hb dX12_compare_36 (by decide) ?_
        refine lv_aload_n hx hb dX12_compare_158 rfl (lv_at hl 1 rfl) ?_
        refine lv_iload_n hx hb dX12_compare_159 rfl (lv_at hl 2 rfl) ?_
        refine lv_iconst (v := 1) hx hb dX12_compare_160 (by decide +kernel) ?_
        refine lv_iload hx hb dX12_compare_161 (lv_at hl 0 rfl) ?_
        refine lv_if_eq (tgt := 170) hx hb dX12_compare_163 (by decide) (fun _ => ?_) (fun c42 => absurd (by decide +kernel) c42)
        refine lv_lconst (v := 0) hx hb dX12_compare_170 rfl ?_
        refine lv_dconst0 hx hb dX12_compare_171 ?_
        refine r_callVv (As := [.int k0, .int 1, .long 0, .double FP.dconst0]) (rest := []) C hP hS hl.1 ⟨Nat.zero_le _, Nat.zero_le _⟩ (M_set l D cy sz0 sa ad σ H.size k0 (1 : Int32) (0 : Int64) FP.dconst0 (v_compare_1 σ k0 k1 hpre_0 hpre_1 hpre_2 hpre_3 hpre_4 hpre_5)) (n := 4) ⟨wm_213, wm_207, by decide +kernel⟩ ⟨wm_214, wm_215, wm_10⟩ rfl rfl (lv_room (Nat.le_of_ble_eq_true rfl)) ⟨Nat.le_of_ble_eq_true rfl, Nat.le_of_ble_eq_true rfl⟩ dX12_compare_172 (fun u H locs hr43 hP hS => ?_)
        have hr43 : True := hr43
        have hP : RP D cy ad (rR (rJ (rJ (rA σ 51 (upd (σ.2.1 51) k0.toNatClampNeg (1 : Int32))) 52 (vp_updL (σ.2.2.1 52) k0.toNatClampNeg (0 : Int64))) 53 (vp_updL (σ.2.2.1 53) k0.toNatClampNeg (0 : Int64))) (vf_upd (σ.2.2.2) k0.toNatClampNeg FP.dconst0)) H := hP
        have hP : RP D cy ad (rS (rR (rJ (rJ (rA σ 51 (upd (σ.2.1 51) k0.toNatClampNeg (1 : Int32))) 52 (vp_updL (σ.2.2.1 52) k0.toNatClampNeg (0 : Int64))) 53 (vp_updL (σ.2.2.1 53) k0.toNatClampNeg (0 : Int64))) (vf_upd (σ.2.2.2) k0.toNatClampNeg FP.dconst0)) 56 (σ.1 56)) H := RP.cong hP (Eq.trans (b := (σ.1 0)) rfl rfl) (Eq.trans (b := (σ.1 1)) rfl rfl) (Eq.trans (b := (σ.2.1 2)) rfl rfl) (Eq.trans (b := (σ.1 3)) rfl rfl) (Eq.trans (b := (σ.2.1 4)) rfl rfl) (Eq.trans (b := (σ.2.1 5)) rfl rfl) (Eq.trans (b := (σ.2.2.1 6)) rfl rfl) (Eq.trans (b := (σ.2.1 7)) rfl rfl) (Eq.trans (b := (σ.1 8)) rfl rfl) (Eq.trans (b := (σ.1 9)) rfl rfl) (Eq.trans (b := (σ.1 10)) rfl rfl) (Eq.trans (b := (σ.2.1 11)) rfl rfl) (Eq.trans (b := (σ.2.2.1 12)) rfl rfl) (Eq.trans (b := (σ.2.1 13)) rfl rfl) (Eq.trans (b := (σ.1 14)) rfl rfl) (Eq.trans (b := (σ.1 15)) rfl rfl) (Eq.trans (b := (σ.1 16)) rfl rfl) (Eq.trans (b := (σ.1 17)) rfl rfl) (Eq.trans (b := (σ.1 18)) rfl rfl) (Eq.trans (b := (σ.1 19)) rfl rfl) (Eq.trans (b := (σ.2.1 20)) rfl rfl) (Eq.trans (b := (σ.2.1 21)) rfl rfl) (Eq.trans (b := (σ.2.1 22)) rfl rfl) (Eq.trans (b := (σ.2.1 23)) rfl rfl) (Eq.trans (b := (σ.2.1 24)) rfl rfl) (Eq.trans (b := (σ.2.1 25)) rfl rfl) (Eq.trans (b := (σ.2.1 26)) rfl rfl) (Eq.trans (b := (σ.2.1 27)) rfl rfl) (Eq.trans (b := (σ.2.1 28)) rfl rfl) (Eq.trans (b := (σ.1 29)) rfl rfl) (Eq.trans (b := (σ.2.1 30)) rfl rfl) (Eq.trans (b := (σ.2.1 31)) rfl rfl) (Eq.trans (b := (σ.2.1 32)) rfl rfl) (Eq.trans (b := (σ.1 33)) rfl rfl) (Eq.trans (b := (σ.1 34)) rfl rfl) (Eq.trans (b := (σ.1 35)) rfl rfl) (Eq.trans (b := (σ.2.1 36)) rfl rfl) (Eq.trans (b := (σ.2.1 37)) rfl rfl) (Eq.trans (b := (σ.2.1 38)) rfl rfl) (Eq.trans (b := (σ.2.1 39)) rfl rfl) (Eq.trans (b := (σ.2.1 40)) rfl rfl) (Eq.trans (b := (σ.2.1 41)) rfl rfl) (Eq.trans (b := (σ.2.1 42)) rfl rfl) (Eq.trans (b := (σ.2.1 43)) rfl rfl) (Eq.trans (b := (σ.2.1 44)) rfl rfl) (Eq.trans (b := (σ.2.1 45)) rfl rfl) (Eq.trans (b := (σ.2.1 46)) rfl rfl) (Eq.trans (b := (σ.1 47)) rfl rfl) (Eq.trans (b := (σ.2.1 48)) rfl rfl) (Eq.trans (b := (σ.1 49)) rfl rfl) (Eq.trans (b := (σ.2.1 50)) rfl rfl) (Eq.trans (b := (upd (σ.2.1 51) k0.toNatClampNeg (1 : Int32))) rfl rfl) (Eq.trans (b := (vp_updL (σ.2.2.1 52) k0.toNatClampNeg (0 : Int64))) rfl rfl) (Eq.trans (b := (vp_updL (σ.2.2.1 53) k0.toNatClampNeg (0 : Int64))) rfl rfl) (Eq.trans (b := (vf_upd (σ.2.2.2) k0.toNatClampNeg FP.dconst0)) rfl rfl) (Eq.trans (b := (σ.1 55)) rfl rfl) (Eq.trans (b := (σ.1 56)) rfl rfl) (Eq.trans (b := (σ.1 57)) rfl rfl) (Eq.trans (b := (σ.2.1 58)) rfl rfl) (Eq.trans (b := (σ.1 59)) rfl rfl)
        exact r_retv C ⟨(upd (σ.2.1 51) k0.toNatClampNeg (1 : Int32)), (vp_updL (σ.2.2.1 52) k0.toNatClampNeg (0 : Int64)), (vp_updL (σ.2.2.1 53) k0.toNatClampNeg (0 : Int64)), (vf_upd (σ.2.2.2) k0.toNatClampNeg FP.dconst0), (σ.1 56)⟩ ⟨(v_compare_23 σ k0 k1 hpre_0 hpre_1 hpre_2 hpre_3 hpre_4 hpre_5 hpre_6), (v_compare_24 σ k0 k1 k2 r39 hpre_0 hpre_1 hpre_2 hpre_3 hpre_4 hpre_5 hpre_6 c1 hr39y c40 c41)⟩ hP hS dX12_compare_175
      · have c41 : r39.toInt = 0 := by have h := z_eq c41; rw [show (0 : Int32).toInt = 0 from by decide +kernel] at h; exact h
        refine lv_iconst (v := 1) hx hb dX12_compare_29 (by decide +kernel) ?_
        refine lv_goto (tgt := 34) hx hb dX12_compare_30 (by decide) ?_
        refine lv_istore (lv' := [(4, .int 1), (0, .ref (ad 0)), (1, .int k0), (2, .int k1), (3, .int k2)]) hx hb dX12_compare_34 hl (by decide) rfl (fun ls hl => ?_)
        refine lv_goto (tgt := 158) hx hb dX12_compare_36 (by decide) ?_
        refine lv_aload_n hx hb dX12_compare_158 rfl (lv_at hl 1 rfl) ?_
        refine lv_iload_n hx hb dX12_compare_159 rfl (lv_at hl 2 rfl) ?_
        refine lv_iconst (v := 1) hx hb dX12_compare_160 (by decide +kernel) ?_
        refine lv_iload hx hb dX12_compare_161 (lv_at hl 0 rfl) ?_
        refine lv_if_eq (tgt := 170) hx hb dX12_compare_163 (by decide) (fun c44 => absurd c44 (by decide +kernel)) (fun _ => ?_)
        refine lv_lconst (v := 1) hx hb dX12_compare_166 rfl ?_
        refine lv_goto (tgt := 171) hx hb dX12_compare_167 (by decide) ?_
        refine lv_dconst0 hx hb dX12_compare_171 ?_
        refine r_callVv (As := [.int k0, .int 1, .long 1, .double FP.dconst0]) (rest := []) C hP hS hl.1 ⟨Nat.zero_le _, Nat.zero_le _⟩ (M_set l D cy sz0 sa ad σ H.size k0 (1 : Int32) (1 : Int64) FP.dconst0 (v_compare_1 σ k0 k1 hpre_0 hpre_1 hpre_2 hpre_3 hpre_4 hpre_5)) (n := 4) ⟨wm_213, wm_207, by decide +kernel⟩ ⟨wm_214, wm_215, wm_10⟩ rfl rfl (lv_room (Nat.le_of_ble_eq_true rfl)) ⟨Nat.le_of_ble_eq_true rfl, Nat.le_of_ble_eq_true rfl⟩ dX12_compare_172 (fun u H locs hr45 hP hS => ?_)
        have hr45 : True := hr45
        have hP : RP D cy ad (rR (rJ (rJ (rA σ 51 (upd (σ.2.1 51) k0.toNatClampNeg (1 : Int32))) 52 (vp_updL (σ.2.2.1 52) k0.toNatClampNeg (1 : Int64))) 53 (vp_updL (σ.2.2.1 53) k0.toNatClampNeg (0 : Int64))) (vf_upd (σ.2.2.2) k0.toNatClampNeg FP.dconst0)) H := hP
        have hP : RP D cy ad (rS (rR (rJ (rJ (rA σ 51 (upd (σ.2.1 51) k0.toNatClampNeg (1 : Int32))) 52 (vp_updL (σ.2.2.1 52) k0.toNatClampNeg (1 : Int64))) 53 (vp_updL (σ.2.2.1 53) k0.toNatClampNeg (0 : Int64))) (vf_upd (σ.2.2.2) k0.toNatClampNeg FP.dconst0)) 56 (σ.1 56)) H := RP.cong hP (Eq.trans (b := (σ.1 0)) rfl rfl) (Eq.trans (b := (σ.1 1)) rfl rfl) (Eq.trans (b := (σ.2.1 2)) rfl rfl) (Eq.trans (b := (σ.1 3)) rfl rfl) (Eq.trans (b := (σ.2.1 4)) rfl rfl) (Eq.trans (b := (σ.2.1 5)) rfl rfl) (Eq.trans (b := (σ.2.2.1 6)) rfl rfl) (Eq.trans (b := (σ.2.1 7)) rfl rfl) (Eq.trans (b := (σ.1 8)) rfl rfl) (Eq.trans (b := (σ.1 9)) rfl rfl) (Eq.trans (b := (σ.1 10)) rfl rfl) (Eq.trans (b := (σ.2.1 11)) rfl rfl) (Eq.trans (b := (σ.2.2.1 12)) rfl rfl) (Eq.trans (b := (σ.2.1 13)) rfl rfl) (Eq.trans (b := (σ.1 14)) rfl rfl) (Eq.trans (b := (σ.1 15)) rfl rfl) (Eq.trans (b := (σ.1 16)) rfl rfl) (Eq.trans (b := (σ.1 17)) rfl rfl) (Eq.trans (b := (σ.1 18)) rfl rfl) (Eq.trans (b := (σ.1 19)) rfl rfl) (Eq.trans (b := (σ.2.1 20)) rfl rfl) (Eq.trans (b := (σ.2.1 21)) rfl rfl) (Eq.trans (b := (σ.2.1 22)) rfl rfl) (Eq.trans (b := (σ.2.1 23)) rfl rfl) (Eq.trans (b := (σ.2.1 24)) rfl rfl) (Eq.trans (b := (σ.2.1 25)) rfl rfl) (Eq.trans (b := (σ.2.1 26)) rfl rfl) (Eq.trans (b := (σ.2.1 27)) rfl rfl) (Eq.trans (b := (σ.2.1 28)) rfl rfl) (Eq.trans (b := (σ.1 29)) rfl rfl) (Eq.trans (b := (σ.2.1 30)) rfl rfl) (Eq.trans (b := (σ.2.1 31)) rfl rfl) (Eq.trans (b := (σ.2.1 32)) rfl rfl) (Eq.trans (b := (σ.1 33)) rfl rfl) (Eq.trans (b := (σ.1 34)) rfl rfl) (Eq.trans (b := (σ.1 35)) rfl rfl) (Eq.trans (b := (σ.2.1 36)) rfl rfl) (Eq.trans (b := (σ.2.1 37)) rfl rfl) (Eq.trans (b := (σ.2.1 38)) rfl rfl) (Eq.trans (b := (σ.2.1 39)) rfl rfl) (Eq.trans (b := (σ.2.1 40)) rfl rfl) (Eq.trans (b := (σ.2.1 41)) rfl rfl) (Eq.trans (b := (σ.2.1 42)) rfl rfl) (Eq.trans (b := (σ.2.1 43)) rfl rfl) (Eq.trans (b := (σ.2.1 44)) rfl rfl) (Eq.trans (b := (σ.2.1 45)) rfl rfl) (Eq.trans (b := (σ.2.1 46)) rfl rfl) (Eq.trans (b := (σ.1 47)) rfl rfl) (Eq.trans (b := (σ.2.1 48)) rfl rfl) (Eq.trans (b := (σ.1 49)) rfl rfl) (Eq.trans (b := (σ.2.1 50)) rfl rfl) (Eq.trans (b := (upd (σ.2.1 51) k0.toNatClampNeg (1 : Int32))) rfl rfl) (Eq.trans (b := (vp_updL (σ.2.2.1 52) k0.toNatClampNeg (1 : Int64))) rfl rfl) (Eq.trans (b := (vp_updL (σ.2.2.1 53) k0.toNatClampNeg (0 : Int64))) rfl rfl) (Eq.trans (b := (vf_upd (σ.2.2.2) k0.toNatClampNeg FP.dconst0)) rfl rfl) (Eq.trans (b := (σ.1 55)) rfl rfl) (Eq.trans (b := (σ.1 56)) rfl rfl) (Eq.trans (b := (σ.1 57)) rfl rfl) (Eq.trans (b := (σ.2.1 58)) rfl rfl) (Eq.trans (b := (σ.1 59)) rfl rfl)
        exact r_retv C ⟨(upd (σ.2.1 51) k0.toNatClampNeg (1 : Int32)), (vp_updL (σ.2.2.1 52) k0.toNatClampNeg (1 : Int64)), (vp_updL (σ.2.2.1 53) k0.toNatClampNeg (0 : Int64)), (vf_upd (σ.2.2.2) k0.toNatClampNeg FP.dconst0), (σ.1 56)⟩ ⟨(v_compare_25 σ k0 k1 hpre_0 hpre_1 hpre_2 hpre_3 hpre_4 hpre_5 hpre_6), (v_compare_26 σ k0 k1 k2 r39 hpre_0 hpre_1 hpre_2 hpre_3 hpre_4 hpre_5 hpre_6 c1 hr39y c40 c41)⟩ hP hS dX12_compare_175
    · have c40 : k2.toInt = 25 := by have h := z_eq c40; rw [show (25 : Int32).toInt = 25 from by decide +kernel] at h; exact h
      refine lv_iconst (v := 1) hx hb dX12_compare_21 (by decide +kernel) ?_
      refine lv_goto (tgt := 26) hx hb dX12_compare_22 (by decide) ?_
      refine lv_icmp_ne (tgt := 33) hx hb dX12_compare_26 (by decide) (fun c46 => ?_) (fun c46 => ?_)
      · have c46 : ¬ r39.toInt = 1 := by have h := z_ne c46; rw [show (1 : Int32).toInt = 1 from by decide +kernel] at h; exact h
        refine lv_iconst (v := 0) hx hb dX12_compare_33 (by decide +kernel) ?_
        refine lv_istore (lv' := [(4, .int 0), (0, .ref (ad 0)), (1, .int k0), (2, .int k1), (3, .int k2)]) hx hb dX12_compare_34 hl (by decide) rfl (fun ls hl => ?_)
        refine lv_goto (tgt := 158) hx hb dX12_compare_36 (by decide) ?_
        refine lv_aload_n hx hb dX12_compare_158 rfl (lv_at hl 1 rfl) ?_
        refine lv_iload_n hx hb dX12_compare_159 rfl (lv_at hl 2 rfl) ?_
        refine lv_iconst (v := 1) hx hb dX12_compare_160 (by decide +kernel) ?_
        refine lv_iload hx hb dX12_compare_161 (lv_at hl 0 rfl) ?_
        refine lv_if_eq (tgt := 170) hx hb dX12_compare_163 (by decide) (fun _ => ?_) (fun c47 => absurd (by decide +kernel) c47)
        refine lv_lconst (v := 0) hx hb dX12_compare_170 rfl ?_
        refine lv_dconst0 hx hb dX12_compare_171 ?_
        refine r_callVv (As := [.int k0, .int 1, .long 0, .double FP.dconst0]) (rest := []) C hP hS hl.1 ⟨Nat.zero_le _, Nat.zero_le _⟩ (M_set l D cy sz0 sa ad σ H.size k0 (1 : Int32) (0 : Int64) FP.dconst0 (v_compare_1 σ k0 k1 hpre_0 hpre_1 hpre_2 hpre_3 hpre_4 hpre_5)) (n := 4) ⟨wm_213, wm_207, by decide +kernel⟩ ⟨wm_214, wm_215, wm_10⟩ rfl rfl (lv_room (Nat.le_of_ble_eq_true rfl)) ⟨Nat.le_of_ble_eq_true rfl, Nat.le_of_ble_eq_true rfl⟩ dX12_compare_172 (fun u H locs hr48 hP hS => ?_)
        have hr48 : True := hr48
        have hP : RP D cy ad (rR (rJ (rJ (rA σ 51 (upd (σ.2.1 51) k0.toNatClampNeg (1 : Int32))) 52 (vp_updL (σ.2.2.1 52) k0.toNatClampNeg (0 : Int64))) 53 (vp_updL (σ.2.2.1 53) k0.toNatClampNeg (0 : Int64))) (vf_upd (σ.2.2.2) k0.toNatClampNeg FP.dconst0)) H := hP
        have hP : RP D cy ad (rS (rR (rJ (rJ (rA σ 51 (upd (σ.2.1 51) k0.toNatClampNeg (1 : Int32))) 52 (vp_updL (σ.2.2.1 52) k0.toNatClampNeg (0 : Int64))) 53 (vp_updL (σ.2.2.1 53) k0.toNatClampNeg (0 : Int64))) (vf_upd (σ.2.2.2) k0.toNatClampNeg FP.dconst0)) 56 (σ.1 56)) H := RP.cong hP (Eq.trans (b := (σ.1 0)) rfl rfl) (Eq.trans (b := (σ.1 1)) rfl rfl) (Eq.trans (b := (σ.2.1 2)) rfl rfl) (Eq.trans (b := (σ.1 3)) rfl rfl) (Eq.trans (b := (σ.2.1 4)) rfl rfl) (Eq.trans (b := (σ.2.1 5)) rfl rfl) (Eq.trans (b := (σ.2.2.1 6)) rfl rfl) (Eq.trans (b := (σ.2.1 7)) rfl rfl) (Eq.trans (b := (σ.1 8)) rfl rfl) (Eq.trans (b := (σ.1 9)) rfl rfl) (Eq.trans (b := (σ.1 10)) rfl rfl) (Eq.trans (b := (σ.2.1 11)) rfl rfl) (Eq.trans (b := (σ.2.2.1 12)) rfl rfl) (Eq.trans (b := (σ.2.1 13)) rfl rfl) (Eq.trans (b := (σ.1 14)) rfl rfl) (Eq.trans (b := (σ.1 15)) rfl rfl) (Eq.trans (b := (σ.1 16)) rfl rfl) (Eq.trans (b := (σ.1 17)) rfl rfl) (Eq.trans (b := (σ.1 18)) rfl rfl) (Eq.trans (b := (σ.1 19)) rfl rfl) (Eq.trans (b := (σ.2.1 20)) rfl rfl) (Eq.trans (b := (σ.2.1 21)) rfl rfl) (Eq.trans (b := (σ.2.1 22)) rfl rfl) (Eq.trans (b := (σ.2.1 23)) rfl rfl) (Eq.trans (b := (σ.2.1 24)) rfl rfl) (Eq.trans (b := (σ.2.1 25)) rfl rfl) (Eq.trans (b := (σ.2.1 26)) rfl rfl) (Eq.trans (b := (σ.2.1 27)) rfl rfl) (Eq.trans (b := (σ.2.1 28)) rfl rfl) (Eq.trans (b := (σ.1 29)) rfl rfl) (Eq.trans (b := (σ.2.1 30)) rfl rfl) (Eq.trans (b := (σ.2.1 31)) rfl rfl) (Eq.trans (b := (σ.2.1 32)) rfl rfl) (Eq.trans (b := (σ.1 33)) rfl rfl) (Eq.trans (b := (σ.1 34)) rfl rfl) (Eq.trans (b := (σ.1 35)) rfl rfl) (Eq.trans (b := (σ.2.1 36)) rfl rfl) (Eq.trans (b := (σ.2.1 37)) rfl rfl) (Eq.trans (b := (σ.2.1 38)) rfl rfl) (Eq.trans (b := (σ.2.1 39)) rfl rfl) (Eq.trans (b := (σ.2.1 40)) rfl rfl) (Eq.trans (b := (σ.2.1 41)) rfl rfl) (Eq.trans (b := (σ.2.1 42)) rfl rfl) (Eq.trans (b := (σ.2.1 43)) rfl rfl) (Eq.trans (b := (σ.2.1 44)) rfl rfl) (Eq.trans (b := (σ.2.1 45)) rfl rfl) (Eq.trans (b := (σ.2.1 46)) rfl rfl) (Eq.trans (b := (σ.1 47)) rfl rfl) (Eq.trans (b := (σ.2.1 48)) rfl rfl) (Eq.trans (b := (σ.1 49)) rfl rfl) (Eq.trans (b := (σ.2.1 50)) rfl rfl) (Eq.trans (b := (upd (σ.2.1 51) k0.toNatClampNeg (1 : Int32))) rfl rfl) (Eq.trans (b := (vp_updL (σ.2.2.1 52) k0.toNatClampNeg (0 : Int64))) rfl rfl) (Eq.trans (b := (vp_updL (σ.2.2.1 53) k0.toNatClampNeg (0 : Int64))) rfl rfl) (Eq.trans (b := (vf_upd (σ.2.2.2) k0.toNatClampNeg FP.dconst0)) rfl rfl) (Eq.trans (b := (σ.1 55)) rfl rfl) (Eq.trans (b := (σ.1 56)) rfl rfl) (Eq.trans (b := (σ.1 57)) rfl rfl) (Eq.trans (b := (σ.2.1 58)) rfl rfl) (Eq.trans (b := (σ.1 59)) rfl rfl)
        exact r_retv C ⟨(upd (σ.2.1 51) k0.toNatClampNeg (1 : Int32)), (vp_updL (σ.2.2.1 52) k0.toNatClampNeg (0 : Int64)), (vp_updL (σ.2.2.1 53) k0.toNatClampNeg (0 : Int64)), (vf_upd (σ.2.2.2) k0.toNatClampNeg FP.dconst0), (σ.1 56)⟩ ⟨(v_compare_23 σ k0 k1 hpre_0 hpre_1 hpre_2 hpre_3 hpre_4 hpre_5 hpre_6), (v_compare_27 σ k0 k1 k2 r39 hpre_0 hpre_1 hpre_2 hpre_3 hpre_4 hpre_5 hpre_6 c1 hr39y c40 c46)⟩ hP hS dX12_compare_175
      · have c46 : r39.toInt = 1 := by have h := z_eq c46; rw [show (1 : Int32).toInt = 1 from by decide +kernel] at h; exact h
        refine lv_iconst (v := 1) hx hb dX12_compare_29 (by decide +kernel) ?_
        refine lv_goto (tgt := 34) hx hb dX12_compare_30 (by decide) ?_
        refine lv_istore (lv' := [(4, .int 1), (0, .ref (ad 0)), (1, .int k0), (2, .int k1), (3, .int k2)]) hx hb dX12_compare_34 hl (by decide) rfl (fun ls hl => ?_)
        refine lv_goto (tgt := 158) hx hb dX12_compare_36 (by decide) ?_
        refine lv_aload_n hx hb dX12_compare_158 rfl (lv_at hl 1 rfl) ?_
        refine lv_iload_n hx hb dX12_compare_159 rfl (lv_at hl 2 rfl) ?_
        refine lv_iconst (v := 1) hx hb dX12_compare_160 (by decide +kernel) ?_
        refine lv_iload hx hb dX12_compare_161 (lv_at hl 0 rfl) ?_
        refine lv_if_eq (tgt := 170) hx hb dX12_compare_163 (by decide) (fun c49 => absurd c49 (by decide +kernel)) (fun _ => ?_)
        refine lv_lconst (v := 1) hx hb dX12_compare_166 rfl ?_
        refine lv_goto (tgt := 171) hx hb dX12_compare_167 (by decide) ?_
        refine lv_dconst0 hx hb dX12_compare_171 ?_
        refine r_callVv (As := [.int k0, .int 1, .long 1, .double FP.dconst0]) (rest := []) C hP hS hl.1 ⟨Nat.zero_le _, Nat.zero_le _⟩ (M_set l D cy sz0 sa ad σ H.size k0 (1 : Int32) (1 : Int64) FP.dconst0 (v_compare_1 σ k0 k1 hpre_0 hpre_1 hpre_2 hpre_3 hpre_4 hpre_5)) (n := 4) ⟨wm_213, wm_207, by decide +kernel⟩ ⟨wm_214, wm_215, wm_10⟩ rfl rfl (lv_room (Nat.le_of_ble_eq_true rfl)) ⟨Nat.le_of_ble_eq_true rfl, Nat.le_of_ble_eq_true rfl⟩ dX12_compare_172 (fun u H locs hr50 hP hS => ?_)
        have hr50 : True := hr50
        have hP : RP D cy ad (rR (rJ (rJ (rA σ 51 (upd (σ.2.1 51) k0.toNatClampNeg (1 : Int32))) 52 (vp_updL (σ.2.2.1 52) k0.toNatClampNeg (1 : Int64))) 53 (vp_updL (σ.2.2.1 53) k0.toNatClampNeg (0 : Int64))) (vf_upd (σ.2.2.2) k0.toNatClampNeg FP.dconst0)) H := hP
        have hP : RP D cy ad (rS (rR (rJ (rJ (rA σ 51 (upd (σ.2.1 51) k0.toNatClampNeg (1 : Int32))) 52 (vp_updL (σ.2.2.1 52) k0.toNatClampNeg (1 : Int64))) 53 (vp_updL (σ.2.2.1 53) k0.toNatClampNeg (0 : Int64))) (vf_upd (σ.2.2.2) k0.toNatClampNeg FP.dconst0)) 56 (σ.1 56)) H := RP.cong hP (Eq.trans (b := (σ.1 0)) rfl rfl) (Eq.trans (b := (σ.1 1)) rfl rfl) (Eq.trans (b := (σ.2.1 2)) rfl rfl) (Eq.trans (b := (σ.1 3)) rfl rfl) (Eq.trans (b := (σ.2.1 4)) rfl rfl) (Eq.trans (b := (σ.2.1 5)) rfl rfl) (Eq.trans (b := (σ.2.2.1 6)) rfl rfl) (Eq.trans (b := (σ.2.1 7)) rfl rfl) (Eq.trans (b := (σ.1 8)) rfl rfl) (Eq.trans (b := (σ.1 9)) rfl rfl) (Eq.trans (b := (σ.1 10)) rfl rfl) (Eq.trans (b := (σ.2.1 11)) rfl rfl) (Eq.trans (b := (σ.2.2.1 12)) rfl rfl) (Eq.trans (b := (σ.2.1 13)) rfl rfl) (Eq.trans (b := (σ.1 14)) rfl rfl) (Eq.trans (b := (σ.1 15)) rfl rfl) (Eq.trans (b := (σ.1 16)) rfl rfl) (Eq.trans (b := (σ.1 17)) rfl rfl) (Eq.trans (b := (σ.1 18)) rfl rfl) (Eq.trans (b := (σ.1 19)) rfl rfl) (Eq.trans (b := (σ.2.1 20)) rfl rfl) (Eq.trans (b := (σ.2.1 21)) rfl rfl) (Eq.trans (b := (σ.2.1 22)) rfl rfl) (Eq.trans (b := (σ.2.1 23)) rfl rfl) (Eq.trans (b := (σ.2.1 24)) rfl rfl) (Eq.trans (b := (σ.2.1 25)) rfl rfl) (Eq.trans (b := (σ.2.1 26)) rfl rfl) (Eq.trans (b := (σ.2.1 27)) rfl rfl) (Eq.trans (b := (σ.2.1 28)) rfl rfl) (Eq.trans (b := (σ.1 29)) rfl rfl) (Eq.trans (b := (σ.2.1 30)) rfl rfl) (Eq.trans (b := (σ.2.1 31)) rfl rfl) (Eq.trans (b := (σ.2.1 32)) rfl rfl) (Eq.trans (b := (σ.1 33)) rfl rfl) (Eq.trans (b := (σ.1 34)) rfl rfl) (Eq.trans (b := (σ.1 35)) rfl rfl) (Eq.trans (b := (σ.2.1 36)) rfl rfl) (Eq.trans (b := (σ.2.1 37)) rfl rfl) (Eq.trans (b := (σ.2.1 38)) rfl rfl) (Eq.trans (b := (σ.2.1 39)) rfl rfl) (Eq.trans (b := (σ.2.1 40)) rfl rfl) (Eq.trans (b := (σ.2.1 41)) rfl rfl) (Eq.trans (b := (σ.2.1 42)) rfl rfl) (Eq.trans (b := (σ.2.1 43)) rfl rfl) (Eq.trans (b := (σ.2.1 44)) rfl rfl) (Eq.trans (b := (σ.2.1 45)) rfl rfl) (Eq.trans (b := (σ.2.1 46)) rfl rfl) (Eq.trans (b := (σ.1 47)) rfl rfl) (Eq.trans (b := (σ.2.1 48)) rfl rfl) (Eq.trans (b := (σ.1 49)) rfl rfl) (Eq.trans (b := (σ.2.1 50)) rfl rfl) (Eq.trans (b := (upd (σ.2.1 51) k0.toNatClampNeg (1 : Int32))) rfl rfl) (Eq.trans (b := (vp_updL (σ.2.2.1 52) k0.toNatClampNeg (1 : Int64))) rfl rfl) (Eq.trans (b := (vp_updL (σ.2.2.1 53) k0.toNatClampNeg (0 : Int64))) rfl rfl) (Eq.trans (b := (vf_upd (σ.2.2.2) k0.toNatClampNeg FP.dconst0)) rfl rfl) (Eq.trans (b := (σ.1 55)) rfl rfl) (Eq.trans (b := (σ.1 56)) rfl rfl) (Eq.trans (b := (σ.1 57)) rfl rfl) (Eq.trans (b := (σ.2.1 58)) rfl rfl) (Eq.trans (b := (σ.1 59)) rfl rfl)
        exact r_retv C ⟨(upd (σ.2.1 51) k0.toNatClampNeg (1 : Int32)), (vp_updL (σ.2.2.1 52) k0.toNatClampNeg (1 : Int64)), (vp_updL (σ.2.2.1 53) k0.toNatClampNeg (0 : Int64)), (vf_upd (σ.2.2.2) k0.toNatClampNeg FP.dconst0), (σ.1 56)⟩ ⟨(v_compare_25 σ k0 k1 hpre_0 hpre_1 hpre_2 hpre_3 hpre_4 hpre_5 hpre_6), (v_compare_28 σ k0 k1 k2 r39 hpre_0 hpre_1 hpre_2 hpre_3 hpre_4 hpre_5 hpre_6 c1 hr39y c40 c46)⟩ hP hS dX12_compare_175
