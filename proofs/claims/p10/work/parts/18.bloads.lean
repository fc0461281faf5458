-- dead@16 @80
theorem v_loads_1 (k0 : Int32) (hpre_11 : 1 ≤ k0.toInt) (hpre_12 : k0.toInt ≤ 10) (c1 : ¬ k0.toInt = 1) (c2 : k0.toInt < 2) : False := by
  first | assumption | omega | (subst_vars; omega) | trivial
-- dead@111 @118
theorem v_loads_2 (k0 : Int32) (hpre_11 : 1 ≤ k0.toInt) (hpre_12 : k0.toInt ≤ 10) (c1 : ¬ k0.toInt = 1) (c2 : 2 ≤ k0.toInt) (c3 : 5 ≤ k0.toInt) (c4 : ¬ k0.toInt = 5) (c5 : k0.toInt = 6) (c6 : ¬ k0.toInt = 6) : False := by
  first | assumption | omega | (subst_vars; omega) | trivial
-- pre:push@119 @119
theorem v_loads_3 (σ : RS) (hpre_0 : OBS (σ.1 47).toInt (σ.1 35).toInt (σ.2.1 48)) (hpre_1 : 0 ≤ (σ.1 47).toInt) (hpre_2 : (σ.1 47).toInt ≤ 30) (hpre_3 : 0 ≤ (σ.1 35).toInt) (hpre_4 : (σ.1 35).toInt ≤ 5) (hpre_5 : VALS (σ.2.1 51) (σ.2.2.1 52) (σ.1 35).toInt (σ.1 47).toInt) (hpre_6 : FINS (σ.2.1 51) (σ.2.2.2) (σ.1 55).toInt) (hpre_9 : -1 ≤ (σ.1 57).toInt) (hpre_10 : (σ.1 57).toInt < (σ.1 47).toInt) (hpre_13 : 0 ≤ (σ.1 55).toInt) (hpre_14 : (σ.1 55).toInt ≤ 50) : 0 ≤ (σ.1 55).toInt ∧ (σ.1 55).toInt < 979 := by
  refine ⟨?_, ?_⟩ <;> first | assumption | omega | (subst_vars; omega) | trivial
-- post @223
theorem v_loads_4 (σ : RS) (n8 : Int32) (hpre_0 : OBS (σ.1 47).toInt (σ.1 35).toInt (σ.2.1 48)) (hpre_1 : 0 ≤ (σ.1 47).toInt) (hpre_2 : (σ.1 47).toInt ≤ 30) (hpre_3 : 0 ≤ (σ.1 35).toInt) (hpre_4 : (σ.1 35).toInt ≤ 5) (hpre_5 : VALS (σ.2.1 51) (σ.2.2.1 52) (σ.1 35).toInt (σ.1 47).toInt) (hpre_6 : FINS (σ.2.1 51) (σ.2.2.2) (σ.1 55).toInt) (hpre_9 : -1 ≤ (σ.1 57).toInt) (hpre_10 : (σ.1 57).toInt < (σ.1 47).toInt) (hpre_13 : 0 ≤ (σ.1 55).toInt) (hpre_14 : (σ.1 55).toInt ≤ 50) (hr7 : n8.toInt = (σ.1 55).toInt + 1) : n8.toInt = (σ.1 55).toInt + 1 ∧ OPQ (σ.2.1 51) (upd (σ.2.1 51) (σ.1 55).toNatClampNeg (1 : Int32)) (σ.2.2.1 52) (vp_updL (σ.2.2.1 52) (σ.1 55).toNatClampNeg (1 : Int64)) (vf_upd (σ.2.2.2) (σ.1 55).toNatClampNeg FP.dconst0) (σ.1 35).toInt (σ.1 47).toInt (0) ((σ.1 55).toInt + 1) ((σ.1 55).toInt) := by
  have q1 : (1 : Int32).toInt = 1 := by decide +kernel
  have ql1 : (1 : Int64).toInt = 1 := by decide +kernel
  refine ⟨by omega, ?_⟩
  first
  | exact OPQ.c1 (fl := 0) hpre_5 hpre_6 ⟨_, _, _, rfl, rfl, rfl, GV.num (by omega) (by omega)⟩ (by omega) (by rw [clampN]; omega) (Or.inr rfl) (Or.inr ⟨(by rw [clampN]; omega), by omega⟩)
  | exact OPQ.c1 (fl := 0) hpre_5 hpre_6 ⟨_, _, _, rfl, rfl, rfl, ⟨Or.inl ⟨by omega, by omega⟩, fun _ e => by omega⟩⟩ (by omega) (by rw [clampN]; omega) (Or.inr rfl) (Or.inr ⟨(by rw [clampN]; omega), by omega⟩)
  | exact OPQ.c1 (fl := 0) hpre_5 hpre_6 ⟨_, _, _, rfl, rfl, rfl, GV.obj (by omega) (by omega) (by omega) (by omega)⟩ (by omega) (by rw [clampN]; omega) (Or.inr rfl) (Or.inr ⟨(by rw [clampN]; omega), by omega⟩)
  | (rw [vf_two (by simp only [clampN]; omega)]
     exact OPQ.c1 (fl := 0) hpre_5 hpre_6 ⟨_, _, _, rfl, rfl, rfl, ⟨Or.inl ⟨by omega, by omega⟩, fun _ _ => by first | (subst_vars; exact fp_d10 (fp_l2d _)) | (subst_vars; exact fp_d100 (fp_l2d _)) | (subst_vars; exact fp_d1000 (fp_l2d _))⟩⟩ (by omega) (by rw [clampN]; omega) (Or.inr rfl) (Or.inr ⟨(by rw [clampN]; omega), by omega⟩))
  | exact OPQ.more (fl := 0) (t := (σ.1 55).toInt + 1) (OPQ.c1 (fl := 0) hpre_5 hpre_6 ⟨_, _, _, rfl, rfl, rfl, GV.num (by omega) (by omega)⟩ (by omega) (by rw [clampN]; omega) (Or.inr rfl) (Or.inr ⟨(by rw [clampN]; omega), by omega⟩)) ⟨_, _, _, rfl, rfl, rfl, GV.opq (p := x0.toNatClampNeg) (t := (σ.1 55).toInt + 1) (OPQ.c1 (fl := 0) hpre_5 hpre_6 ⟨_, _, _, rfl, rfl, rfl, GV.num (by omega) (by omega)⟩ (by omega) (by rw [clampN]; omega) (Or.inr rfl) (Or.inr ⟨(by rw [clampN]; omega), by omega⟩)) (fun e => e) (by rw [clampN]; omega) (Or.inr (by rw [clampN]; omega))⟩ (by rw [clampN]; omega) (by rw [clampN]; omega) (fun e => e) (Or.inl (by omega))
-- post2 @223
theorem v_loads_5 (σ : RS) (k0 : Int32) (k1 : Int64) (n8 : Int32) (hpre_0 : OBS (σ.1 47).toInt (σ.1 35).toInt (σ.2.1 48)) (hpre_1 : 0 ≤ (σ.1 47).toInt) (hpre_2 : (σ.1 47).toInt ≤ 30) (hpre_3 : 0 ≤ (σ.1 35).toInt) (hpre_4 : (σ.1 35).toInt ≤ 5) (hpre_5 : VALS (σ.2.1 51) (σ.2.2.1 52) (σ.1 35).toInt (σ.1 47).toInt) (hpre_6 : FINS (σ.2.1 51) (σ.2.2.2) (σ.1 55).toInt) (hpre_7 : 0 ≤ (σ.1 49).toInt) (hpre_8 : (σ.1 49).toInt ≤ 12) (hpre_9 : -1 ≤ (σ.1 57).toInt) (hpre_10 : (σ.1 57).toInt < (σ.1 47).toInt) (hpre_11 : 1 ≤ k0.toInt) (hpre_12 : k0.toInt ≤ 10) (hpre_13 : 0 ≤ (σ.1 55).toInt) (hpre_14 : (σ.1 55).toInt ≤ 50) (c1 : ¬ k0.toInt = 1) (c2 : 2 ≤ k0.toInt) (c3 : 5 ≤ k0.toInt) (c4 : ¬ k0.toInt = 5) (c5 : k0.toInt = 6) (c6 : k0.toInt = 6) (hr7 : n8.toInt = (σ.1 55).toInt + 1) : ∀ w9 : QV, QLD (qH (σ.2.1 36) (σ.2.1 37) (σ.2.1 38) (σ.2.1 39) (σ.2.1 40) (σ.2.1 41) (σ.2.1 42) (σ.2.1 43) (σ.2.1 44) (σ.2.1 45) (σ.2.1 46) (σ.2.1 48)) (σ.1 47).toInt ((σ.2.1 51), (σ.2.2.1 52), (σ.2.2.1 53), (σ.2.2.2)) (σ.2.1 50) (σ.1 49).toInt (σ.1 57).toInt k0.toInt k1 w9 → QW (qH (σ.2.1 36) (σ.2.1 37) (σ.2.1 38) (σ.2.1 39) (σ.2.1 40) (σ.2.1 41) (σ.2.1 42) (σ.2.1 43) (σ.2.1 44) (σ.2.1 45) (σ.2.1 46) (σ.2.1 48)) (σ.1 47).toInt ((σ.2.1 51), (σ.2.2.1 52), (σ.2.2.1 53), (σ.2.2.2)) ((upd (σ.2.1 51) (σ.1 55).toNatClampNeg (1 : Int32)), (vp_updL (σ.2.2.1 52) (σ.1 55).toNatClampNeg (1 : Int64)), (vp_updL (σ.2.2.1 53) (σ.1 55).toNatClampNeg (0 : Int64)), (vf_upd (σ.2.2.2) (σ.1 55).toNatClampNeg FP.dconst0)) (σ.1 55).toInt.toNat w9 := by
  have q1 : (1 : Int32).toInt = 1 := by decide +kernel
  have ql0 : (0 : Int64).toInt = 0 := by decide +kernel
  have ql1 : (1 : Int64).toInt = 1 := by decide +kernel
  intro w9 hw
  have zt : (σ.1 55).toNatClampNeg = (σ.1 55).toInt.toNat := clampN _
  rw [zt]
  unfold QLD at hw
  rcases hw with ⟨z, i, hi, rfl⟩ | ⟨z, hf, rfl⟩ | ⟨z, t, h1, h2, h3, rfl⟩ | ⟨z, rfl⟩ | ⟨z, rfl⟩ | ⟨z, rfl⟩ | ⟨z, hw⟩ | ⟨z, hw⟩ <;> first | (exfalso; omega) | skip
  exact QW.bool q1 (by decide +kernel) (by decide +kernel)
-- pre:placeOf@195 @195
theorem v_loads_6 (σ : RS) (hpre_7 : 0 ≤ (σ.1 49).toInt) (hpre_8 : (σ.1 49).toInt ≤ 12) : 0 ≤ (σ.1 49).toInt ∧ (σ.1 49).toInt ≤ 12 := by
  refine ⟨?_, ?_⟩ <;> first | assumption | omega | (subst_vars; omega) | trivial
-- post @223
theorem v_loads_7 (σ : RS) (n15 : Int32) (hpre_0 : OBS (σ.1 47).toInt (σ.1 35).toInt (σ.2.1 48)) (hpre_1 : 0 ≤ (σ.1 47).toInt) (hpre_2 : (σ.1 47).toInt ≤ 30) (hpre_3 : 0 ≤ (σ.1 35).toInt) (hpre_4 : (σ.1 35).toInt ≤ 5) (hpre_5 : VALS (σ.2.1 51) (σ.2.2.1 52) (σ.1 35).toInt (σ.1 47).toInt) (hpre_6 : FINS (σ.2.1 51) (σ.2.2.2) (σ.1 55).toInt) (hpre_9 : -1 ≤ (σ.1 57).toInt) (hpre_10 : (σ.1 57).toInt < (σ.1 47).toInt) (hpre_13 : 0 ≤ (σ.1 55).toInt) (hpre_14 : (σ.1 55).toInt ≤ 50) (hr14 : n15.toInt = (σ.1 55).toInt + 1) : n15.toInt = (σ.1 55).toInt + 1 ∧ OPQ (σ.2.1 51) (upd (σ.2.1 51) (σ.1 55).toNatClampNeg (0 : Int32)) (σ.2.2.1 52) (vp_updL (σ.2.2.1 52) (σ.1 55).toNatClampNeg (0 : Int64)) (vf_upd (σ.2.2.2) (σ.1 55).toNatClampNeg FP.dconst0) (σ.1 35).toInt (σ.1 47).toInt (0) ((σ.1 55).toInt + 1) ((σ.1 55).toInt) := by
  have q0 : (0 : Int32).toInt = 0 := by decide +kernel
  have ql0 : (0 : Int64).toInt = 0 := by decide +kernel
  refine ⟨by omega, ?_⟩
  first
  | exact OPQ.c1 (fl := 0) hpre_5 hpre_6 ⟨_, _, _, rfl, rfl, rfl, GV.num (by omega) (by omega)⟩ (by omega) (by rw [clampN]; omega) (Or.inr rfl) (Or.inr ⟨(by rw [clampN]; omega), by omega⟩)
  | exact OPQ.c1 (fl := 0) hpre_5 hpre_6 ⟨_, _, _, rfl, rfl, rfl, ⟨Or.inl ⟨by omega, by omega⟩, fun _ e => by omega⟩⟩ (by omega) (by rw [clampN]; omega) (Or.inr rfl) (Or.inr ⟨(by rw [clampN]; omega), by omega⟩)
  | exact OPQ.c1 (fl := 0) hpre_5 hpre_6 ⟨_, _, _, rfl, rfl, rfl, GV.obj (by omega) (by omega) (by omega) (by omega)⟩ (by omega) (by rw [clampN]; omega) (Or.inr rfl) (Or.inr ⟨(by rw [clampN]; omega), by omega⟩)
  | (rw [vf_two (by simp only [clampN]; omega)]
     exact OPQ.c1 (fl := 0) hpre_5 hpre_6 ⟨_, _, _, rfl, rfl, rfl, ⟨Or.inl ⟨by omega, by omega⟩, fun _ _ => by first | (subst_vars; exact fp_d10 (fp_l2d _)) | (subst_vars; exact fp_d100 (fp_l2d _)) | (subst_vars; exact fp_d1000 (fp_l2d _))⟩⟩ (by omega) (by rw [clampN]; omega) (Or.inr rfl) (Or.inr ⟨(by rw [clampN]; omega), by omega⟩))
  | exact OPQ.more (fl := 0) (t := (σ.1 55).toInt + 1) (OPQ.c1 (fl := 0) hpre_5 hpre_6 ⟨_, _, _, rfl, rfl, rfl, GV.num (by omega) (by omega)⟩ (by omega) (by rw [clampN]; omega) (Or.inr rfl) (Or.inr ⟨(by rw [clampN]; omega), by omega⟩)) ⟨_, _, _, rfl, rfl, rfl, GV.opq (p := x0.toNatClampNeg) (t := (σ.1 55).toInt + 1) (OPQ.c1 (fl := 0) hpre_5 hpre_6 ⟨_, _, _, rfl, rfl, rfl, GV.num (by omega) (by omega)⟩ (by omega) (by rw [clampN]; omega) (Or.inr rfl) (Or.inr ⟨(by rw [clampN]; omega), by omega⟩)) (fun e => e) (by rw [clampN]; omega) (Or.inr (by rw [clampN]; omega))⟩ (by rw [clampN]; omega) (by rw [clampN]; omega) (fun e => e) (Or.inl (by omega))
-- post2 @223
theorem v_loads_8 (σ : RS) (k0 : Int32) (k1 : Int64) (x12 : Int32) (r13 : Int32) (n15 : Int32) (hpre_0 : OBS (σ.1 47).toInt (σ.1 35).toInt (σ.2.1 48)) (hpre_1 : 0 ≤ (σ.1 47).toInt) (hpre_2 : (σ.1 47).toInt ≤ 30) (hpre_3 : 0 ≤ (σ.1 35).toInt) (hpre_4 : (σ.1 35).toInt ≤ 5) (hpre_5 : VALS (σ.2.1 51) (σ.2.2.1 52) (σ.1 35).toInt (σ.1 47).toInt) (hpre_6 : FINS (σ.2.1 51) (σ.2.2.2) (σ.1 55).toInt) (hpre_7 : 0 ≤ (σ.1 49).toInt) (hpre_8 : (σ.1 49).toInt ≤ 12) (hpre_9 : -1 ≤ (σ.1 57).toInt) (hpre_10 : (σ.1 57).toInt < (σ.1 47).toInt) (hpre_11 : 1 ≤ k0.toInt) (hpre_12 : k0.toInt ≤ 10) (hpre_13 : 0 ≤ (σ.1 55).toInt) (hpre_14 : (σ.1 55).toInt ≤ 50) (c1 : ¬ k0.toInt = 1) (c2 : 2 ≤ k0.toInt) (c3 : 5 ≤ k0.toInt) (c4 : ¬ k0.toInt = 5) (c5 : ¬ k0.toInt = 6) (c9 : ¬ k0.toInt = 7) (c10 : ¬ k0.toInt = 8) (c11 : ¬ k0.toInt = 10) (ex12 : x12 = Int64.toInt32 k1) (tx12 : -2147483648 ≤ k1.toInt → k1.toInt < 2147483648 → x12.toInt = k1.toInt) (hr13y : QPL (σ.2.1 50) (σ.1 49).toInt x12 r13.toInt) (hr13 : r13.toInt = -1 ∨ (64 ≤ r13.toInt ∧ r13.toInt < 76)) (hr14 : n15.toInt = (σ.1 55).toInt + 1) (c16 : r13.toInt < 0) : ∀ w9 : QV, QLD (qH (σ.2.1 36) (σ.2.1 37) (σ.2.1 38) (σ.2.1 39) (σ.2.1 40) (σ.2.1 41) (σ.2.1 42) (σ.2.1 43) (σ.2.1 44) (σ.2.1 45) (σ.2.1 46) (σ.2.1 48)) (σ.1 47).toInt ((σ.2.1 51), (σ.2.2.1 52), (σ.2.2.1 53), (σ.2.2.2)) (σ.2.1 50) (σ.1 49).toInt (σ.1 57).toInt k0.toInt k1 w9 → QW (qH (σ.2.1 36) (σ.2.1 37) (σ.2.1 38) (σ.2.1 39) (σ.2.1 40) (σ.2.1 41) (σ.2.1 42) (σ.2.1 43) (σ.2.1 44) (σ.2.1 45) (σ.2.1 46) (σ.2.1 48)) (σ.1 47).toInt ((σ.2.1 51), (σ.2.2.1 52), (σ.2.2.1 53), (σ.2.2.2)) ((upd (σ.2.1 51) (σ.1 55).toNatClampNeg (0 : Int32)), (vp_updL (σ.2.2.1 52) (σ.1 55).toNatClampNeg (0 : Int64)), (vp_updL (σ.2.2.1 53) (σ.1 55).toNatClampNeg (0 : Int64)), (vf_upd (σ.2.2.2) (σ.1 55).toNatClampNeg FP.dconst0)) (σ.1 55).toInt.toNat w9 := by
  have q0 : (0 : Int32).toInt = 0 := by decide +kernel
  have ql0 : (0 : Int64).toInt = 0 := by decide +kernel
  intro w9 hw
  have zt : (σ.1 55).toNatClampNeg = (σ.1 55).toInt.toNat := clampN _
  rw [zt]
  unfold QLD at hw
  rcases hw with ⟨z, i, hi, rfl⟩ | ⟨z, hf, rfl⟩ | ⟨z, t, h1, h2, h3, rfl⟩ | ⟨z, rfl⟩ | ⟨z, rfl⟩ | ⟨z, rfl⟩ | ⟨z, hw⟩ | ⟨z, hw⟩ <;> first | (exfalso; omega) | skip
  rcases hw with ⟨k, a1, a2, _⟩ | ⟨_, rfl⟩
  · rcases hr13y with ⟨_, h⟩ | ⟨j, b1, b2, b3⟩
    · exact absurd (a2.trans ex12.symm) (h k a1)
    · exfalso; omega
  · exact QW.null q0 (by decide +kernel) (by decide +kernel)
-- nw@219 @219
theorem v_loads_9 (σ : RS) (n15 : Int32) (x17 : Int32) (hpre_0 : OBS (σ.1 47).toInt (σ.1 35).toInt (σ.2.1 48)) (hpre_1 : 0 ≤ (σ.1 47).toInt) (hpre_2 : (σ.1 47).toInt ≤ 30) (hpre_3 : 0 ≤ (σ.1 35).toInt) (hpre_4 : (σ.1 35).toInt ≤ 5) (hpre_5 : VALS (σ.2.1 51) (σ.2.2.1 52) (σ.1 35).toInt (σ.1 47).toInt) (hpre_6 : FINS (σ.2.1 51) (σ.2.2.2) (σ.1 55).toInt) (hpre_9 : -1 ≤ (σ.1 57).toInt) (hpre_10 : (σ.1 57).toInt < (σ.1 47).toInt) (hpre_13 : 0 ≤ (σ.1 55).toInt) (hpre_14 : (σ.1 55).toInt ≤ 50) (hr14 : n15.toInt = (σ.1 55).toInt + 1) (ex17 : x17 = n15 - (1 : Int32)) : x17.toInt = n15.toInt - 1 := by
  have q1 : (1 : Int32).toInt = 1 := by decide +kernel
  have w1 : (1 : Int32).toInt = 1 := by decide +kernel
  rw [ex17, z_sub (by omega) (by omega)]; first | done | omega
-- pre:copy@220 @220
theorem v_loads_10 (σ : RS) (r13 : Int32) (n15 : Int32) (x17 : Int32) (hpre_0 : OBS (σ.1 47).toInt (σ.1 35).toInt (σ.2.1 48)) (hpre_1 : 0 ≤ (σ.1 47).toInt) (hpre_2 : (σ.1 47).toInt ≤ 30) (hpre_3 : 0 ≤ (σ.1 35).toInt) (hpre_4 : (σ.1 35).toInt ≤ 5) (hpre_5 : VALS (σ.2.1 51) (σ.2.2.1 52) (σ.1 35).toInt (σ.1 47).toInt) (hpre_6 : FINS (σ.2.1 51) (σ.2.2.2) (σ.1 55).toInt) (hpre_9 : -1 ≤ (σ.1 57).toInt) (hpre_10 : (σ.1 57).toInt < (σ.1 47).toInt) (hpre_13 : 0 ≤ (σ.1 55).toInt) (hpre_14 : (σ.1 55).toInt ≤ 50) (hr13 : r13.toInt = -1 ∨ (64 ≤ r13.toInt ∧ r13.toInt < 76)) (hr14 : n15.toInt = (σ.1 55).toInt + 1) (c16 : 0 ≤ r13.toInt) (ex17 : x17 = n15 - (1 : Int32)) (tx17 : x17.toInt = n15.toInt - 1) : 0 ≤ r13.toInt ∧ r13.toInt < 980 ∧ 0 ≤ x17.toInt ∧ x17.toInt < 980 := by
  have q1 : (1 : Int32).toInt = 1 := by decide +kernel
  refine ⟨?_, ?_, ?_, ?_⟩ <;> first | assumption | omega | (subst_vars; omega) | trivial
-- post @223
theorem v_loads_11 (σ : RS) (r13 : Int32) (n15 : Int32) (x17 : Int32) (hpre_0 : OBS (σ.1 47).toInt (σ.1 35).toInt (σ.2.1 48)) (hpre_1 : 0 ≤ (σ.1 47).toInt) (hpre_2 : (σ.1 47).toInt ≤ 30) (hpre_3 : 0 ≤ (σ.1 35).toInt) (hpre_4 : (σ.1 35).toInt ≤ 5) (hpre_5 : VALS (σ.2.1 51) (σ.2.2.1 52) (σ.1 35).toInt (σ.1 47).toInt) (hpre_6 : FINS (σ.2.1 51) (σ.2.2.2) (σ.1 55).toInt) (hpre_9 : -1 ≤ (σ.1 57).toInt) (hpre_10 : (σ.1 57).toInt < (σ.1 47).toInt) (hpre_13 : 0 ≤ (σ.1 55).toInt) (hpre_14 : (σ.1 55).toInt ≤ 50) (hr13 : r13.toInt = -1 ∨ (64 ≤ r13.toInt ∧ r13.toInt < 76)) (hr14 : n15.toInt = (σ.1 55).toInt + 1) (c16 : 0 ≤ r13.toInt) (ex17 : x17 = n15 - (1 : Int32)) (tx17 : x17.toInt = n15.toInt - 1) : n15.toInt = (σ.1 55).toInt + 1 ∧ OPQ (σ.2.1 51) (upd (upd (σ.2.1 51) (σ.1 55).toNatClampNeg (0 : Int32)) x17.toNatClampNeg ((upd (σ.2.1 51) (σ.1 55).toNatClampNeg (0 : Int32)) r13.toNatClampNeg)) (σ.2.2.1 52) (vp_updL (vp_updL (σ.2.2.1 52) (σ.1 55).toNatClampNeg (0 : Int64)) x17.toNatClampNeg ((vp_updL (σ.2.2.1 52) (σ.1 55).toNatClampNeg (0 : Int64)) r13.toNatClampNeg)) (vf_upd (vf_upd (σ.2.2.2) (σ.1 55).toNatClampNeg FP.dconst0) x17.toNatClampNeg ((vf_upd (σ.2.2.2) (σ.1 55).toNatClampNeg FP.dconst0) r13.toNatClampNeg)) (σ.1 35).toInt (σ.1 47).toInt (0) ((σ.1 55).toInt + 1) ((σ.1 55).toInt) := by
  have q0 : (0 : Int32).toInt = 0 := by decide +kernel
  have q1 : (1 : Int32).toInt = 1 := by decide +kernel
  have ql0 : (0 : Int64).toInt = 0 := by decide +kernel
  refine ⟨by omega, ?_⟩
  have o1 := OPQ.c1 (fl := 0) (p := (σ.1 55).toNatClampNeg) (t := (σ.1 55).toInt + 1) (w := (σ.1 55).toInt) hpre_5 hpre_6 ⟨(0 : Int32), (0 : Int64), FP.dconst0, rfl, rfl, rfl, GV.num (by omega) (by omega)⟩ (by omega) (by rw [clampN]; omega) (Or.inr rfl) (Or.inr ⟨(by rw [clampN]; omega), by omega⟩)
  exact OPQ.more (fl := 0) (p := x17.toNatClampNeg) (t := (σ.1 55).toInt + 1) o1 ⟨_, _, _, rfl, rfl, rfl, GV.opq o1 (fun e => e) (p := r13.toNatClampNeg) (by rw [clampN]; omega) (Or.inr (by rw [clampN]; omega))⟩ (by rw [clampN]; omega) (by rw [clampN]; omega) (fun e => e) (Or.inl (by omega))
-- post2 @223
theorem v_loads_12 (σ : RS) (k0 : Int32) (k1 : Int64) (x12 : Int32) (r13 : Int32) (n15 : Int32) (x17 : Int32) (hpre_0 : OBS (σ.1 47).toInt (σ.1 35).toInt (σ.2.1 48)) (hpre_1 : 0 ≤ (σ.1 47).toInt) (hpre_2 : (σ.1 47).toInt ≤ 30) (hpre_3 : 0 ≤ (σ.1 35).toInt) (hpre_4 : (σ.1 35).toInt ≤ 5) (hpre_5 : VALS (σ.2.1 51) (σ.2.2.1 52) (σ.1 35).toInt (σ.1 47).toInt) (hpre_6 : FINS (σ.2.1 51) (σ.2.2.2) (σ.1 55).toInt) (hpre_7 : 0 ≤ (σ.1 49).toInt) (hpre_8 : (σ.1 49).toInt ≤ 12) (hpre_9 : -1 ≤ (σ.1 57).toInt) (hpre_10 : (σ.1 57).toInt < (σ.1 47).toInt) (hpre_11 : 1 ≤ k0.toInt) (hpre_12 : k0.toInt ≤ 10) (hpre_13 : 0 ≤ (σ.1 55).toInt) (hpre_14 : (σ.1 55).toInt ≤ 50) (c1 : ¬ k0.toInt = 1) (c2 : 2 ≤ k0.toInt) (c3 : 5 ≤ k0.toInt) (c4 : ¬ k0.toInt = 5) (c5 : ¬ k0.toInt = 6) (c9 : ¬ k0.toInt = 7) (c10 : ¬ k0.toInt = 8) (c11 : ¬ k0.toInt = 10) (ex12 : x12 = Int64.toInt32 k1) (tx12 : -2147483648 ≤ k1.toInt → k1.toInt < 2147483648 → x12.toInt = k1.toInt) (hr13y : QPL (σ.2.1 50) (σ.1 49).toInt x12 r13.toInt) (hr13 : r13.toInt = -1 ∨ (64 ≤ r13.toInt ∧ r13.toInt < 76)) (hr14 : n15.toInt = (σ.1 55).toInt + 1) (c16 : 0 ≤ r13.toInt) (ex17 : x17 = n15 - (1 : Int32)) (tx17 : x17.toInt = n15.toInt - 1) : ∀ w9 : QV, QLD (qH (σ.2.1 36) (σ.2.1 37) (σ.2.1 38) (σ.2.1 39) (σ.2.1 40) (σ.2.1 41) (σ.2.1 42) (σ.2.1 43) (σ.2.1 44) (σ.2.1 45) (σ.2.1 46) (σ.2.1 48)) (σ.1 47).toInt ((σ.2.1 51), (σ.2.2.1 52), (σ.2.2.1 53), (σ.2.2.2)) (σ.2.1 50) (σ.1 49).toInt (σ.1 57).toInt k0.toInt k1 w9 → QW (qH (σ.2.1 36) (σ.2.1 37) (σ.2.1 38) (σ.2.1 39) (σ.2.1 40) (σ.2.1 41) (σ.2.1 42) (σ.2.1 43) (σ.2.1 44) (σ.2.1 45) (σ.2.1 46) (σ.2.1 48)) (σ.1 47).toInt ((σ.2.1 51), (σ.2.2.1 52), (σ.2.2.1 53), (σ.2.2.2)) ((upd (upd (σ.2.1 51) (σ.1 55).toNatClampNeg (0 : Int32)) x17.toNatClampNeg ((upd (σ.2.1 51) (σ.1 55).toNatClampNeg (0 : Int32)) r13.toNatClampNeg)), (vp_updL (vp_updL (σ.2.2.1 52) (σ.1 55).toNatClampNeg (0 : Int64)) x17.toNatClampNeg ((vp_updL (σ.2.2.1 52) (σ.1 55).toNatClampNeg (0 : Int64)) r13.toNatClampNeg)), (vp_updL (vp_updL (σ.2.2.1 53) (σ.1 55).toNatClampNeg (0 : Int64)) x17.toNatClampNeg ((vp_updL (σ.2.2.1 53) (σ.1 55).toNatClampNeg (0 : Int64)) r13.toNatClampNeg)), (vf_upd (vf_upd (σ.2.2.2) (σ.1 55).toNatClampNeg FP.dconst0) x17.toNatClampNeg ((vf_upd (σ.2.2.2) (σ.1 55).toNatClampNeg FP.dconst0) r13.toNatClampNeg))) (σ.1 55).toInt.toNat w9 := by
  have q0 : (0 : Int32).toInt = 0 := by decide +kernel
  have q1 : (1 : Int32).toInt = 1 := by decide +kernel
  have ql0 : (0 : Int64).toInt = 0 := by decide +kernel
  intro w9 hw
  have zt : (σ.1 55).toNatClampNeg = (σ.1 55).toInt.toNat := clampN _
  rw [zt]
  have zx17 : x17.toNatClampNeg = (σ.1 55).toInt.toNat := by rw [clampN, tx17]; congr 1; omega
  rw [zx17]
  unfold QLD at hw
  rcases hw with ⟨z, i, hi, rfl⟩ | ⟨z, hf, rfl⟩ | ⟨z, t, h1, h2, h3, rfl⟩ | ⟨z, rfl⟩ | ⟨z, rfl⟩ | ⟨z, rfl⟩ | ⟨z, hw⟩ | ⟨z, hw⟩ <;> first | (exfalso; omega) | skip
  rcases hr13y with ⟨h, _⟩ | ⟨j, b1, b2, b3⟩
  · exfalso; omega
  · rcases hw with ⟨k, a1, a2, a3, a4⟩ | ⟨h, _⟩
    · obtain rfl := a3 j b1 (b2.trans (ex12.trans a2.symm))
      have zr : r13.toNatClampNeg = 64 + j := by rw [clampN]; omega
      rw [zr]
      exact QW.after QX.put (QW.copy (QX.put.ne (show ¬ 64 + j = (σ.1 55).toInt.toNat by omega) a4))
    · exact absurd (b2.trans ex12) (h j b1)
-- in@168 @168
theorem v_loads_13 (σ : RS) (hpre_0 : OBS (σ.1 47).toInt (σ.1 35).toInt (σ.2.1 48)) (hpre_1 : 0 ≤ (σ.1 47).toInt) (hpre_2 : (σ.1 47).toInt ≤ 30) (hpre_3 : 0 ≤ (σ.1 35).toInt) (hpre_4 : (σ.1 35).toInt ≤ 5) (hpre_5 : VALS (σ.2.1 51) (σ.2.2.1 52) (σ.1 35).toInt (σ.1 47).toInt) (hpre_6 : FINS (σ.2.1 51) (σ.2.2.2) (σ.1 55).toInt) (hpre_9 : -1 ≤ (σ.1 57).toInt) (hpre_10 : (σ.1 57).toInt < (σ.1 47).toInt) (hpre_13 : 0 ≤ (σ.1 55).toInt) (hpre_14 : (σ.1 55).toInt ≤ 50) (c19 : 0 ≤ (σ.1 57).toInt) : vp_in (σ.1 57) 30 := by
  exact vp_in_iff.mpr ⟨by omega, by omega⟩
-- nw@169 @169
theorem v_loads_14 (σ : RS) (x20 : Int32) (x21 : Int32) (hpre_0 : OBS (σ.1 47).toInt (σ.1 35).toInt (σ.2.1 48)) (hpre_1 : 0 ≤ (σ.1 47).toInt) (hpre_2 : (σ.1 47).toInt ≤ 30) (hpre_3 : 0 ≤ (σ.1 35).toInt) (hpre_4 : (σ.1 35).toInt ≤ 5) (hpre_5 : VALS (σ.2.1 51) (σ.2.2.1 52) (σ.1 35).toInt (σ.1 47).toInt) (hpre_6 : FINS (σ.2.1 51) (σ.2.2.2) (σ.1 55).toInt) (hpre_9 : -1 ≤ (σ.1 57).toInt) (hpre_10 : (σ.1 57).toInt < (σ.1 47).toInt) (hpre_13 : 0 ≤ (σ.1 55).toInt) (hpre_14 : (σ.1 55).toInt ≤ 50) (c19 : 0 ≤ (σ.1 57).toInt) (ex20 : x20 = (σ.2.1 48) (σ.1 57).toNatClampNeg) (tx20 : x20.toInt = ((σ.2.1 48) (σ.1 57).toNatClampNeg).toInt) (ex21 : x21 = (8 : Int32) + x20) : x21.toInt = 8 + x20.toInt := by
  have q8 : (8 : Int32).toInt = 8 := by decide +kernel
  have ob_x20 := hpre_0 (σ.1 57).toNatClampNeg (by rw [clampZ (by omega)]; omega)
  have w0 : (8 : Int32).toInt = 8 := by decide +kernel
  rw [ex21, z_add (by omega) (by omega)]; first | done | omega
-- pre:push@186 @186
theorem v_loads_15 (σ : RS) (x20 : Int32) (x21 : Int32) (x23 : Int64) (hpre_0 : OBS (σ.1 47).toInt (σ.1 35).toInt (σ.2.1 48)) (hpre_1 : 0 ≤ (σ.1 47).toInt) (hpre_2 : (σ.1 47).toInt ≤ 30) (hpre_3 : 0 ≤ (σ.1 35).toInt) (hpre_4 : (σ.1 35).toInt ≤ 5) (hpre_5 : VALS (σ.2.1 51) (σ.2.2.1 52) (σ.1 35).toInt (σ.1 47).toInt) (hpre_6 : FINS (σ.2.1 51) (σ.2.2.2) (σ.1 55).toInt) (hpre_9 : -1 ≤ (σ.1 57).toInt) (hpre_10 : (σ.1 57).toInt < (σ.1 47).toInt) (hpre_13 : 0 ≤ (σ.1 55).toInt) (hpre_14 : (σ.1 55).toInt ≤ 50) (c19 : 0 ≤ (σ.1 57).toInt) (ex20 : x20 = (σ.2.1 48) (σ.1 57).toNatClampNeg) (tx20 : x20.toInt = ((σ.2.1 48) (σ.1 57).toNatClampNeg).toInt) (ex21 : x21 = (8 : Int32) + x20) (tx21 : x21.toInt = 8 + x20.toInt) (c22 : 0 ≤ (σ.1 57).toInt) (ex23 : x23 = Int32.toInt64 (σ.1 57)) (tx23 : x23.toInt = (σ.1 57).toInt) : 0 ≤ (σ.1 55).toInt ∧ (σ.1 55).toInt < 979 := by
  have q8 : (8 : Int32).toInt = 8 := by decide +kernel
  have ob_x20 := hpre_0 (σ.1 57).toNatClampNeg (by rw [clampZ (by omega)]; omega)
  refine ⟨?_, ?_⟩ <;> first | assumption | omega | (subst_vars; omega) | trivial
-- post @223
theorem v_loads_16 (σ : RS) (x20 : Int32) (x21 : Int32) (x23 : Int64) (n25 : Int32) (hpre_0 : OBS (σ.1 47).toInt (σ.1 35).toInt (σ.2.1 48)) (hpre_1 : 0 ≤ (σ.1 47).toInt) (hpre_2 : (σ.1 47).toInt ≤ 30) (hpre_3 : 0 ≤ (σ.1 35).toInt) (hpre_4 : (σ.1 35).toInt ≤ 5) (hpre_5 : VALS (σ.2.1 51) (σ.2.2.1 52) (σ.1 35).toInt (σ.1 47).toInt) (hpre_6 : FINS (σ.2.1 51) (σ.2.2.2) (σ.1 55).toInt) (hpre_9 : -1 ≤ (σ.1 57).toInt) (hpre_10 : (σ.1 57).toInt < (σ.1 47).toInt) (hpre_13 : 0 ≤ (σ.1 55).toInt) (hpre_14 : (σ.1 55).toInt ≤ 50) (c19 : 0 ≤ (σ.1 57).toInt) (ex20 : x20 = (σ.2.1 48) (σ.1 57).toNatClampNeg) (tx20 : x20.toInt = ((σ.2.1 48) (σ.1 57).toNatClampNeg).toInt) (ex21 : x21 = (8 : Int32) + x20) (tx21 : x21.toInt = 8 + x20.toInt) (c22 : 0 ≤ (σ.1 57).toInt) (ex23 : x23 = Int32.toInt64 (σ.1 57)) (tx23 : x23.toInt = (σ.1 57).toInt) (hr24 : n25.toInt = (σ.1 55).toInt + 1) : n25.toInt = (σ.1 55).toInt + 1 ∧ OPQ (σ.2.1 51) (upd (σ.2.1 51) (σ.1 55).toNatClampNeg x21) (σ.2.2.1 52) (vp_updL (σ.2.2.1 52) (σ.1 55).toNatClampNeg x23) (vf_upd (σ.2.2.2) (σ.1 55).toNatClampNeg FP.dconst0) (σ.1 35).toInt (σ.1 47).toInt (0) ((σ.1 55).toInt + 1) ((σ.1 55).toInt) := by
  have q8 : (8 : Int32).toInt = 8 := by decide +kernel
  have ob_x20 := hpre_0 (σ.1 57).toNatClampNeg (by rw [clampZ (by omega)]; omega)
  refine ⟨by omega, ?_⟩
  first
  | exact OPQ.c1 (fl := 0) hpre_5 hpre_6 ⟨_, _, _, rfl, rfl, rfl, GV.num (by omega) (by omega)⟩ (by omega) (by rw [clampN]; omega) (Or.inr rfl) (Or.inr ⟨(by rw [clampN]; omega), by omega⟩)
  | exact OPQ.c1 (fl := 0) hpre_5 hpre_6 ⟨_, _, _, rfl, rfl, rfl, ⟨Or.inl ⟨by omega, by omega⟩, fun _ e => by omega⟩⟩ (by omega) (by rw [clampN]; omega) (Or.inr rfl) (Or.inr ⟨(by rw [clampN]; omega), by omega⟩)
  | exact OPQ.c1 (fl := 0) hpre_5 hpre_6 ⟨_, _, _, rfl, rfl, rfl, GV.obj (by omega) (by omega) (by omega) (by omega)⟩ (by omega) (by rw [clampN]; omega) (Or.inr rfl) (Or.inr ⟨(by rw [clampN]; omega), by omega⟩)
  | (rw [vf_two (by simp only [clampN]; omega)]
     exact OPQ.c1 (fl := 0) hpre_5 hpre_6 ⟨_, _, _, rfl, rfl, rfl, ⟨Or.inl ⟨by omega, by omega⟩, fun _ _ => by first | (subst_vars; exact fp_d10 (fp_l2d _)) | (subst_vars; exact fp_d100 (fp_l2d _)) | (subst_vars; exact fp_d1000 (fp_l2d _))⟩⟩ (by omega) (by rw [clampN]; omega) (Or.inr rfl) (Or.inr ⟨(by rw [clampN]; omega), by omega⟩))
  | exact OPQ.more (fl := 0) (t := (σ.1 55).toInt + 1) (OPQ.c1 (fl := 0) hpre_5 hpre_6 ⟨_, _, _, rfl, rfl, rfl, GV.num (by omega) (by omega)⟩ (by omega) (by rw [clampN]; omega) (Or.inr rfl) (Or.inr ⟨(by rw [clampN]; omega), by omega⟩)) ⟨_, _, _, rfl, rfl, rfl, GV.opq (p := x0.toNatClampNeg) (t := (σ.1 55).toInt + 1) (OPQ.c1 (fl := 0) hpre_5 hpre_6 ⟨_, _, _, rfl, rfl, rfl, GV.num (by omega) (by omega)⟩ (by omega) (by rw [clampN]; omega) (Or.inr rfl) (Or.inr ⟨(by rw [clampN]; omega), by omega⟩)) (fun e => e) (by rw [clampN]; omega) (Or.inr (by rw [clampN]; omega))⟩ (by rw [clampN]; omega) (by rw [clampN]; omega) (fun e => e) (Or.inl (by omega))
-- post2 @223
theorem v_loads_17 (σ : RS) (k0 : Int32) (k1 : Int64) (x20 : Int32) (x21 : Int32) (x23 : Int64) (n25 : Int32) (hpre_0 : OBS (σ.1 47).toInt (σ.1 35).toInt (σ.2.1 48)) (hpre_1 : 0 ≤ (σ.1 47).toInt) (hpre_2 : (σ.1 47).toInt ≤ 30) (hpre_3 : 0 ≤ (σ.1 35).toInt) (hpre_4 : (σ.1 35).toInt ≤ 5) (hpre_5 : VALS (σ.2.1 51) (σ.2.2.1 52) (σ.1 35).toInt (σ.1 47).toInt) (hpre_6 : FINS (σ.2.1 51) (σ.2.2.2) (σ.1 55).toInt) (hpre_7 : 0 ≤ (σ.1 49).toInt) (hpre_8 : (σ.1 49).toInt ≤ 12) (hpre_9 : -1 ≤ (σ.1 57).toInt) (hpre_10 : (σ.1 57).toInt < (σ.1 47).toInt) (hpre_11 : 1 ≤ k0.toInt) (hpre_12 : k0.toInt ≤ 10) (hpre_13 : 0 ≤ (σ.1 55).toInt) (hpre_14 : (σ.1 55).toInt ≤ 50) (c1 : ¬ k0.toInt = 1) (c2 : 2 ≤ k0.toInt) (c3 : 5 ≤ k0.toInt) (c4 : ¬ k0.toInt = 5) (c5 : ¬ k0.toInt = 6) (c9 : ¬ k0.toInt = 7) (c10 : ¬ k0.toInt = 8) (c11 : k0.toInt = 10) (c19 : 0 ≤ (σ.1 57).toInt) (ex20 : x20 = (σ.2.1 48) (σ.1 57).toNatClampNeg) (tx20 : x20.toInt = ((σ.2.1 48) (σ.1 57).toNatClampNeg).toInt) (ex21 : x21 = (8 : Int32) + x20) (tx21 : x21.toInt = 8 + x20.toInt) (c22 : 0 ≤ (σ.1 57).toInt) (ex23 : x23 = Int32.toInt64 (σ.1 57)) (tx23 : x23.toInt = (σ.1 57).toInt) (hr24 : n25.toInt = (σ.1 55).toInt + 1) : ∀ w9 : QV, QLD (qH (σ.2.1 36) (σ.2.1 37) (σ.2.1 38) (σ.2.1 39) (σ.2.1 40) (σ.2.1 41) (σ.2.1 42) (σ.2.1 43) (σ.2.1 44) (σ.2.1 45) (σ.2.1 46) (σ.2.1 48)) (σ.1 47).toInt ((σ.2.1 51), (σ.2.2.1 52), (σ.2.2.1 53), (σ.2.2.2)) (σ.2.1 50) (σ.1 49).toInt (σ.1 57).toInt k0.toInt k1 w9 → QW (qH (σ.2.1 36) (σ.2.1 37) (σ.2.1 38) (σ.2.1 39) (σ.2.1 40) (σ.2.1 41) (σ.2.1 42) (σ.2.1 43) (σ.2.1 44) (σ.2.1 45) (σ.2.1 46) (σ.2.1 48)) (σ.1 47).toInt ((σ.2.1 51), (σ.2.2.1 52), (σ.2.2.1 53), (σ.2.2.2)) ((upd (σ.2.1 51) (σ.1 55).toNatClampNeg x21), (vp_updL (σ.2.2.1 52) (σ.1 55).toNatClampNeg x23), (vp_updL (σ.2.2.1 53) (σ.1 55).toNatClampNeg (0 : Int64)), (vf_upd (σ.2.2.2) (σ.1 55).toNatClampNeg FP.dconst0)) (σ.1 55).toInt.toNat w9 := by
  have q8 : (8 : Int32).toInt = 8 := by decide +kernel
  have ql0 : (0 : Int64).toInt = 0 := by decide +kernel
  have ob_x20 := hpre_0 (σ.1 57).toNatClampNeg (by rw [clampZ (by omega)]; omega)
  intro w9 hw
  have zt : (σ.1 55).toNatClampNeg = (σ.1 55).toInt.toNat := clampN _
  rw [zt]
  unfold QLD at hw
  rcases hw with ⟨z, i, hi, rfl⟩ | ⟨z, hf, rfl⟩ | ⟨z, t, h1, h2, h3, rfl⟩ | ⟨z, rfl⟩ | ⟨z, rfl⟩ | ⟨z, rfl⟩ | ⟨z, hw⟩ | ⟨z, hw⟩ <;> first | (exfalso; omega) | skip
  rcases hw with ⟨h, _⟩ | ⟨a1, a2, a3, a4, a5, rfl⟩
  · exfalso; omega
  · refine QW.obj (o := (σ.1 57).toInt.toNat) ?_ (by omega) (by decide +kernel) ⟨by omega, by omega⟩ a4 a5
    show _ = 8 + ((σ.2.1 48) (σ.1 57).toInt.toNat).toInt
    rw [tx21, tx20, clampN]
-- dead@174 @177
theorem v_loads_18 (σ : RS) (x20 : Int32) (hpre_9 : -1 ≤ (σ.1 57).toInt) (hpre_10 : (σ.1 57).toInt < (σ.1 47).toInt) (c19 : 0 ≤ (σ.1 57).toInt) (ex20 : x20 = (σ.2.1 48) (σ.1 57).toNatClampNeg) (tx20 : x20.toInt = ((σ.2.1 48) (σ.1 57).toNatClampNeg).toInt) (c22 : (σ.1 57).toInt < 0) : False := by
  first | assumption | omega | (subst_vars; omega) | trivial
-- dead@174 @181
theorem v_loads_19 (σ : RS) (hpre_9 : -1 ≤ (σ.1 57).toInt) (hpre_10 : (σ.1 57).toInt < (σ.1 47).toInt) (c19 : (σ.1 57).toInt < 0) (c26 : 0 ≤ (σ.1 57).toInt) : False := by
  first | assumption | omega | (subst_vars; omega) | trivial
-- pre:push@186 @186
theorem v_loads_20 (σ : RS) (hpre_0 : OBS (σ.1 47).toInt (σ.1 35).toInt (σ.2.1 48)) (hpre_1 : 0 ≤ (σ.1 47).toInt) (hpre_2 : (σ.1 47).toInt ≤ 30) (hpre_3 : 0 ≤ (σ.1 35).toInt) (hpre_4 : (σ.1 35).toInt ≤ 5) (hpre_5 : VALS (σ.2.1 51) (σ.2.2.1 52) (σ.1 35).toInt (σ.1 47).toInt) (hpre_6 : FINS (σ.2.1 51) (σ.2.2.2) (σ.1 55).toInt) (hpre_9 : -1 ≤ (σ.1 57).toInt) (hpre_10 : (σ.1 57).toInt < (σ.1 47).toInt) (hpre_13 : 0 ≤ (σ.1 55).toInt) (hpre_14 : (σ.1 55).toInt ≤ 50) (c19 : (σ.1 57).toInt < 0) (c26 : (σ.1 57).toInt < 0) : 0 ≤ (σ.1 55).toInt ∧ (σ.1 55).toInt < 979 := by
  refine ⟨?_, ?_⟩ <;> first | assumption | omega | (subst_vars; omega) | trivial
-- post @223
theorem v_loads_21 (σ : RS) (n28 : Int32) (hpre_0 : OBS (σ.1 47).toInt (σ.1 35).toInt (σ.2.1 48)) (hpre_1 : 0 ≤ (σ.1 47).toInt) (hpre_2 : (σ.1 47).toInt ≤ 30) (hpre_3 : 0 ≤ (σ.1 35).toInt) (hpre_4 : (σ.1 35).toInt ≤ 5) (hpre_5 : VALS (σ.2.1 51) (σ.2.2.1 52) (σ.1 35).toInt (σ.1 47).toInt) (hpre_6 : FINS (σ.2.1 51) (σ.2.2.2) (σ.1 55).toInt) (hpre_9 : -1 ≤ (σ.1 57).toInt) (hpre_10 : (σ.1 57).toInt < (σ.1 47).toInt) (hpre_13 : 0 ≤ (σ.1 55).toInt) (hpre_14 : (σ.1 55).toInt ≤ 50) (c19 : (σ.1 57).toInt < 0) (c26 : (σ.1 57).toInt < 0) (hr27 : n28.toInt = (σ.1 55).toInt + 1) : n28.toInt = (σ.1 55).toInt + 1 ∧ OPQ (σ.2.1 51) (upd (σ.2.1 51) (σ.1 55).toNatClampNeg (0 : Int32)) (σ.2.2.1 52) (vp_updL (σ.2.2.1 52) (σ.1 55).toNatClampNeg (0 : Int64)) (vf_upd (σ.2.2.2) (σ.1 55).toNatClampNeg FP.dconst0) (σ.1 35).toInt (σ.1 47).toInt (0) ((σ.1 55).toInt + 1) ((σ.1 55).toInt) := by
  have q0 : (0 : Int32).toInt = 0 := by decide +kernel
  have ql0 : (0 : Int64).toInt = 0 := by decide +kernel
  refine ⟨by omega, ?_⟩
  first
  | exact OPQ.c1 (fl := 0) hpre_5 hpre_6 ⟨_, _, _, rfl, rfl, rfl, GV.num (by omega) (by omega)⟩ (by omega) (by rw [clampN]; omega) (Or.inr rfl) (Or.inr ⟨(by rw [clampN]; omega), by omega⟩)
  | exact OPQ.c1 (fl := 0) hpre_5 hpre_6 ⟨_, _, _, rfl, rfl, rfl, ⟨Or.inl ⟨by omega, by omega⟩, fun _ e => by omega⟩⟩ (by omega) (by rw [clampN]; omega) (Or.inr rfl) (Or.inr ⟨(by rw [clampN]; omega), by omega⟩)
  | exact OPQ.c1 (fl := 0) hpre_5 hpre_6 ⟨_, _, _, rfl, rfl, rfl, GV.obj (by omega) (by omega) (by omega) (by omega)⟩ (by omega) (by rw [clampN]; omega) (Or.inr rfl) (Or.inr ⟨(by rw [clampN]; omega), by omega⟩)
  | (rw [vf_two (by simp only [clampN]; omega)]
     exact OPQ.c1 (fl := 0) hpre_5 hpre_6 ⟨_, _, _, rfl, rfl, rfl, ⟨Or.inl ⟨by omega, by omega⟩, fun _ _ => by first | (subst_vars; exact fp_d10 (fp_l2d _)) | (subst_vars; exact fp_d100 (fp_l2d _)) | (subst_vars; exact fp_d1000 (fp_l2d _))⟩⟩ (by omega) (by rw [clampN]; omega) (Or.inr rfl) (Or.inr ⟨(by rw [clampN]; omega), by omega⟩))
  | exact OPQ.more (fl := 0) (t := (σ.1 55).toInt + 1) (OPQ.c1 (fl := 0) hpre_5 hpre_6 ⟨_, _, _, rfl, rfl, rfl, GV.num (by omega) (by omega)⟩ (by omega) (by rw [clampN]; omega) (Or.inr rfl) (Or.inr ⟨(by rw [clampN]; omega), by omega⟩)) ⟨_, _, _, rfl, rfl, rfl, GV.opq (p := x0.toNatClampNeg) (t := (σ.1 55).toInt + 1) (OPQ.c1 (fl := 0) hpre_5 hpre_6 ⟨_, _, _, rfl, rfl, rfl, GV.num (by omega) (by omega)⟩ (by omega) (by rw [clampN]; omega) (Or.inr rfl) (Or.inr ⟨(by rw [clampN]; omega), by omega⟩)) (fun e => e) (by rw [clampN]; omega) (Or.inr (by rw [clampN]; omega))⟩ (by rw [clampN]; omega) (by rw [clampN]; omega) (fun e => e) (Or.inl (by omega))
-- post2 @223
theorem v_loads_22 (σ : RS) (k0 : Int32) (k1 : Int64) (n28 : Int32) (hpre_0 : OBS (σ.1 47).toInt (σ.1 35).toInt (σ.2.1 48)) (hpre_1 : 0 ≤ (σ.1 47).toInt) (hpre_2 : (σ.1 47).toInt ≤ 30) (hpre_3 : 0 ≤ (σ.1 35).toInt) (hpre_4 : (σ.1 35).toInt ≤ 5) (hpre_5 : VALS (σ.2.1 51) (σ.2.2.1 52) (σ.1 35).toInt (σ.1 47).toInt) (hpre_6 : FINS (σ.2.1 51) (σ.2.2.2) (σ.1 55).toInt) (hpre_7 : 0 ≤ (σ.1 49).toInt) (hpre_8 : (σ.1 49).toInt ≤ 12) (hpre_9 : -1 ≤ (σ.1 57).toInt) (hpre_10 : (σ.1 57).toInt < (σ.1 47).toInt) (hpre_11 : 1 ≤ k0.toInt) (hpre_12 : k0.toInt ≤ 10) (hpre_13 : 0 ≤ (σ.1 55).toInt) (hpre_14 : (σ.1 55).toInt ≤ 50) (c1 : ¬ k0.toInt = 1) (c2 : 2 ≤ k0.toInt) (c3 : 5 ≤ k0.toInt) (c4 : ¬ k0.toInt = 5) (c5 : ¬ k0.toInt = 6) (c9 : ¬ k0.toInt = 7) (c10 : ¬ k0.toInt = 8) (c11 : k0.toInt = 10) (c19 : (σ.1 57).toInt < 0) (c26 : (σ.1 57).toInt < 0) (hr27 : n28.toInt = (σ.1 55).toInt + 1) : ∀ w9 : QV, QLD (qH (σ.2.1 36) (σ.2.1 37) (σ.2.1 38) (σ.2.1 39) (σ.2.1 40) (σ.2.1 41) (σ.2.1 42) (σ.2.1 43) (σ.2.1 44) (σ.2.1 45) (σ.2.1 46) (σ.2.1 48)) (σ.1 47).toInt ((σ.2.1 51), (σ.2.2.1 52), (σ.2.2.1 53), (σ.2.2.2)) (σ.2.1 50) (σ.1 49).toInt (σ.1 57).toInt k0.toInt k1 w9 → QW (qH (σ.2.1 36) (σ.2.1 37) (σ.2.1 38) (σ.2.1 39) (σ.2.1 40) (σ.2.1 41) (σ.2.1 42) (σ.2.1 43) (σ.2.1 44) (σ.2.1 45) (σ.2.1 46) (σ.2.1 48)) (σ.1 47).toInt ((σ.2.1 51), (σ.2.2.1 52), (σ.2.2.1 53), (σ.2.2.2)) ((upd (σ.2.1 51) (σ.1 55).toNatClampNeg (0 : Int32)), (vp_updL (σ.2.2.1 52) (σ.1 55).toNatClampNeg (0 : Int64)), (vp_updL (σ.2.2.1 53) (σ.1 55).toNatClampNeg (0 : Int64)), (vf_upd (σ.2.2.2) (σ.1 55).toNatClampNeg FP.dconst0)) (σ.1 55).toInt.toNat w9 := by
  have q0 : (0 : Int32).toInt = 0 := by decide +kernel
  have ql0 : (0 : Int64).toInt = 0 := by decide +kernel
  intro w9 hw
  have zt : (σ.1 55).toNatClampNeg = (σ.1 55).toInt.toNat := clampN _
  rw [zt]
  unfold QLD at hw
  rcases hw with ⟨z, i, hi, rfl⟩ | ⟨z, hf, rfl⟩ | ⟨z, t, h1, h2, h3, rfl⟩ | ⟨z, rfl⟩ | ⟨z, rfl⟩ | ⟨z, rfl⟩ | ⟨z, hw⟩ | ⟨z, hw⟩ <;> first | (exfalso; omega) | skip
  rcases hw with ⟨_, rfl⟩ | ⟨h, _⟩
  · exact QW.null q0 (by decide +kernel) (by decide +kernel)
  · exfalso; omega
-- post @223
theorem v_loads_23 (σ : RS) (n30 : Int32) (hpre_0 : OBS (σ.1 47).toInt (σ.1 35).toInt (σ.2.1 48)) (hpre_1 : 0 ≤ (σ.1 47).toInt) (hpre_2 : (σ.1 47).toInt ≤ 30) (hpre_3 : 0 ≤ (σ.1 35).toInt) (hpre_4 : (σ.1 35).toInt ≤ 5) (hpre_5 : VALS (σ.2.1 51) (σ.2.2.1 52) (σ.1 35).toInt (σ.1 47).toInt) (hpre_6 : FINS (σ.2.1 51) (σ.2.2.2) (σ.1 55).toInt) (hpre_9 : -1 ≤ (σ.1 57).toInt) (hpre_10 : (σ.1 57).toInt < (σ.1 47).toInt) (hpre_13 : 0 ≤ (σ.1 55).toInt) (hpre_14 : (σ.1 55).toInt ≤ 50) (hr29 : n30.toInt = (σ.1 55).toInt + 1) : n30.toInt = (σ.1 55).toInt + 1 ∧ OPQ (σ.2.1 51) (upd (σ.2.1 51) (σ.1 55).toNatClampNeg (0 : Int32)) (σ.2.2.1 52) (vp_updL (σ.2.2.1 52) (σ.1 55).toNatClampNeg (0 : Int64)) (vf_upd (σ.2.2.2) (σ.1 55).toNatClampNeg FP.dconst0) (σ.1 35).toInt (σ.1 47).toInt (0) ((σ.1 55).toInt + 1) ((σ.1 55).toInt) := by
  have q0 : (0 : Int32).toInt = 0 := by decide +kernel
  have ql0 : (0 : Int64).toInt = 0 := by decide +kernel
  refine ⟨by omega, ?_⟩
  first
  | exact OPQ.c1 (fl := 0) hpre_5 hpre_6 ⟨_, _, _, rfl, rfl, rfl, GV.num (by omega) (by omega)⟩ (by omega) (by rw [clampN]; omega) (Or.inr rfl) (Or.inr ⟨(by rw [clampN]; omega), by omega⟩)
  | exact OPQ.c1 (fl := 0) hpre_5 hpre_6 ⟨_, _, _, rfl, rfl, rfl, ⟨Or.inl ⟨by omega, by omega⟩, fun _ e => by omega⟩⟩ (by omega) (by rw [clampN]; omega) (Or.inr rfl) (Or.inr ⟨(by rw [clampN]; omega), by omega⟩)
  | exact OPQ.c1 (fl := 0) hpre_5 hpre_6 ⟨_, _, _, rfl, rfl, rfl, GV.obj (by omega) (by omega) (by omega) (by omega)⟩ (by omega) (by rw [clampN]; omega) (Or.inr rfl) (Or.inr ⟨(by rw [clampN]; omega), by omega⟩)
  | (rw [vf_two (by simp only [clampN]; omega)]
     exact OPQ.c1 (fl := 0) hpre_5 hpre_6 ⟨_, _, _, rfl, rfl, rfl, ⟨Or.inl ⟨by omega, by omega⟩, fun _ _ => by first | (subst_vars; exact fp_d10 (fp_l2d _)) | (subst_vars; exact fp_d100 (fp_l2d _)) | (subst_vars; exact fp_d1000 (fp_l2d _))⟩⟩ (by omega) (by rw [clampN]; omega) (Or.inr rfl) (Or.inr ⟨(by rw [clampN]; omega), by omega⟩))
  | exact OPQ.more (fl := 0) (t := (σ.1 55).toInt + 1) (OPQ.c1 (fl := 0) hpre_5 hpre_6 ⟨_, _, _, rfl, rfl, rfl, GV.num (by omega) (by omega)⟩ (by omega) (by rw [clampN]; omega) (Or.inr rfl) (Or.inr ⟨(by rw [clampN]; omega), by omega⟩)) ⟨_, _, _, rfl, rfl, rfl, GV.opq (p := x0.toNatClampNeg) (t := (σ.1 55).toInt + 1) (OPQ.c1 (fl := 0) hpre_5 hpre_6 ⟨_, _, _, rfl, rfl, rfl, GV.num (by omega) (by omega)⟩ (by omega) (by rw [clampN]; omega) (Or.inr rfl) (Or.inr ⟨(by rw [clampN]; omega), by omega⟩)) (fun e => e) (by rw [clampN]; omega) (Or.inr (by rw [clampN]; omega))⟩ (by rw [clampN]; omega) (by rw [clampN]; omega) (fun e => e) (Or.inl (by omega))
-- post2 @223
theorem v_loads_24 (σ : RS) (k0 : Int32) (k1 : Int64) (n30 : Int32) (hpre_0 : OBS (σ.1 47).toInt (σ.1 35).toInt (σ.2.1 48)) (hpre_1 : 0 ≤ (σ.1 47).toInt) (hpre_2 : (σ.1 47).toInt ≤ 30) (hpre_3 : 0 ≤ (σ.1 35).toInt) (hpre_4 : (σ.1 35).toInt ≤ 5) (hpre_5 : VALS (σ.2.1 51) (σ.2.2.1 52) (σ.1 35).toInt (σ.1 47).toInt) (hpre_6 : FINS (σ.2.1 51) (σ.2.2.2) (σ.1 55).toInt) (hpre_7 : 0 ≤ (σ.1 49).toInt) (hpre_8 : (σ.1 49).toInt ≤ 12) (hpre_9 : -1 ≤ (σ.1 57).toInt) (hpre_10 : (σ.1 57).toInt < (σ.1 47).toInt) (hpre_11 : 1 ≤ k0.toInt) (hpre_12 : k0.toInt ≤ 10) (hpre_13 : 0 ≤ (σ.1 55).toInt) (hpre_14 : (σ.1 55).toInt ≤ 50) (c1 : ¬ k0.toInt = 1) (c2 : 2 ≤ k0.toInt) (c3 : 5 ≤ k0.toInt) (c4 : ¬ k0.toInt = 5) (c5 : ¬ k0.toInt = 6) (c9 : ¬ k0.toInt = 7) (c10 : k0.toInt = 8) (hr29 : n30.toInt = (σ.1 55).toInt + 1) : ∀ w9 : QV, QLD (qH (σ.2.1 36) (σ.2.1 37) (σ.2.1 38) (σ.2.1 39) (σ.2.1 40) (σ.2.1 41) (σ.2.1 42) (σ.2.1 43) (σ.2.1 44) (σ.2.1 45) (σ.2.1 46) (σ.2.1 48)) (σ.1 47).toInt ((σ.2.1 51), (σ.2.2.1 52), (σ.2.2.1 53), (σ.2.2.2)) (σ.2.1 50) (σ.1 49).toInt (σ.1 57).toInt k0.toInt k1 w9 → QW (qH (σ.2.1 36) (σ.2.1 37) (σ.2.1 38) (σ.2.1 39) (σ.2.1 40) (σ.2.1 41) (σ.2.1 42) (σ.2.1 43) (σ.2.1 44) (σ.2.1 45) (σ.2.1 46) (σ.2.1 48)) (σ.1 47).toInt ((σ.2.1 51), (σ.2.2.1 52), (σ.2.2.1 53), (σ.2.2.2)) ((upd (σ.2.1 51) (σ.1 55).toNatClampNeg (0 : Int32)), (vp_updL (σ.2.2.1 52) (σ.1 55).toNatClampNeg (0 : Int64)), (vp_updL (σ.2.2.1 53) (σ.1 55).toNatClampNeg (0 : Int64)), (vf_upd (σ.2.2.2) (σ.1 55).toNatClampNeg FP.dconst0)) (σ.1 55).toInt.toNat w9 := by
  have q0 : (0 : Int32).toInt = 0 := by decide +kernel
  have ql0 : (0 : Int64).toInt = 0 := by decide +kernel
  intro w9 hw
  have zt : (σ.1 55).toNatClampNeg = (σ.1 55).toInt.toNat := clampN _
  rw [zt]
  unfold QLD at hw
  rcases hw with ⟨z, i, hi, rfl⟩ | ⟨z, hf, rfl⟩ | ⟨z, t, h1, h2, h3, rfl⟩ | ⟨z, rfl⟩ | ⟨z, rfl⟩ | ⟨z, rfl⟩ | ⟨z, hw⟩ | ⟨z, hw⟩ <;> first | (exfalso; omega) | skip
  exact QW.null q0 (by decide +kernel) (by decide +kernel)
-- post @223
theorem v_loads_25 (σ : RS) (n33 : Int32) (hpre_0 : OBS (σ.1 47).toInt (σ.1 35).toInt (σ.2.1 48)) (hpre_1 : 0 ≤ (σ.1 47).toInt) (hpre_2 : (σ.1 47).toInt ≤ 30) (hpre_3 : 0 ≤ (σ.1 35).toInt) (hpre_4 : (σ.1 35).toInt ≤ 5) (hpre_5 : VALS (σ.2.1 51) (σ.2.2.1 52) (σ.1 35).toInt (σ.1 47).toInt) (hpre_6 : FINS (σ.2.1 51) (σ.2.2.2) (σ.1 55).toInt) (hpre_9 : -1 ≤ (σ.1 57).toInt) (hpre_10 : (σ.1 57).toInt < (σ.1 47).toInt) (hpre_13 : 0 ≤ (σ.1 55).toInt) (hpre_14 : (σ.1 55).toInt ≤ 50) (hr32 : n33.toInt = (σ.1 55).toInt + 1) : n33.toInt = (σ.1 55).toInt + 1 ∧ OPQ (σ.2.1 51) (upd (σ.2.1 51) (σ.1 55).toNatClampNeg (1 : Int32)) (σ.2.2.1 52) (vp_updL (σ.2.2.1 52) (σ.1 55).toNatClampNeg (0 : Int64)) (vf_upd (σ.2.2.2) (σ.1 55).toNatClampNeg FP.dconst0) (σ.1 35).toInt (σ.1 47).toInt (0) ((σ.1 55).toInt + 1) ((σ.1 55).toInt) := by
  have q1 : (1 : Int32).toInt = 1 := by decide +kernel
  have ql0 : (0 : Int64).toInt = 0 := by decide +kernel
  refine ⟨by omega, ?_⟩
  first
  | exact OPQ.c1 (fl := 0) hpre_5 hpre_6 ⟨_, _, _, rfl, rfl, rfl, GV.num (by omega) (by omega)⟩ (by omega) (by rw [clampN]; omega) (Or.inr rfl) (Or.inr ⟨(by rw [clampN]; omega), by omega⟩)
  | exact OPQ.c1 (fl := 0) hpre_5 hpre_6 ⟨_, _, _, rfl, rfl, rfl, ⟨Or.inl ⟨by omega, by omega⟩, fun _ e => by omega⟩⟩ (by omega) (by rw [clampN]; omega) (Or.inr rfl) (Or.inr ⟨(by rw [clampN]; omega), by omega⟩)
  | exact OPQ.c1 (fl := 0) hpre_5 hpre_6 ⟨_, _, _, rfl, rfl, rfl, GV.obj (by omega) (by omega) (by omega) (by omega)⟩ (by omega) (by rw [clampN]; omega) (Or.inr rfl) (Or.inr ⟨(by rw [clampN]; omega), by omega⟩)
  | (rw [vf_two (by simp only [clampN]; omega)]
     exact OPQ.c1 (fl := 0) hpre_5 hpre_6 ⟨_, _, _, rfl, rfl, rfl, ⟨Or.inl ⟨by omega, by omega⟩, fun _ _ => by first | (subst_vars; exact fp_d10 (fp_l2d _)) | (subst_vars; exact fp_d100 (fp_l2d _)) | (subst_vars; exact fp_d1000 (fp_l2d _))⟩⟩ (by omega) (by rw [clampN]; omega) (Or.inr rfl) (Or.inr ⟨(by rw [clampN]; omega), by omega⟩))
  | exact OPQ.more (fl := 0) (t := (σ.1 55).toInt + 1) (OPQ.c1 (fl := 0) hpre_5 hpre_6 ⟨_, _, _, rfl, rfl, rfl, GV.num (by omega) (by omega)⟩ (by omega) (by rw [clampN]; omega) (Or.inr rfl) (Or.inr ⟨(by rw [clampN]; omega), by omega⟩)) ⟨_, _, _, rfl, rfl, rfl, GV.opq (p := x0.toNatClampNeg) (t := (σ.1 55).toInt + 1) (OPQ.c1 (fl := 0) hpre_5 hpre_6 ⟨_, _, _, rfl, rfl, rfl, GV.num (by omega) (by omega)⟩ (by omega) (by rw [clampN]; omega) (Or.inr rfl) (Or.inr ⟨(by rw [clampN]; omega), by omega⟩)) (fun e => e) (by rw [clampN]; omega) (Or.inr (by rw [clampN]; omega))⟩ (by rw [clampN]; omega) (by rw [clampN]; omega) (fun e => e) (Or.inl (by omega))
-- post2 @223
theorem v_loads_26 (σ : RS) (k0 : Int32) (k1 : Int64) (n33 : Int32) (hpre_0 : OBS (σ.1 47).toInt (σ.1 35).toInt (σ.2.1 48)) (hpre_1 : 0 ≤ (σ.1 47).toInt) (hpre_2 : (σ.1 47).toInt ≤ 30) (hpre_3 : 0 ≤ (σ.1 35).toInt) (hpre_4 : (σ.1 35).toInt ≤ 5) (hpre_5 : VALS (σ.2.1 51) (σ.2.2.1 52) (σ.1 35).toInt (σ.1 47).toInt) (hpre_6 : FINS (σ.2.1 51) (σ.2.2.2) (σ.1 55).toInt) (hpre_7 : 0 ≤ (σ.1 49).toInt) (hpre_8 : (σ.1 49).toInt ≤ 12) (hpre_9 : -1 ≤ (σ.1 57).toInt) (hpre_10 : (σ.1 57).toInt < (σ.1 47).toInt) (hpre_11 : 1 ≤ k0.toInt) (hpre_12 : k0.toInt ≤ 10) (hpre_13 : 0 ≤ (σ.1 55).toInt) (hpre_14 : (σ.1 55).toInt ≤ 50) (c1 : ¬ k0.toInt = 1) (c2 : 2 ≤ k0.toInt) (c3 : 5 ≤ k0.toInt) (c4 : ¬ k0.toInt = 5) (c5 : ¬ k0.toInt = 6) (c9 : k0.toInt = 7) (c31 : ¬ k0.toInt = 6) (hr32 : n33.toInt = (σ.1 55).toInt + 1) : ∀ w9 : QV, QLD (qH (σ.2.1 36) (σ.2.1 37) (σ.2.1 38) (σ.2.1 39) (σ.2.1 40) (σ.2.1 41) (σ.2.1 42) (σ.2.1 43) (σ.2.1 44) (σ.2.1 45) (σ.2.1 46) (σ.2.1 48)) (σ.1 47).toInt ((σ.2.1 51), (σ.2.2.1 52), (σ.2.2.1 53), (σ.2.2.2)) (σ.2.1 50) (σ.1 49).toInt (σ.1 57).toInt k0.toInt k1 w9 → QW (qH (σ.2.1 36) (σ.2.1 37) (σ.2.1 38) (σ.2.1 39) (σ.2.1 40) (σ.2.1 41) (σ.2.1 42) (σ.2.1 43) (σ.2.1 44) (σ.2.1 45) (σ.2.1 46) (σ.2.1 48)) (σ.1 47).toInt ((σ.2.1 51), (σ.2.2.1 52), (σ.2.2.1 53), (σ.2.2.2)) ((upd (σ.2.1 51) (σ.1 55).toNatClampNeg (1 : Int32)), (vp_updL (σ.2.2.1 52) (σ.1 55).toNatClampNeg (0 : Int64)), (vp_updL (σ.2.2.1 53) (σ.1 55).toNatClampNeg (0 : Int64)), (vf_upd (σ.2.2.2) (σ.1 55).toNatClampNeg FP.dconst0)) (σ.1 55).toInt.toNat w9 := by
  have q1 : (1 : Int32).toInt = 1 := by decide +kernel
  have ql0 : (0 : Int64).toInt = 0 := by decide +kernel
  intro w9 hw
  have zt : (σ.1 55).toNatClampNeg = (σ.1 55).toInt.toNat := clampN _
  rw [zt]
  unfold QLD at hw
  rcases hw with ⟨z, i, hi, rfl⟩ | ⟨z, hf, rfl⟩ | ⟨z, t, h1, h2, h3, rfl⟩ | ⟨z, rfl⟩ | ⟨z, rfl⟩ | ⟨z, rfl⟩ | ⟨z, hw⟩ | ⟨z, hw⟩ <;> first | (exfalso; omega) | skip
  exact QW.bool q1 (by decide +kernel) (by decide +kernel)
-- dead@111 @114
theorem v_loads_27 (k0 : Int32) (hpre_11 : 1 ≤ k0.toInt) (hpre_12 : k0.toInt ≤ 10) (c1 : ¬ k0.toInt = 1) (c2 : 2 ≤ k0.toInt) (c3 : 5 ≤ k0.toInt) (c4 : ¬ k0.toInt = 5) (c5 : ¬ k0.toInt = 6) (c9 : k0.toInt = 7) (c31 : k0.toInt = 6) : False := by
  first | assumption | omega | (subst_vars; omega) | trivial
-- post @223
theorem v_loads_28 (σ : RS) (k1 : Int64) (n35 : Int32) (hpre_0 : OBS (σ.1 47).toInt (σ.1 35).toInt (σ.2.1 48)) (hpre_1 : 0 ≤ (σ.1 47).toInt) (hpre_2 : (σ.1 47).toInt ≤ 30) (hpre_3 : 0 ≤ (σ.1 35).toInt) (hpre_4 : (σ.1 35).toInt ≤ 5) (hpre_5 : VALS (σ.2.1 51) (σ.2.2.1 52) (σ.1 35).toInt (σ.1 47).toInt) (hpre_6 : FINS (σ.2.1 51) (σ.2.2.2) (σ.1 55).toInt) (hpre_9 : -1 ≤ (σ.1 57).toInt) (hpre_10 : (σ.1 57).toInt < (σ.1 47).toInt) (hpre_13 : 0 ≤ (σ.1 55).toInt) (hpre_14 : (σ.1 55).toInt ≤ 50) (hr34 : n35.toInt = (σ.1 55).toInt + 1) : n35.toInt = (σ.1 55).toInt + 1 ∧ OPQ (σ.2.1 51) (upd (σ.2.1 51) (σ.1 55).toNatClampNeg (4 : Int32)) (σ.2.2.1 52) (vp_updL (σ.2.2.1 52) (σ.1 55).toNatClampNeg k1) (vf_upd (σ.2.2.2) (σ.1 55).toNatClampNeg FP.dconst0) (σ.1 35).toInt (σ.1 47).toInt (0) ((σ.1 55).toInt + 1) ((σ.1 55).toInt) := by
  have q4 : (4 : Int32).toInt = 4 := by decide +kernel
  refine ⟨by omega, ?_⟩
  first
  | exact OPQ.c1 (fl := 0) hpre_5 hpre_6 ⟨_, _, _, rfl, rfl, rfl, GV.num (by omega) (by omega)⟩ (by omega) (by rw [clampN]; omega) (Or.inr rfl) (Or.inr ⟨(by rw [clampN]; omega), by omega⟩)
  | exact OPQ.c1 (fl := 0) hpre_5 hpre_6 ⟨_, _, _, rfl, rfl, rfl, ⟨Or.inl ⟨by omega, by omega⟩, fun _ e => by omega⟩⟩ (by omega) (by rw [clampN]; omega) (Or.inr rfl) (Or.inr ⟨(by rw [clampN]; omega), by omega⟩)
  | exact OPQ.c1 (fl := 0) hpre_5 hpre_6 ⟨_, _, _, rfl, rfl, rfl, GV.obj (by omega) (by omega) (by omega) (by omega)⟩ (by omega) (by rw [clampN]; omega) (Or.inr rfl) (Or.inr ⟨(by rw [clampN]; omega), by omega⟩)
  | (rw [vf_two (by simp only [clampN]; omega)]
     exact OPQ.c1 (fl := 0) hpre_5 hpre_6 ⟨_, _, _, rfl, rfl, rfl, ⟨Or.inl ⟨by omega, by omega⟩, fun _ _ => by first | (subst_vars; exact fp_d10 (fp_l2d _)) | (subst_vars; exact fp_d100 (fp_l2d _)) | (subst_vars; exact fp_d1000 (fp_l2d _))⟩⟩ (by omega) (by rw [clampN]; omega) (Or.inr rfl) (Or.inr ⟨(by rw [clampN]; omega), by omega⟩))
  | exact OPQ.more (fl := 0) (t := (σ.1 55).toInt + 1) (OPQ.c1 (fl := 0) hpre_5 hpre_6 ⟨_, _, _, rfl, rfl, rfl, GV.num (by omega) (by omega)⟩ (by omega) (by rw [clampN]; omega) (Or.inr rfl) (Or.inr ⟨(by rw [clampN]; omega), by omega⟩)) ⟨_, _, _, rfl, rfl, rfl, GV.opq (p := x0.toNatClampNeg) (t := (σ.1 55).toInt + 1) (OPQ.c1 (fl := 0) hpre_5 hpre_6 ⟨_, _, _, rfl, rfl, rfl, GV.num (by omega) (by omega)⟩ (by omega) (by rw [clampN]; omega) (Or.inr rfl) (Or.inr ⟨(by rw [clampN]; omega), by omega⟩)) (fun e => e) (by rw [clampN]; omega) (Or.inr (by rw [clampN]; omega))⟩ (by rw [clampN]; omega) (by rw [clampN]; omega) (fun e => e) (Or.inl (by omega))
-- post2 @223
theorem v_loads_29 (σ : RS) (k0 : Int32) (k1 : Int64) (n35 : Int32) (hpre_0 : OBS (σ.1 47).toInt (σ.1 35).toInt (σ.2.1 48)) (hpre_1 : 0 ≤ (σ.1 47).toInt) (hpre_2 : (σ.1 47).toInt ≤ 30) (hpre_3 : 0 ≤ (σ.1 35).toInt) (hpre_4 : (σ.1 35).toInt ≤ 5) (hpre_5 : VALS (σ.2.1 51) (σ.2.2.1 52) (σ.1 35).toInt (σ.1 47).toInt) (hpre_6 : FINS (σ.2.1 51) (σ.2.2.2) (σ.1 55).toInt) (hpre_7 : 0 ≤ (σ.1 49).toInt) (hpre_8 : (σ.1 49).toInt ≤ 12) (hpre_9 : -1 ≤ (σ.1 57).toInt) (hpre_10 : (σ.1 57).toInt < (σ.1 47).toInt) (hpre_11 : 1 ≤ k0.toInt) (hpre_12 : k0.toInt ≤ 10) (hpre_13 : 0 ≤ (σ.1 55).toInt) (hpre_14 : (σ.1 55).toInt ≤ 50) (c1 : ¬ k0.toInt = 1) (c2 : 2 ≤ k0.toInt) (c3 : 5 ≤ k0.toInt) (c4 : k0.toInt = 5) (hr34 : n35.toInt = (σ.1 55).toInt + 1) : ∀ w9 : QV, QLD (qH (σ.2.1 36) (σ.2.1 37) (σ.2.1 38) (σ.2.1 39) (σ.2.1 40) (σ.2.1 41) (σ.2.1 42) (σ.2.1 43) (σ.2.1 44) (σ.2.1 45) (σ.2.1 46) (σ.2.1 48)) (σ.1 47).toInt ((σ.2.1 51), (σ.2.2.1 52), (σ.2.2.1 53), (σ.2.2.2)) (σ.2.1 50) (σ.1 49).toInt (σ.1 57).toInt k0.toInt k1 w9 → QW (qH (σ.2.1 36) (σ.2.1 37) (σ.2.1 38) (σ.2.1 39) (σ.2.1 40) (σ.2.1 41) (σ.2.1 42) (σ.2.1 43) (σ.2.1 44) (σ.2.1 45) (σ.2.1 46) (σ.2.1 48)) (σ.1 47).toInt ((σ.2.1 51), (σ.2.2.1 52), (σ.2.2.1 53), (σ.2.2.2)) ((upd (σ.2.1 51) (σ.1 55).toNatClampNeg (4 : Int32)), (vp_updL (σ.2.2.1 52) (σ.1 55).toNatClampNeg k1), (vp_updL (σ.2.2.1 53) (σ.1 55).toNatClampNeg (0 : Int64)), (vf_upd (σ.2.2.2) (σ.1 55).toNatClampNeg FP.dconst0)) (σ.1 55).toInt.toNat w9 := by
  have q4 : (4 : Int32).toInt = 4 := by decide +kernel
  have ql0 : (0 : Int64).toInt = 0 := by decide +kernel
  intro w9 hw
  have zt : (σ.1 55).toNatClampNeg = (σ.1 55).toInt.toNat := clampN _
  rw [zt]
  unfold QLD at hw
  rcases hw with ⟨z, i, hi, rfl⟩ | ⟨z, hf, rfl⟩ | ⟨z, t, h1, h2, h3, rfl⟩ | ⟨z, rfl⟩ | ⟨z, rfl⟩ | ⟨z, rfl⟩ | ⟨z, hw⟩ | ⟨z, hw⟩ <;> first | (exfalso; omega) | skip
  exact QW.txt8 q4 h3 (by decide +kernel) h1 h2
-- nan@55 @55
theorem v_loads_30 (k1 : Int64) (x38 : UInt64) (ex38 : x38 = FP.l2d k1) : vf_n64 (FP.ddiv x38 (4652007308841189376 : UInt64)) := by
  obtain ⟨s, c, q, hx⟩ : FN x38 := by rw [ex38]; exact fp_l2d _
  obtain ⟨d, g1, g2⟩ := fp_div hx (show Jvm.FP.Core.decode Jvm.FP.Core.b64 (4652007308841189376 : UInt64).toNat = .fin false 8796093022208000 (-43) by decide +kernel) (by omega)
  exact fp_n g1 g2
-- nw@73 @73
theorem v_loads_31 (σ : RS) (n41 : Int32) (x42 : Int32) (hpre_0 : OBS (σ.1 47).toInt (σ.1 35).toInt (σ.2.1 48)) (hpre_1 : 0 ≤ (σ.1 47).toInt) (hpre_2 : (σ.1 47).toInt ≤ 30) (hpre_3 : 0 ≤ (σ.1 35).toInt) (hpre_4 : (σ.1 35).toInt ≤ 5) (hpre_5 : VALS (σ.2.1 51) (σ.2.2.1 52) (σ.1 35).toInt (σ.1 47).toInt) (hpre_6 : FINS (σ.2.1 51) (σ.2.2.2) (σ.1 55).toInt) (hpre_9 : -1 ≤ (σ.1 57).toInt) (hpre_10 : (σ.1 57).toInt < (σ.1 47).toInt) (hpre_13 : 0 ≤ (σ.1 55).toInt) (hpre_14 : (σ.1 55).toInt ≤ 50) (hr40 : n41.toInt = (σ.1 55).toInt + 1) (ex42 : x42 = n41 - (1 : Int32)) : x42.toInt = n41.toInt - 1 := by
  have q1 : (1 : Int32).toInt = 1 := by decide +kernel
  have w1 : (1 : Int32).toInt = 1 := by decide +kernel
  rw [ex42, z_sub (by omega) (by omega)]; first | done | omega
-- in@76 @76
theorem v_loads_32 (σ : RS) (n41 : Int32) (x42 : Int32) (hpre_0 : OBS (σ.1 47).toInt (σ.1 35).toInt (σ.2.1 48)) (hpre_1 : 0 ≤ (σ.1 47).toInt) (hpre_2 : (σ.1 47).toInt ≤ 30) (hpre_3 : 0 ≤ (σ.1 35).toInt) (hpre_4 : (σ.1 35).toInt ≤ 5) (hpre_5 : VALS (σ.2.1 51) (σ.2.2.1 52) (σ.1 35).toInt (σ.1 47).toInt) (hpre_6 : FINS (σ.2.1 51) (σ.2.2.2) (σ.1 55).toInt) (hpre_9 : -1 ≤ (σ.1 57).toInt) (hpre_10 : (σ.1 57).toInt < (σ.1 47).toInt) (hpre_13 : 0 ≤ (σ.1 55).toInt) (hpre_14 : (σ.1 55).toInt ≤ 50) (hr40 : n41.toInt = (σ.1 55).toInt + 1) (ex42 : x42 = n41 - (1 : Int32)) (tx42 : x42.toInt = n41.toInt - 1) : vp_in x42 980 := by
  have q1 : (1 : Int32).toInt = 1 := by decide +kernel
  exact vp_in_iff.mpr ⟨by omega, by omega⟩
-- post @223
theorem v_loads_33 (σ : RS) (k1 : Int64) (x38 : UInt64) (x39 : UInt64) (n41 : Int32) (x42 : Int32) (hpre_0 : OBS (σ.1 47).toInt (σ.1 35).toInt (σ.2.1 48)) (hpre_1 : 0 ≤ (σ.1 47).toInt) (hpre_2 : (σ.1 47).toInt ≤ 30) (hpre_3 : 0 ≤ (σ.1 35).toInt) (hpre_4 : (σ.1 35).toInt ≤ 5) (hpre_5 : VALS (σ.2.1 51) (σ.2.2.1 52) (σ.1 35).toInt (σ.1 47).toInt) (hpre_6 : FINS (σ.2.1 51) (σ.2.2.2) (σ.1 55).toInt) (hpre_9 : -1 ≤ (σ.1 57).toInt) (hpre_10 : (σ.1 57).toInt < (σ.1 47).toInt) (hpre_13 : 0 ≤ (σ.1 55).toInt) (hpre_14 : (σ.1 55).toInt ≤ 50) (ex38 : x38 = FP.l2d k1) (ex39 : x39 = FP.ddiv x38 (4652007308841189376 : UInt64)) (hr40 : n41.toInt = (σ.1 55).toInt + 1) (ex42 : x42 = n41 - (1 : Int32)) (tx42 : x42.toInt = n41.toInt - 1) : n41.toInt = (σ.1 55).toInt + 1 ∧ OPQ (σ.2.1 51) (upd (σ.2.1 51) (σ.1 55).toNatClampNeg (3 : Int32)) (σ.2.2.1 52) (vp_updL (σ.2.2.1 52) (σ.1 55).toNatClampNeg (0 : Int64)) (vf_upd (vf_upd (σ.2.2.2) (σ.1 55).toNatClampNeg FP.dconst0) x42.toNatClampNeg x39) (σ.1 35).toInt (σ.1 47).toInt (0) ((σ.1 55).toInt + 1) ((σ.1 55).toInt) := by
  have q1 : (1 : Int32).toInt = 1 := by decide +kernel
  have q3 : (3 : Int32).toInt = 3 := by decide +kernel
  have ql0 : (0 : Int64).toInt = 0 := by decide +kernel
  refine ⟨by omega, ?_⟩
  first
  | exact OPQ.c1 (fl := 0) hpre_5 hpre_6 ⟨_, _, _, rfl, rfl, rfl, GV.num (by omega) (by omega)⟩ (by omega) (by rw [clampN]; omega) (Or.inr rfl) (Or.inr ⟨(by rw [clampN]; omega), by omega⟩)
  | exact OPQ.c1 (fl := 0) hpre_5 hpre_6 ⟨_, _, _, rfl, rfl, rfl, ⟨Or.inl ⟨by omega, by omega⟩, fun _ e => by omega⟩⟩ (by omega) (by rw [clampN]; omega) (Or.inr rfl) (Or.inr ⟨(by rw [clampN]; omega), by omega⟩)
  | exact OPQ.c1 (fl := 0) hpre_5 hpre_6 ⟨_, _, _, rfl, rfl, rfl, GV.obj (by omega) (by omega) (by omega) (by omega)⟩ (by omega) (by rw [clampN]; omega) (Or.inr rfl) (Or.inr ⟨(by rw [clampN]; omega), by omega⟩)
  | (rw [vf_two (by simp only [clampN]; omega)]
     exact OPQ.c1 (fl := 0) hpre_5 hpre_6 ⟨_, _, _, rfl, rfl, rfl, ⟨Or.inl ⟨by omega, by omega⟩, fun _ _ => by first | (subst_vars; exact fp_d10 (fp_l2d _)) | (subst_vars; exact fp_d100 (fp_l2d _)) | (subst_vars; exact fp_d1000 (fp_l2d _))⟩⟩ (by omega) (by rw [clampN]; omega) (Or.inr rfl) (Or.inr ⟨(by rw [clampN]; omega), by omega⟩))
  | exact OPQ.more (fl := 0) (t := (σ.1 55).toInt + 1) (OPQ.c1 (fl := 0) hpre_5 hpre_6 ⟨_, _, _, rfl, rfl, rfl, GV.num (by omega) (by omega)⟩ (by omega) (by rw [clampN]; omega) (Or.inr rfl) (Or.inr ⟨(by rw [clampN]; omega), by omega⟩)) ⟨_, _, _, rfl, rfl, rfl, GV.opq (p := x0.toNatClampNeg) (t := (σ.1 55).toInt + 1) (OPQ.c1 (fl := 0) hpre_5 hpre_6 ⟨_, _, _, rfl, rfl, rfl, GV.num (by omega) (by omega)⟩ (by omega) (by rw [clampN]; omega) (Or.inr rfl) (Or.inr ⟨(by rw [clampN]; omega), by omega⟩)) (fun e => e) (by rw [clampN]; omega) (Or.inr (by rw [clampN]; omega))⟩ (by rw [clampN]; omega) (by rw [clampN]; omega) (fun e => e) (Or.inl (by omega))
-- post2 @223
theorem v_loads_34 (σ : RS) (k0 : Int32) (k1 : Int64) (x38 : UInt64) (x39 : UInt64) (n41 : Int32) (x42 : Int32) (hpre_0 : OBS (σ.1 47).toInt (σ.1 35).toInt (σ.2.1 48)) (hpre_1 : 0 ≤ (σ.1 47).toInt) (hpre_2 : (σ.1 47).toInt ≤ 30) (hpre_3 : 0 ≤ (σ.1 35).toInt) (hpre_4 : (σ.1 35).toInt ≤ 5) (hpre_5 : VALS (σ.2.1 51) (σ.2.2.1 52) (σ.1 35).toInt (σ.1 47).toInt) (hpre_6 : FINS (σ.2.1 51) (σ.2.2.2) (σ.1 55).toInt) (hpre_7 : 0 ≤ (σ.1 49).toInt) (hpre_8 : (σ.1 49).toInt ≤ 12) (hpre_9 : -1 ≤ (σ.1 57).toInt) (hpre_10 : (σ.1 57).toInt < (σ.1 47).toInt) (hpre_11 : 1 ≤ k0.toInt) (hpre_12 : k0.toInt ≤ 10) (hpre_13 : 0 ≤ (σ.1 55).toInt) (hpre_14 : (σ.1 55).toInt ≤ 50) (c1 : ¬ k0.toInt = 1) (c2 : 2 ≤ k0.toInt) (c3 : k0.toInt < 5) (c36 : ¬ k0.toInt = 2) (c37 : ¬ k0.toInt = 3) (ex38 : x38 = FP.l2d k1) (ex39 : x39 = FP.ddiv x38 (4652007308841189376 : UInt64)) (hr40 : n41.toInt = (σ.1 55).toInt + 1) (ex42 : x42 = n41 - (1 : Int32)) (tx42 : x42.toInt = n41.toInt - 1) : ∀ w9 : QV, QLD (qH (σ.2.1 36) (σ.2.1 37) (σ.2.1 38) (σ.2.1 39) (σ.2.1 40) (σ.2.1 41) (σ.2.1 42) (σ.2.1 43) (σ.2.1 44) (σ.2.1 45) (σ.2.1 46) (σ.2.1 48)) (σ.1 47).toInt ((σ.2.1 51), (σ.2.2.1 52), (σ.2.2.1 53), (σ.2.2.2)) (σ.2.1 50) (σ.1 49).toInt (σ.1 57).toInt k0.toInt k1 w9 → QW (qH (σ.2.1 36) (σ.2.1 37) (σ.2.1 38) (σ.2.1 39) (σ.2.1 40) (σ.2.1 41) (σ.2.1 42) (σ.2.1 43) (σ.2.1 44) (σ.2.1 45) (σ.2.1 46) (σ.2.1 48)) (σ.1 47).toInt ((σ.2.1 51), (σ.2.2.1 52), (σ.2.2.1 53), (σ.2.2.2)) ((upd (σ.2.1 51) (σ.1 55).toNatClampNeg (3 : Int32)), (vp_updL (σ.2.2.1 52) (σ.1 55).toNatClampNeg (0 : Int64)), (vp_updL (σ.2.2.1 53) (σ.1 55).toNatClampNeg (0 : Int64)), (vf_upd (vf_upd (σ.2.2.2) (σ.1 55).toNatClampNeg FP.dconst0) x42.toNatClampNeg x39)) (σ.1 55).toInt.toNat w9 := by
  have q1 : (1 : Int32).toInt = 1 := by decide +kernel
  have q3 : (3 : Int32).toInt = 3 := by decide +kernel
  have ql0 : (0 : Int64).toInt = 0 := by decide +kernel
  intro w9 hw
  have zt : (σ.1 55).toNatClampNeg = (σ.1 55).toInt.toNat := clampN _
  rw [zt]
  have zx42 : x42.toNatClampNeg = (σ.1 55).toInt.toNat := by rw [clampN, tx42]; congr 1; omega
  rw [zx42]
  unfold QLD at hw
  rcases hw with ⟨z, i, hi, rfl⟩ | ⟨z, hf, rfl⟩ | ⟨z, t, h1, h2, h3, rfl⟩ | ⟨z, rfl⟩ | ⟨z, rfl⟩ | ⟨z, rfl⟩ | ⟨z, hw⟩ | ⟨z, hw⟩ <;> first | (exfalso; omega) | skip
  have e : FP.ddiv (FP.l2d k1) (qUnit k0.toInt) = x39 := by
    rw [ex39, ex38]; unfold qUnit
    rw [if_neg (by omega), if_neg (by omega)]
  rw [e] at hf ⊢
  rw [vf_tw]
  exact QW.real q3 hf
-- nan@55 @55
theorem v_loads_35 (k1 : Int64) (x43 : UInt64) (ex43 : x43 = FP.l2d k1) : vf_n64 (FP.ddiv x43 (4636737291354636288 : UInt64)) := by
  obtain ⟨s, c, q, hx⟩ : FN x43 := by rw [ex43]; exact fp_l2d _
  obtain ⟨d, g1, g2⟩ := fp_div hx (show Jvm.FP.Core.decode Jvm.FP.Core.b64 (4636737291354636288 : UInt64).toNat = .fin false 7036874417766400 (-46) by decide +kernel) (by omega)
  exact fp_n g1 g2
-- nw@73 @73
theorem v_loads_36 (σ : RS) (n46 : Int32) (x47 : Int32) (hpre_0 : OBS (σ.1 47).toInt (σ.1 35).toInt (σ.2.1 48)) (hpre_1 : 0 ≤ (σ.1 47).toInt) (hpre_2 : (σ.1 47).toInt ≤ 30) (hpre_3 : 0 ≤ (σ.1 35).toInt) (hpre_4 : (σ.1 35).toInt ≤ 5) (hpre_5 : VALS (σ.2.1 51) (σ.2.2.1 52) (σ.1 35).toInt (σ.1 47).toInt) (hpre_6 : FINS (σ.2.1 51) (σ.2.2.2) (σ.1 55).toInt) (hpre_9 : -1 ≤ (σ.1 57).toInt) (hpre_10 : (σ.1 57).toInt < (σ.1 47).toInt) (hpre_13 : 0 ≤ (σ.1 55).toInt) (hpre_14 : (σ.1 55).toInt ≤ 50) (hr45 : n46.toInt = (σ.1 55).toInt + 1) (ex47 : x47 = n46 - (1 : Int32)) : x47.toInt = n46.toInt - 1 := by
  have q1 : (1 : Int32).toInt = 1 := by decide +kernel
  have w1 : (1 : Int32).toInt = 1 := by decide +kernel
  rw [ex47, z_sub (by omega) (by omega)]; first | done | omega
-- in@76 @76
theorem v_loads_37 (σ : RS) (n46 : Int32) (x47 : Int32) (hpre_0 : OBS (σ.1 47).toInt (σ.1 35).toInt (σ.2.1 48)) (hpre_1 : 0 ≤ (σ.1 47).toInt) (hpre_2 : (σ.1 47).toInt ≤ 30) (hpre_3 : 0 ≤ (σ.1 35).toInt) (hpre_4 : (σ.1 35).toInt ≤ 5) (hpre_5 : VALS (σ.2.1 51) (σ.2.2.1 52) (σ.1 35).toInt (σ.1 47).toInt) (hpre_6 : FINS (σ.2.1 51) (σ.2.2.2) (σ.1 55).toInt) (hpre_9 : -1 ≤ (σ.1 57).toInt) (hpre_10 : (σ.1 57).toInt < (σ.1 47).toInt) (hpre_13 : 0 ≤ (σ.1 55).toInt) (hpre_14 : (σ.1 55).toInt ≤ 50) (hr45 : n46.toInt = (σ.1 55).toInt + 1) (ex47 : x47 = n46 - (1 : Int32)) (tx47 : x47.toInt = n46.toInt - 1) : vp_in x47 980 := by
  have q1 : (1 : Int32).toInt = 1 := by decide +kernel
  exact vp_in_iff.mpr ⟨by omega, by omega⟩
-- post @223
theorem v_loads_38 (σ : RS) (k1 : Int64) (x43 : UInt64) (x44 : UInt64) (n46 : Int32) (x47 : Int32) (hpre_0 : OBS (σ.1 47).toInt (σ.1 35).toInt (σ.2.1 48)) (hpre_1 : 0 ≤ (σ.1 47).toInt) (hpre_2 : (σ.1 47).toInt ≤ 30) (hpre_3 : 0 ≤ (σ.1 35).toInt) (hpre_4 : (σ.1 35).toInt ≤ 5) (hpre_5 : VALS (σ.2.1 51) (σ.2.2.1 52) (σ.1 35).toInt (σ.1 47).toInt) (hpre_6 : FINS (σ.2.1 51) (σ.2.2.2) (σ.1 55).toInt) (hpre_9 : -1 ≤ (σ.1 57).toInt) (hpre_10 : (σ.1 57).toInt < (σ.1 47).toInt) (hpre_13 : 0 ≤ (σ.1 55).toInt) (hpre_14 : (σ.1 55).toInt ≤ 50) (ex43 : x43 = FP.l2d k1) (ex44 : x44 = FP.ddiv x43 (4636737291354636288 : UInt64)) (hr45 : n46.toInt = (σ.1 55).toInt + 1) (ex47 : x47 = n46 - (1 : Int32)) (tx47 : x47.toInt = n46.toInt - 1) : n46.toInt = (σ.1 55).toInt + 1 ∧ OPQ (σ.2.1 51) (upd (σ.2.1 51) (σ.1 55).toNatClampNeg (3 : Int32)) (σ.2.2.1 52) (vp_updL (σ.2.2.1 52) (σ.1 55).toNatClampNeg (0 : Int64)) (vf_upd (vf_upd (σ.2.2.2) (σ.1 55).toNatClampNeg FP.dconst0) x47.toNatClampNeg x44) (σ.1 35).toInt (σ.1 47).toInt (0) ((σ.1 55).toInt + 1) ((σ.1 55).toInt) := by
  have q1 : (1 : Int32).toInt = 1 := by decide +kernel
  have q3 : (3 : Int32).toInt = 3 := by decide +kernel
  have ql0 : (0 : Int64).toInt = 0 := by decide +kernel
  refine ⟨by omega, ?_⟩
  first
  | exact OPQ.c1 (fl := 0) hpre_5 hpre_6 ⟨_, _, _, rfl, rfl, rfl, GV.num (by omega) (by omega)⟩ (by omega) (by rw [clampN]; omega) (Or.inr rfl) (Or.inr ⟨(by rw [clampN]; omega), by omega⟩)
  | exact OPQ.c1 (fl := 0) hpre_5 hpre_6 ⟨_, _, _, rfl, rfl, rfl, ⟨Or.inl ⟨by omega, by omega⟩, fun _ e => by omega⟩⟩ (by omega) (by rw [clampN]; omega) (Or.inr rfl) (Or.inr ⟨(by rw [clampN]; omega), by omega⟩)
  | exact OPQ.c1 (fl := 0) hpre_5 hpre_6 ⟨_, _, _, rfl, rfl, rfl, GV.obj (by omega) (by omega) (by omega) (by omega)⟩ (by omega) (by rw [clampN]; omega) (Or.inr rfl) (Or.inr ⟨(by rw [clampN]; omega), by omega⟩)
  | (rw [vf_two (by simp only [clampN]; omega)]
     exact OPQ.c1 (fl := 0) hpre_5 hpre_6 ⟨_, _, _, rfl, rfl, rfl, ⟨Or.inl ⟨by omega, by omega⟩, fun _ _ => by first | (subst_vars; exact fp_d10 (fp_l2d _)) | (subst_vars; exact fp_d100 (fp_l2d _)) | (subst_vars; exact fp_d1000 (fp_l2d _))⟩⟩ (by omega) (by rw [clampN]; omega) (Or.inr rfl) (Or.inr ⟨(by rw [clampN]; omega), by omega⟩))
  | exact OPQ.more (fl := 0) (t := (σ.1 55).toInt + 1) (OPQ.c1 (fl := 0) hpre_5 hpre_6 ⟨_, _, _, rfl, rfl, rfl, GV.num (by omega) (by omega)⟩ (by omega) (by rw [clampN]; omega) (Or.inr rfl) (Or.inr ⟨(by rw [clampN]; omega), by omega⟩)) ⟨_, _, _, rfl, rfl, rfl, GV.opq (p := x0.toNatClampNeg) (t := (σ.1 55).toInt + 1) (OPQ.c1 (fl := 0) hpre_5 hpre_6 ⟨_, _, _, rfl, rfl, rfl, GV.num (by omega) (by omega)⟩ (by omega) (by rw [clampN]; omega) (Or.inr rfl) (Or.inr ⟨(by rw [clampN]; omega), by omega⟩)) (fun e => e) (by rw [clampN]; omega) (Or.inr (by rw [clampN]; omega))⟩ (by rw [clampN]; omega) (by rw [clampN]; omega) (fun e => e) (Or.inl (by omega))
-- post2 @223
theorem v_loads_39 (σ : RS) (k0 : Int32) (k1 : Int64) (x43 : UInt64) (x44 : UInt64) (n46 : Int32) (x47 : Int32) (hpre_0 : OBS (σ.1 47).toInt (σ.1 35).toInt (σ.2.1 48)) (hpre_1 : 0 ≤ (σ.1 47).toInt) (hpre_2 : (σ.1 47).toInt ≤ 30) (hpre_3 : 0 ≤ (σ.1 35).toInt) (hpre_4 : (σ.1 35).toInt ≤ 5) (hpre_5 : VALS (σ.2.1 51) (σ.2.2.1 52) (σ.1 35).toInt (σ.1 47).toInt) (hpre_6 : FINS (σ.2.1 51) (σ.2.2.2) (σ.1 55).toInt) (hpre_7 : 0 ≤ (σ.1 49).toInt) (hpre_8 : (σ.1 49).toInt ≤ 12) (hpre_9 : -1 ≤ (σ.1 57).toInt) (hpre_10 : (σ.1 57).toInt < (σ.1 47).toInt) (hpre_11 : 1 ≤ k0.toInt) (hpre_12 : k0.toInt ≤ 10) (hpre_13 : 0 ≤ (σ.1 55).toInt) (hpre_14 : (σ.1 55).toInt ≤ 50) (c1 : ¬ k0.toInt = 1) (c2 : 2 ≤ k0.toInt) (c3 : k0.toInt < 5) (c36 : ¬ k0.toInt = 2) (c37 : k0.toInt = 3) (ex43 : x43 = FP.l2d k1) (ex44 : x44 = FP.ddiv x43 (4636737291354636288 : UInt64)) (hr45 : n46.toInt = (σ.1 55).toInt + 1) (ex47 : x47 = n46 - (1 : Int32)) (tx47 : x47.toInt = n46.toInt - 1) : ∀ w9 : QV, QLD (qH (σ.2.1 36) (σ.2.1 37) (σ.2.1 38) (σ.2.1 39) (σ.2.1 40) (σ.2.1 41) (σ.2.1 42) (σ.2.1 43) (σ.2.1 44) (σ.2.1 45) (σ.2.1 46) (σ.2.1 48)) (σ.1 47).toInt ((σ.2.1 51), (σ.2.2.1 52), (σ.2.2.1 53), (σ.2.2.2)) (σ.2.1 50) (σ.1 49).toInt (σ.1 57).toInt k0.toInt k1 w9 → QW (qH (σ.2.1 36) (σ.2.1 37) (σ.2.1 38) (σ.2.1 39) (σ.2.1 40) (σ.2.1 41) (σ.2.1 42) (σ.2.1 43) (σ.2.1 44) (σ.2.1 45) (σ.2.1 46) (σ.2.1 48)) (σ.1 47).toInt ((σ.2.1 51), (σ.2.2.1 52), (σ.2.2.1 53), (σ.2.2.2)) ((upd (σ.2.1 51) (σ.1 55).toNatClampNeg (3 : Int32)), (vp_updL (σ.2.2.1 52) (σ.1 55).toNatClampNeg (0 : Int64)), (vp_updL (σ.2.2.1 53) (σ.1 55).toNatClampNeg (0 : Int64)), (vf_upd (vf_upd (σ.2.2.2) (σ.1 55).toNatClampNeg FP.dconst0) x47.toNatClampNeg x44)) (σ.1 55).toInt.toNat w9 := by
  have q1 : (1 : Int32).toInt = 1 := by decide +kernel
  have q3 : (3 : Int32).toInt = 3 := by decide +kernel
  have ql0 : (0 : Int64).toInt = 0 := by decide +kernel
  intro w9 hw
  have zt : (σ.1 55).toNatClampNeg = (σ.1 55).toInt.toNat := clampN _
  rw [zt]
  have zx47 : x47.toNatClampNeg = (σ.1 55).toInt.toNat := by rw [clampN, tx47]; congr 1; omega
  rw [zx47]
  unfold QLD at hw
  rcases hw with ⟨z, i, hi, rfl⟩ | ⟨z, hf, rfl⟩ | ⟨z, t, h1, h2, h3, rfl⟩ | ⟨z, rfl⟩ | ⟨z, rfl⟩ | ⟨z, rfl⟩ | ⟨z, hw⟩ | ⟨z, hw⟩ <;> first | (exfalso; omega) | skip
  have e : FP.ddiv (FP.l2d k1) (qUnit k0.toInt) = x44 := by
    rw [ex44, ex43]; unfold qUnit
    rw [if_neg (by omega), if_pos (by omega)]
  rw [e] at hf ⊢
  rw [vf_tw]
  exact QW.real q3 hf
-- nan@55 @55
theorem v_loads_40 (k1 : Int64) (x48 : UInt64) (ex48 : x48 = FP.l2d k1) : vf_n64 (FP.ddiv x48 (4621819117588971520 : UInt64)) := by
  obtain ⟨s, c, q, hx⟩ : FN x48 := by rw [ex48]; exact fp_l2d _
  obtain ⟨d, g1, g2⟩ := fp_div hx (show Jvm.FP.Core.decode Jvm.FP.Core.b64 (4621819117588971520 : UInt64).toNat = .fin false 5629499534213120 (-49) by decide +kernel) (by omega)
  exact fp_n g1 g2
-- nw@73 @73
theorem v_loads_41 (σ : RS) (n51 : Int32) (x52 : Int32) (hpre_0 : OBS (σ.1 47).toInt (σ.1 35).toInt (σ.2.1 48)) (hpre_1 : 0 ≤ (σ.1 47).toInt) (hpre_2 : (σ.1 47).toInt ≤ 30) (hpre_3 : 0 ≤ (σ.1 35).toInt) (hpre_4 : (σ.1 35).toInt ≤ 5) (hpre_5 : VALS (σ.2.1 51) (σ.2.2.1 52) (σ.1 35).toInt (σ.1 47).toInt) (hpre_6 : FINS (σ.2.1 51) (σ.2.2.2) (σ.1 55).toInt) (hpre_9 : -1 ≤ (σ.1 57).toInt) (hpre_10 : (σ.1 57).toInt < (σ.1 47).toInt) (hpre_13 : 0 ≤ (σ.1 55).toInt) (hpre_14 : (σ.1 55).toInt ≤ 50) (hr50 : n51.toInt = (σ.1 55).toInt + 1) (ex52 : x52 = n51 - (1 : Int32)) : x52.toInt = n51.toInt - 1 := by
  have q1 : (1 : Int32).toInt = 1 := by decide +kernel
  have w1 : (1 : Int32).toInt = 1 := by decide +kernel
  rw [ex52, z_sub (by omega) (by omega)]; first | done | omega
-- in@76 @76
theorem v_loads_42 (σ : RS) (n51 : Int32) (x52 : Int32) (hpre_0 : OBS (σ.1 47).toInt (σ.1 35).toInt (σ.2.1 48)) (hpre_1 : 0 ≤ (σ.1 47).toInt) (hpre_2 : (σ.1 47).toInt ≤ 30) (hpre_3 : 0 ≤ (σ.1 35).toInt) (hpre_4 : (σ.1 35).toInt ≤ 5) (hpre_5 : VALS (σ.2.1 51) (σ.2.2.1 52) (σ.1 35).toInt (σ.1 47).toInt) (hpre_6 : FINS (σ.2.1 51) (σ.2.2.2) (σ.1 55).toInt) (hpre_9 : -1 ≤ (σ.1 57).toInt) (hpre_10 : (σ.1 57).toInt < (σ.1 47).toInt) (hpre_13 : 0 ≤ (σ.1 55).toInt) (hpre_14 : (σ.1 55).toInt ≤ 50) (hr50 : n51.toInt = (σ.1 55).toInt + 1) (ex52 : x52 = n51 - (1 : Int32)) (tx52 : x52.toInt = n51.toInt - 1) : vp_in x52 980 := by
  have q1 : (1 : Int32).toInt = 1 := by decide +kernel
  exact vp_in_iff.mpr ⟨by omega, by omega⟩
-- post @223
theorem v_loads_43 (σ : RS) (k1 : Int64) (x48 : UInt64) (x49 : UInt64) (n51 : Int32) (x52 : Int32) (hpre_0 : OBS (σ.1 47).toInt (σ.1 35).toInt (σ.2.1 48)) (hpre_1 : 0 ≤ (σ.1 47).toInt) (hpre_2 : (σ.1 47).toInt ≤ 30) (hpre_3 : 0 ≤ (σ.1 35).toInt) (hpre_4 : (σ.1 35).toInt ≤ 5) (hpre_5 : VALS (σ.2.1 51) (σ.2.2.1 52) (σ.1 35).toInt (σ.1 47).toInt) (hpre_6 : FINS (σ.2.1 51) (σ.2.2.2) (σ.1 55).toInt) (hpre_9 : -1 ≤ (σ.1 57).toInt) (hpre_10 : (σ.1 57).toInt < (σ.1 47).toInt) (hpre_13 : 0 ≤ (σ.1 55).toInt) (hpre_14 : (σ.1 55).toInt ≤ 50) (ex48 : x48 = FP.l2d k1) (ex49 : x49 = FP.ddiv x48 (4621819117588971520 : UInt64)) (hr50 : n51.toInt = (σ.1 55).toInt + 1) (ex52 : x52 = n51 - (1 : Int32)) (tx52 : x52.toInt = n51.toInt - 1) : n51.toInt = (σ.1 55).toInt + 1 ∧ OPQ (σ.2.1 51) (upd (σ.2.1 51) (σ.1 55).toNatClampNeg (3 : Int32)) (σ.2.2.1 52) (vp_updL (σ.2.2.1 52) (σ.1 55).toNatClampNeg (0 : Int64)) (vf_upd (vf_upd (σ.2.2.2) (σ.1 55).toNatClampNeg FP.dconst0) x52.toNatClampNeg x49) (σ.1 35).toInt (σ.1 47).toInt (0) ((σ.1 55).toInt + 1) ((σ.1 55).toInt) := by
  have q1 : (1 : Int32).toInt = 1 := by decide +kernel
  have q3 : (3 : Int32).toInt = 3 := by decide +kernel
  have ql0 : (0 : Int64).toInt = 0 := by decide +kernel
  refine ⟨by omega, ?_⟩
  first
  | exact OPQ.c1 (fl := 0) hpre_5 hpre_6 ⟨_, _, _, rfl, rfl, rfl, GV.num (by omega) (by omega)⟩ (by omega) (by rw [clampN]; omega) (Or.inr rfl) (Or.inr ⟨(by rw [clampN]; omega), by omega⟩)
  | exact OPQ.c1 (fl := 0) hpre_5 hpre_6 ⟨_, _, _, rfl, rfl, rfl, ⟨Or.inl ⟨by omega, by omega⟩, fun _ e => by omega⟩⟩ (by omega) (by rw [clampN]; omega) (Or.inr rfl) (Or.inr ⟨(by rw [clampN]; omega), by omega⟩)
  | exact OPQ.c1 (fl := 0) hpre_5 hpre_6 ⟨_, _, _, rfl, rfl, rfl, GV.obj (by omega) (by omega) (by omega) (by omega)⟩ (by omega) (by rw [clampN]; omega) (Or.inr rfl) (Or.inr ⟨(by rw [clampN]; omega), by omega⟩)
  | (rw [vf_two (by simp only [clampN]; omega)]
     exact OPQ.c1 (fl := 0) hpre_5 hpre_6 ⟨_, _, _, rfl, rfl, rfl, ⟨Or.inl ⟨by omega, by omega⟩, fun _ _ => by first | (subst_vars; exact fp_d10 (fp_l2d _)) | (subst_vars; exact fp_d100 (fp_l2d _)) | (subst_vars; exact fp_d1000 (fp_l2d _))⟩⟩ (by omega) (by rw [clampN]; omega) (Or.inr rfl) (Or.inr ⟨(by rw [clampN]; omega), by omega⟩))
  | exact OPQ.more (fl := 0) (t := (σ.1 55).toInt + 1) (OPQ.c1 (fl := 0) hpre_5 hpre_6 ⟨_, _, _, rfl, rfl, rfl, GV.num (by omega) (by omega)⟩ (by omega) (by rw [clampN]; omega) (Or.inr rfl) (Or.inr ⟨(by rw [clampN]; omega), by omega⟩)) ⟨_, _, _, rfl, rfl, rfl, GV.opq (p := x0.toNatClampNeg) (t := (σ.1 55).toInt + 1) (OPQ.c1 (fl := 0) hpre_5 hpre_6 ⟨_, _, _, rfl, rfl, rfl, GV.num (by omega) (by omega)⟩ (by omega) (by rw [clampN]; omega) (Or.inr rfl) (Or.inr ⟨(by rw [clampN]; omega), by omega⟩)) (fun e => e) (by rw [clampN]; omega) (Or.inr (by rw [clampN]; omega))⟩ (by rw [clampN]; omega) (by rw [clampN]; omega) (fun e => e) (Or.inl (by omega))
-- post2 @223
theorem v_loads_44 (σ : RS) (k0 : Int32) (k1 : Int64) (x48 : UInt64) (x49 : UInt64) (n51 : Int32) (x52 : Int32) (hpre_0 : OBS (σ.1 47).toInt (σ.1 35).toInt (σ.2.1 48)) (hpre_1 : 0 ≤ (σ.1 47).toInt) (hpre_2 : (σ.1 47).toInt ≤ 30) (hpre_3 : 0 ≤ (σ.1 35).toInt) (hpre_4 : (σ.1 35).toInt ≤ 5) (hpre_5 : VALS (σ.2.1 51) (σ.2.2.1 52) (σ.1 35).toInt (σ.1 47).toInt) (hpre_6 : FINS (σ.2.1 51) (σ.2.2.2) (σ.1 55).toInt) (hpre_7 : 0 ≤ (σ.1 49).toInt) (hpre_8 : (σ.1 49).toInt ≤ 12) (hpre_9 : -1 ≤ (σ.1 57).toInt) (hpre_10 : (σ.1 57).toInt < (σ.1 47).toInt) (hpre_11 : 1 ≤ k0.toInt) (hpre_12 : k0.toInt ≤ 10) (hpre_13 : 0 ≤ (σ.1 55).toInt) (hpre_14 : (σ.1 55).toInt ≤ 50) (c1 : ¬ k0.toInt = 1) (c2 : 2 ≤ k0.toInt) (c3 : k0.toInt < 5) (c36 : k0.toInt = 2) (ex48 : x48 = FP.l2d k1) (ex49 : x49 = FP.ddiv x48 (4621819117588971520 : UInt64)) (hr50 : n51.toInt = (σ.1 55).toInt + 1) (ex52 : x52 = n51 - (1 : Int32)) (tx52 : x52.toInt = n51.toInt - 1) : ∀ w9 : QV, QLD (qH (σ.2.1 36) (σ.2.1 37) (σ.2.1 38) (σ.2.1 39) (σ.2.1 40) (σ.2.1 41) (σ.2.1 42) (σ.2.1 43) (σ.2.1 44) (σ.2.1 45) (σ.2.1 46) (σ.2.1 48)) (σ.1 47).toInt ((σ.2.1 51), (σ.2.2.1 52), (σ.2.2.1 53), (σ.2.2.2)) (σ.2.1 50) (σ.1 49).toInt (σ.1 57).toInt k0.toInt k1 w9 → QW (qH (σ.2.1 36) (σ.2.1 37) (σ.2.1 38) (σ.2.1 39) (σ.2.1 40) (σ.2.1 41) (σ.2.1 42) (σ.2.1 43) (σ.2.1 44) (σ.2.1 45) (σ.2.1 46) (σ.2.1 48)) (σ.1 47).toInt ((σ.2.1 51), (σ.2.2.1 52), (σ.2.2.1 53), (σ.2.2.2)) ((upd (σ.2.1 51) (σ.1 55).toNatClampNeg (3 : Int32)), (vp_updL (σ.2.2.1 52) (σ.1 55).toNatClampNeg (0 : Int64)), (vp_updL (σ.2.2.1 53) (σ.1 55).toNatClampNeg (0 : Int64)), (vf_upd (vf_upd (σ.2.2.2) (σ.1 55).toNatClampNeg FP.dconst0) x52.toNatClampNeg x49)) (σ.1 55).toInt.toNat w9 := by
  have q1 : (1 : Int32).toInt = 1 := by decide +kernel
  have q3 : (3 : Int32).toInt = 3 := by decide +kernel
  have ql0 : (0 : Int64).toInt = 0 := by decide +kernel
  intro w9 hw
  have zt : (σ.1 55).toNatClampNeg = (σ.1 55).toInt.toNat := clampN _
  rw [zt]
  have zx52 : x52.toNatClampNeg = (σ.1 55).toInt.toNat := by rw [clampN, tx52]; congr 1; omega
  rw [zx52]
  unfold QLD at hw
  rcases hw with ⟨z, i, hi, rfl⟩ | ⟨z, hf, rfl⟩ | ⟨z, t, h1, h2, h3, rfl⟩ | ⟨z, rfl⟩ | ⟨z, rfl⟩ | ⟨z, rfl⟩ | ⟨z, hw⟩ | ⟨z, hw⟩ <;> first | (exfalso; omega) | skip
  have e : FP.ddiv (FP.l2d k1) (qUnit k0.toInt) = x49 := by
    rw [ex49, ex48]; unfold qUnit
    rw [if_pos (by omega)]
  rw [e] at hf ⊢
  rw [vf_tw]
  exact QW.real q3 hf
-- post @223
theorem v_loads_45 (σ : RS) (k1 : Int64) (n54 : Int32) (hpre_0 : OBS (σ.1 47).toInt (σ.1 35).toInt (σ.2.1 48)) (hpre_1 : 0 ≤ (σ.1 47).toInt) (hpre_2 : (σ.1 47).toInt ≤ 30) (hpre_3 : 0 ≤ (σ.1 35).toInt) (hpre_4 : (σ.1 35).toInt ≤ 5) (hpre_5 : VALS (σ.2.1 51) (σ.2.2.1 52) (σ.1 35).toInt (σ.1 47).toInt) (hpre_6 : FINS (σ.2.1 51) (σ.2.2.2) (σ.1 55).toInt) (hpre_9 : -1 ≤ (σ.1 57).toInt) (hpre_10 : (σ.1 57).toInt < (σ.1 47).toInt) (hpre_13 : 0 ≤ (σ.1 55).toInt) (hpre_14 : (σ.1 55).toInt ≤ 50) (hr53 : n54.toInt = (σ.1 55).toInt + 1) : n54.toInt = (σ.1 55).toInt + 1 ∧ OPQ (σ.2.1 51) (upd (σ.2.1 51) (σ.1 55).toNatClampNeg (2 : Int32)) (σ.2.2.1 52) (vp_updL (σ.2.2.1 52) (σ.1 55).toNatClampNeg k1) (vf_upd (σ.2.2.2) (σ.1 55).toNatClampNeg FP.dconst0) (σ.1 35).toInt (σ.1 47).toInt (0) ((σ.1 55).toInt + 1) ((σ.1 55).toInt) := by
  have q2 : (2 : Int32).toInt = 2 := by decide +kernel
  refine ⟨by omega, ?_⟩
  first
  | exact OPQ.c1 (fl := 0) hpre_5 hpre_6 ⟨_, _, _, rfl, rfl, rfl, GV.num (by omega) (by omega)⟩ (by omega) (by rw [clampN]; omega) (Or.inr rfl) (Or.inr ⟨(by rw [clampN]; omega), by omega⟩)
  | exact OPQ.c1 (fl := 0) hpre_5 hpre_6 ⟨_, _, _, rfl, rfl, rfl, ⟨Or.inl ⟨by omega, by omega⟩, fun _ e => by omega⟩⟩ (by omega) (by rw [clampN]; omega) (Or.inr rfl) (Or.inr ⟨(by rw [clampN]; omega), by omega⟩)
  | exact OPQ.c1 (fl := 0) hpre_5 hpre_6 ⟨_, _, _, rfl, rfl, rfl, GV.obj (by omega) (by omega) (by omega) (by omega)⟩ (by omega) (by rw [clampN]; omega) (Or.inr rfl) (Or.inr ⟨(by rw [clampN]; omega), by omega⟩)
  | (rw [vf_two (by simp only [clampN]; omega)]
     exact OPQ.c1 (fl := 0) hpre_5 hpre_6 ⟨_, _, _, rfl, rfl, rfl, ⟨Or.inl ⟨by omega, by omega⟩, fun _ _ => by first | (subst_vars; exact fp_d10 (fp_l2d _)) | (subst_vars; exact fp_d100 (fp_l2d _)) | (subst_vars; exact fp_d1000 (fp_l2d _))⟩⟩ (by omega) (by rw [clampN]; omega) (Or.inr rfl) (Or.inr ⟨(by rw [clampN]; omega), by omega⟩))
  | exact OPQ.more (fl := 0) (t := (σ.1 55).toInt + 1) (OPQ.c1 (fl := 0) hpre_5 hpre_6 ⟨_, _, _, rfl, rfl, rfl, GV.num (by omega) (by omega)⟩ (by omega) (by rw [clampN]; omega) (Or.inr rfl) (Or.inr ⟨(by rw [clampN]; omega), by omega⟩)) ⟨_, _, _, rfl, rfl, rfl, GV.opq (p := x0.toNatClampNeg) (t := (σ.1 55).toInt + 1) (OPQ.c1 (fl := 0) hpre_5 hpre_6 ⟨_, _, _, rfl, rfl, rfl, GV.num (by omega) (by omega)⟩ (by omega) (by rw [clampN]; omega) (Or.inr rfl) (Or.inr ⟨(by rw [clampN]; omega), by omega⟩)) (fun e => e) (by rw [clampN]; omega) (Or.inr (by rw [clampN]; omega))⟩ (by rw [clampN]; omega) (by rw [clampN]; omega) (fun e => e) (Or.inl (by omega))
-- post2 @223
theorem v_loads_46 (σ : RS) (k0 : Int32) (k1 : Int64) (n54 : Int32) (hpre_0 : OBS (σ.1 47).toInt (σ.1 35).toInt (σ.2.1 48)) (hpre_1 : 0 ≤ (σ.1 47).toInt) (hpre_2 : (σ.1 47).toInt ≤ 30) (hpre_3 : 0 ≤ (σ.1 35).toInt) (hpre_4 : (σ.1 35).toInt ≤ 5) (hpre_5 : VALS (σ.2.1 51) (σ.2.2.1 52) (σ.1 35).toInt (σ.1 47).toInt) (hpre_6 : FINS (σ.2.1 51) (σ.2.2.2) (σ.1 55).toInt) (hpre_7 : 0 ≤ (σ.1 49).toInt) (hpre_8 : (σ.1 49).toInt ≤ 12) (hpre_9 : -1 ≤ (σ.1 57).toInt) (hpre_10 : (σ.1 57).toInt < (σ.1 47).toInt) (hpre_11 : 1 ≤ k0.toInt) (hpre_12 : k0.toInt ≤ 10) (hpre_13 : 0 ≤ (σ.1 55).toInt) (hpre_14 : (σ.1 55).toInt ≤ 50) (c1 : k0.toInt = 1) (hr53 : n54.toInt = (σ.1 55).toInt + 1) : ∀ w9 : QV, QLD (qH (σ.2.1 36) (σ.2.1 37) (σ.2.1 38) (σ.2.1 39) (σ.2.1 40) (σ.2.1 41) (σ.2.1 42) (σ.2.1 43) (σ.2.1 44) (σ.2.1 45) (σ.2.1 46) (σ.2.1 48)) (σ.1 47).toInt ((σ.2.1 51), (σ.2.2.1 52), (σ.2.2.1 53), (σ.2.2.2)) (σ.2.1 50) (σ.1 49).toInt (σ.1 57).toInt k0.toInt k1 w9 → QW (qH (σ.2.1 36) (σ.2.1 37) (σ.2.1 38) (σ.2.1 39) (σ.2.1 40) (σ.2.1 41) (σ.2.1 42) (σ.2.1 43) (σ.2.1 44) (σ.2.1 45) (σ.2.1 46) (σ.2.1 48)) (σ.1 47).toInt ((σ.2.1 51), (σ.2.2.1 52), (σ.2.2.1 53), (σ.2.2.2)) ((upd (σ.2.1 51) (σ.1 55).toNatClampNeg (2 : Int32)), (vp_updL (σ.2.2.1 52) (σ.1 55).toNatClampNeg k1), (vp_updL (σ.2.2.1 53) (σ.1 55).toNatClampNeg (0 : Int64)), (vf_upd (σ.2.2.2) (σ.1 55).toNatClampNeg FP.dconst0)) (σ.1 55).toInt.toNat w9 := by
  have q2 : (2 : Int32).toInt = 2 := by decide +kernel
  have ql0 : (0 : Int64).toInt = 0 := by decide +kernel
  intro w9 hw
  have zt : (σ.1 55).toNatClampNeg = (σ.1 55).toInt.toNat := clampN _
  rw [zt]
  unfold QLD at hw
  rcases hw with ⟨z, i, hi, rfl⟩ | ⟨z, hf, rfl⟩ | ⟨z, t, h1, h2, h3, rfl⟩ | ⟨z, rfl⟩ | ⟨z, rfl⟩ | ⟨z, rfl⟩ | ⟨z, hw⟩ | ⟨z, hw⟩ <;> first | (exfalso; omega) | skip
  exact QW.int q2 hi (by decide +kernel)
set_option maxHeartbeats 4000000 in
set_option maxRecDepth 100000 in
theorem M_loads (l : Launch) (D : va_G) (cy : Nat → ClassId) (sz0 : Nat) (sa : Nat → Nat) (ad : Nat → Nat) (σ : RS) (sz : Nat) (k0 : Int32) (k1 : Int64) (hpre : OBS (σ.1 47).toInt (σ.1 35).toInt (σ.2.1 48) ∧ 0 ≤ (σ.1 47).toInt ∧ (σ.1 47).toInt ≤ 30 ∧ 0 ≤ (σ.1 35).toInt ∧ (σ.1 35).toInt ≤ 5 ∧ VALS (σ.2.1 51) (σ.2.2.1 52) (σ.1 35).toInt (σ.1 47).toInt ∧ FINS (σ.2.1 51) (σ.2.2.2) (σ.1 55).toInt ∧ 0 ≤ (σ.1 49).toInt ∧ (σ.1 49).toInt ≤ 12 ∧ -1 ≤ (σ.1 57).toInt ∧ (σ.1 57).toInt < (σ.1 47).toInt ∧ 1 ≤ k0.toInt ∧ k0.toInt ≤ 10 ∧ 0 ≤ (σ.1 55).toInt ∧ (σ.1 55).toInt ≤ 50) : Met l yX12_loads (Cond.code yX12_loads cX12_loads 8 none :: GWm) ({ frames := 2, cells := 0, slots := 0, locals := 49 }) (PcR D cy sz0 sa ad [.ref (ad 0), .int k0, .long k1] σ sz) (va_Qv (fun (u : (Nat → Int32) × (Nat → Int64) × (Nat → Int64) × (Nat → UInt64) × Int32) => (u.2.2.2.2.toInt = (σ.1 55).toInt + 1 ∧ OPQ (σ.2.1 51) u.1 (σ.2.2.1 52) u.2.1 u.2.2.2.1 (σ.1 35).toInt (σ.1 47).toInt (0) ((σ.1 55).toInt + 1) ((σ.1 55).toInt)) ∧ (∀ w9 : QV, QLD (qH (σ.2.1 36) (σ.2.1 37) (σ.2.1 38) (σ.2.1 39) (σ.2.1 40) (σ.2.1 41) (σ.2.1 42) (σ.2.1 43) (σ.2.1 44) (σ.2.1 45) (σ.2.1 46) (σ.2.1 48)) (σ.1 47).toInt ((σ.2.1 51), (σ.2.2.1 52), (σ.2.2.1 53), (σ.2.2.2)) (σ.2.1 50) (σ.1 49).toInt (σ.1 57).toInt k0.toInt k1 w9 → QW (qH (σ.2.1 36) (σ.2.1 37) (σ.2.1 38) (σ.2.1 39) (σ.2.1 40) (σ.2.1 41) (σ.2.1 42) (σ.2.1 43) (σ.2.1 44) (σ.2.1 45) (σ.2.1 46) (σ.2.1 48)) (σ.1 47).toInt ((σ.2.1 51), (σ.2.2.1 52), (σ.2.2.1 53), (σ.2.2.2)) (u.1, u.2.1, u.2.2.1, u.2.2.2.1) (σ.1 55).toInt.toNat w9)) (fun (u : (Nat → Int32) × (Nat → Int64) × (Nat → Int64) × (Nat → UInt64) × Int32) (t : State) => RP D cy ad (rS (rR (rJ (rJ (rA σ 51 u.1) 52 u.2.1) 53 u.2.2.1) u.2.2.2.1) 55 u.2.2.2.2) t.heap) (AR cy ad sz)) 0 0 (AR cy ad sz) := by
  refine RM_of (loc0 := [(0, .ref (ad 0)), (1, .int k0), (2, .long k1)]) (by decide) rfl rfl (Nat.le_of_ble_eq_true rfl) ?_
  intro p e s m below meth c ls hsz C hP hS hl
  have hx := C.1
  have hb := C.2.1
  have hown := C.2.2.2.2.1
  have hw := C.2.2.2.2.2.1
  clear hsz
  obtain ⟨hpre_0, hpre_1, hpre_2, hpre_3, hpre_4, hpre_5, hpre_6, hpre_7, hpre_8, hpre_9, hpre_10, hpre_11, hpre_12, hpre_13, hpre_14⟩ := hpre
  refine lv_iload_n hx hb dX12_loads_0 rfl (lv_at hl 1 rfl) ?_
  refine lv_iconst (v := 1) hx hb dX12_loads_1 (by decide +kernel) ?_
  refine lv_icmp_ne (tgt := 14) hx hb dX12_loads_2 (by decide) (fun c1 => ?_) (fun c1 => ?_)
  · have c1 : ¬ k0.toInt = 1 := by have h := z_ne c1; rw [show (1 : Int32).toInt = 1 from by decide +kernel] at h; exact h
    refine lv_iload_n hx hb dX12_loads_14 rfl (lv_at hl 1 rfl) ?_
    refine lv_iconst (v := 2) hx hb dX12_loads_15 (by decide +kernel) ?_
    refine lv_icmp_lt (tgt := 80) hx hb dX12_loads_16 (by decide) (fun c2 => ?_) (fun c2 => ?_)
    · have c2 : k0.toInt < 2 := by have h := z_lt c2; rw [show (2 : Int32).toInt = 2 from by decide +kernel] at h; exact h
      exact absurd (v_loads_1 k0 hpre_11 hpre_12 c1 c2) id
    · have c2 : 2 ≤ k0.toInt := by have h := z_nlt c2; rw [show (2 : Int32).toInt = 2 from by decide +kernel] at h; exact h
      refine lv_iload_n hx hb dX12_loads_19 rfl (lv_at hl 1 rfl) ?_
      refine lv_iconst (v := 5) hx hb dX12_loads_20 (by decide +kernel) ?_
      refine lv_icmp_ge (tgt := 80) hx hb dX12_loads_21 (by decide) (fun c3 => ?_) (fun c3 => ?_)
      · have c3 : 5 ≤ k0.toInt := by have h := z_le c3; rw [show (5 : Int32).toInt = 5 from by decide +kernel] at h; exact h
        refine lv_iload_n hx hb dX12_loads_80 rfl (lv_at hl 1 rfl) ?_
        refine lv_iconst (v := 5) hx hb dX12_loads_81 (by decide +kernel) ?_
        refine lv_icmp_ne (tgt := 94) hx hb dX12_loads_82 (by decide) (fun c4 => ?_) (fun c4 => ?_)
        · have c4 : ¬ k0.toInt = 5 := by have h := z_ne c4; rw [show (5 : Int32).toInt = 5 from by decide +kernel] at h; exact h
          refine lv_iload_n hx hb dX12_loads_94 rfl (lv_at hl 1 rfl) ?_
          refine lv_bipush (v := 6) hx hb dX12_loads_95 (by decide +kernel) ?_
          refine lv_icmp_eq (tgt := 106) hx hb dX12_loads_97 (by decide) (fun c5 => ?_) (fun c5 => ?_)
          · have c5 : k0.toInt = 6 := by have h := z_eq c5; rw [show (6 : Int32).toInt = 6 from by decide +kernel] at h; exact h
            refine lv_aload_n hx hb dX12_loads_106 rfl (lv_at hl 0 rfl) ?_
            refine lv_iconst (v := 1) hx hb dX12_loads_107 (by decide +kernel) ?_
            refine lv_iload_n hx hb dX12_loads_108 rfl (lv_at hl 1 rfl) ?_
            refine lv_bipush (v := 6) hx hb dX12_loads_109 (by decide +kernel) ?_
            refine lv_icmp_ne (tgt := 118) hx hb dX12_loads_111 (by decide) (fun c6 => ?_) (fun c6 => ?_)
            · have c6 : ¬ k0.toInt = 6 := by have h := z_ne c6; rw [show (6 : Int32).toInt = 6 from by decide +kernel] at h; exact h
              exact absurd (v_loads_2 k0 hpre_11 hpre_12 c1 c2 c3 c4 c5 c6) id
            · have c6 : k0.toInt = 6 := by have h := z_eq c6; rw [show (6 : Int32).toInt = 6 from by decide +kernel] at h; exact h
              refine lv_lconst (v := 1) hx hb dX12_loads_114 rfl ?_
              refine lv_goto (tgt := 119) hx hb dX12_loads_115 (by decide) ?_
              refine r_callVv (As := [.int 1, .long 1]) (rest := []) C hP hS hl.1 ⟨Nat.zero_le _, Nat.zero_le _⟩ (M_push l D cy sz0 sa ad σ s.heap.size (1 : Int32) (1 : Int64) (v_loads_3 σ hpre_0 hpre_1 hpre_2 hpre_3 hpre_4 hpre_5 hpre_6 hpre_9 hpre_10 hpre_13 hpre_14)) (n := 2) ⟨wm_368, wm_211, by decide +kernel⟩ ⟨wm_369, wm_370, wm_10⟩ rfl rfl (lv_room (Nat.le_of_ble_eq_true rfl)) ⟨Nat.le_of_ble_eq_true rfl, Nat.le_of_ble_eq_true rfl⟩ dX12_loads_119 (fun u H locs hr7 hP hS => ?_)
              obtain ⟨n8, rfl⟩ : ∃ z, z = u := ⟨_, rfl⟩
              have hr7 : n8.toInt = (σ.1 55).toInt + 1 := hr7
              have hP : RP D cy ad (rS (rR (rJ (rJ (rA σ 51 (upd (σ.2.1 51) (σ.1 55).toNatClampNeg (1 : Int32))) 52 (vp_updL (σ.2.2.1 52) (σ.1 55).toNatClampNeg (1 : Int64))) 53 (vp_updL (σ.2.2.1 53) (σ.1 55).toNatClampNeg (0 : Int64))) (vf_upd (σ.2.2.2) (σ.1 55).toNatClampNeg FP.dconst0)) 55 n8) H := hP
              refine lv_goto (tgt := 223) hx hb dX12_loads_122 (by decide) ?_
              exact r_retv C ⟨(upd (σ.2.1 51) (σ.1 55).toNatClampNeg (1 : Int32)), (vp_updL (σ.2.2.1 52) (σ.1 55).toNatClampNeg (1 : Int64)), (vp_updL (σ.2.2.1 53) (σ.1 55).toNatClampNeg (0 : Int64)), (vf_upd (σ.2.2.2) (σ.1 55).toNatClampNeg FP.dconst0), n8⟩ ⟨(v_loads_4 σ n8 hpre_0 hpre_1 hpre_2 hpre_3 hpre_4 hpre_5 hpre_6 hpre_9 hpre_10 hpre_13 hpre_14 hr7), (v_loads_5 σ k0 k1 n8 hpre_0 hpre_1 hpre_2 hpre_3 hpre_4 hpre_5 hpre_6 hpre_7 hpre_8 hpre_9 hpre_10 hpre_11 hpre_12 hpre_13 hpre_14 c1 c2 c3 c4 c5 c6 hr7)⟩ hP hS dX12_loads_223
          · have c5 : ¬ k0.toInt = 6 := by have h := z_ne c5; rw [show (6 : Int32).toInt = 6 from by decide +kernel] at h; exact h
            refine lv_iload_n hx hb dX12_loads_100 rfl (lv_at hl 1 rfl) ?_
            refine lv_bipush (v := 7) hx hb dX12_loads_101 (by decide +kernel) ?_
            refine lv_icmp_ne (tgt := 125) hx hb dX12_loads_103 (by decide) (fun c9 => ?_) (fun c9 => ?_)
            · have c9 : ¬ k0.toInt = 7 := by have h := z_ne c9; rw [show (7 : Int32).toInt = 7 from by decide +kernel] at h; exact h
              refine lv_iload_n hx hb dX12_loads_125 rfl (lv_at hl 1 rfl) ?_
              refine lv_bipush (v := 8) hx hb dX12_loads_126 (by decide +kernel) ?_
              refine lv_icmp_ne (tgt := 140) hx hb dX12_loads_128 (by decide) (fun c10 => ?_) (fun c10 => ?_)
              · have c10 : ¬ k0.toInt = 8 := by have h := z_ne c10; rw [show (8 : Int32).toInt = 8 from by decide +kernel] at h; exact h
                refine lv_iload_n hx hb dX12_loads_140 rfl (lv_at hl 1 rfl) ?_
                refine lv_bipush (v := 10) hx hb dX12_loads_141 (by decide +kernel) ?_
                refine lv_icmp_ne (tgt := 192) hx hb dX12_loads_143 (by decide) (fun c11 => ?_) (fun c11 => ?_)
                · have c11 : ¬ k0.toInt = 10 := by have h := z_ne c11; rw [show (10 : Int32).toInt = 10 from by decide +kernel] at h; exact h
                  refine lv_aload_n hx hb dX12_loads_192 rfl (lv_at hl 0 rfl) ?_
                  refine lv_lload_n hx hb dX12_loads_193 rfl (lv_at hl 2 rfl) ?_
                  refine lv_l2i hx hb dX12_loads_194 rfl ?_
                  refine lv_topi (fun x12 ex12 => ?_)
                  have tx12 : -2147483648 ≤ k1.toInt → k1.toInt < 2147483648 → x12.toInt = k1.toInt := z_l2i ex12
                  refine r_callVi (As := [.int x12]) (rest := []) C hP hS hl.1 ⟨Nat.zero_le _, Nat.zero_le _⟩ (M_placeOf l D cy sz0 sa ad σ s.heap.size x12 (v_loads_6 σ hpre_7 hpre_8)) (n := 1) ⟨wm_351, wm_347, by decide +kernel⟩ ⟨wm_352, wm_353, wm_10⟩ rfl rfl (lv_room (Nat.le_of_ble_eq_true rfl)) ⟨Nat.le_of_ble_eq_true rfl, Nat.le_of_ble_eq_true rfl⟩ dX12_loads_195 (fun r13 u H locs hr13 hP hS => ?_)
                  obtain ⟨hr13, hr13y⟩ := hr13
                  have hr13y : QPL (σ.2.1 50) (σ.1 49).toInt x12 r13.toInt := hr13y
                  have hr13 : r13.toInt = -1 ∨ (64 ≤ r13.toInt ∧ r13.toInt < 76) := hr13
                  refine lv_istore (lv' := [(4, .int r13), (0, .ref (ad 0)), (1, .int k0), (2, .long k1)]) hx hb dX12_loads_198 hl (by decide) rfl (fun ls hl => ?_)
                  refine lv_aload_n hx hb dX12_loads_200 rfl (lv_at hl 1 rfl) ?_
                  refine lv_iconst (v := 0) hx hb dX12_loads_201 (by decide +kernel) ?_
                  refine lv_lconst (v := 0) hx hb dX12_loads_202 rfl ?_
                  refine r_callVv (As := [.int 0, .long 0]) (rest := []) C hP hS hl.1 ⟨Nat.zero_le _, Nat.zero_le _⟩ (M_push l D cy sz0 sa ad σ H.size (0 : Int32) (0 : Int64) (v_loads_3 σ hpre_0 hpre_1 hpre_2 hpre_3 hpre_4 hpre_5 hpre_6 hpre_9 hpre_10 hpre_13 hpre_14)) (n := 2) ⟨wm_368, wm_211, by decide +kernel⟩ ⟨wm_369, wm_370, wm_10⟩ rfl rfl (lv_room (Nat.le_of_ble_eq_true rfl)) ⟨Nat.le_of_ble_eq_true rfl, Nat.le_of_ble_eq_true rfl⟩ dX12_loads_203 (fun u H locs hr14 hP hS => ?_)
                  obtain ⟨n15, rfl⟩ : ∃ z, z = u := ⟨_, rfl⟩
                  have hr14 : n15.toInt = (σ.1 55).toInt + 1 := hr14
                  have hP : RP D cy ad (rS (rR (rJ (rJ (rA σ 51 (upd (σ.2.1 51) (σ.1 55).toNatClampNeg (0 : Int32))) 52 (vp_updL (σ.2.2.1 52) (σ.1 55).toNatClampNeg (0 : Int64))) 53 (vp_updL (σ.2.2.1 53) (σ.1 55).toNatClampNeg (0 : Int64))) (vf_upd (σ.2.2.2) (σ.1 55).toNatClampNeg FP.dconst0)) 55 n15) H := hP
                  refine lv_iload hx hb dX12_loads_206 (lv_at hl 0 rfl) ?_
                  refine lv_if_lt (tgt := 223) hx hb dX12_loads_208 (by decide) (fun c16 => ?_) (fun c16 => ?_)
                  · have c16 : r13.toInt < 0 := by have h := z_lt c16; rw [show (0 : Int32).toInt = 0 from by decide +kernel] at h; exact h
                    exact r_retv C ⟨(upd (σ.2.1 51) (σ.1 55).toNatClampNeg (0 : Int32)), (vp_updL (σ.2.2.1 52) (σ.1 55).toNatClampNeg (0 : Int64)), (vp_updL (σ.2.2.1 53) (σ.1 55).toNatClampNeg (0 : Int64)), (vf_upd (σ.2.2.2) (σ.1 55).toNatClampNeg FP.dconst0), n15⟩ ⟨(v_loads_7 σ n15 hpre_0 hpre_1 hpre_2 hpre_3 hpre_4 hpre_5 hpre_6 hpre_9 hpre_10 hpre_13 hpre_14 hr14), (v_loads_8 σ k0 k1 x12 r13 n15 hpre_0 hpre_1 hpre_2 hpre_3 hpre_4 hpre_5 hpre_6 hpre_7 hpre_8 hpre_9 hpre_10 hpre_11 hpre_12 hpre_13 hpre_14 c1 c2 c3 c4 c5 c9 c10 c11 ex12 tx12 hr13y hr13 hr14 c16)⟩ hP hS dX12_loads_223
                  · have c16 : 0 ≤ r13.toInt := by have h := z_nlt c16; rw [show (0 : Int32).toInt = 0 from by decide +kernel] at h; exact h
                    refine lv_aload_n hx hb dX12_loads_211 rfl (lv_at hl 1 rfl) ?_
                    refine lv_iload hx hb dX12_loads_212 (lv_at hl 0 rfl) ?_
                    refine lv_aload_n hx hb dX12_loads_214 rfl (lv_at hl 1 rfl) ?_
                    refine rg_55 (v := n15) C hP rfl wm_212 dX12_loads_215 ?_
                    refine lv_iconst (v := 1) hx hb dX12_loads_218 (by decide +kernel) ?_
                    refine lv_isub hx hb dX12_loads_219 ?_
                    refine lv_topi (fun x17 ex17 => ?_)
                    have tx17 : x17.toInt = n15.toInt - 1 := (v_loads_9 σ n15 x17 hpre_0 hpre_1 hpre_2 hpre_3 hpre_4 hpre_5 hpre_6 hpre_9 hpre_10 hpre_13 hpre_14 hr14 ex17)
                    refine r_callVv (As := [.int r13, .int x17]) (rest := []) C hP hS hl.1 ⟨Nat.zero_le _, Nat.zero_le _⟩ (M_copy l D cy sz0 sa ad (rS (rR (rJ (rJ (rA σ 51 (upd (σ.2.1 51) (σ.1 55).toNatClampNeg (0 : Int32))) 52 (vp_updL (σ.2.2.1 52) (σ.1 55).toNatClampNeg (0 : Int64))) 53 (vp_updL (σ.2.2.1 53) (σ.1 55).toNatClampNeg (0 : Int64))) (vf_upd (σ.2.2.2) (σ.1 55).toNatClampNeg FP.dconst0)) 55 n15) H.size r13 x17 (v_loads_10 σ r13 n15 x17 hpre_0 hpre_1 hpre_2 hpre_3 hpre_4 hpre_5 hpre_6 hpre_9 hpre_10 hpre_13 hpre_14 hr13 hr14 c16 ex17 tx17)) (n := 2) ⟨wm_314, wm_210, by decide +kernel⟩ ⟨wm_315, wm_316, wm_10⟩ rfl rfl (lv_room (Nat.le_of_ble_eq_true rfl)) ⟨Nat.le_of_ble_eq_true rfl, Nat.le_of_ble_eq_true rfl⟩ dX12_loads_220 (fun u H locs hr18 hP hS => ?_)
                    have hr18 : True := hr18
                    have hP : RP D cy ad (rR (rJ (rJ (rA (rS (rR (rJ (rJ (rA σ 51 (upd (σ.2.1 51) (σ.1 55).toNatClampNeg (0 : Int32))) 52 (vp_updL (σ.2.2.1 52) (σ.1 55).toNatClampNeg (0 : Int64))) 53 (vp_updL (σ.2.2.1 53) (σ.1 55).toNatClampNeg (0 : Int64))) (vf_upd (σ.2.2.2) (σ.1 55).toNatClampNeg FP.dconst0)) 55 n15) 51 (upd (upd (σ.2.1 51) (σ.1 55).toNatClampNeg (0 : Int32)) x17.toNatClampNeg ((upd (σ.2.1 51) (σ.1 55).toNatClampNeg (0 : Int32)) r13.toNatClampNeg))) 52 (vp_updL (vp_updL (σ.2.2.1 52) (σ.1 55).toNatClampNeg (0 : Int64)) x17.toNatClampNeg ((vp_updL (σ.2.2.1 52) (σ.1 55).toNatClampNeg (0 : Int64)) r13.toNatClampNeg))) 53 (vp_updL (vp_updL (σ.2.2.1 53) (σ.1 55).toNatClampNeg (0 : Int64)) x17.toNatClampNeg ((vp_updL (σ.2.2.1 53) (σ.1 55).toNatClampNeg (0 : Int64)) r13.toNatClampNeg))) (vf_upd (vf_upd (σ.2.2.2) (σ.1 55).toNatClampNeg FP.dconst0) x17.toNatClampNeg ((vf_upd (σ.2.2.2) (σ.1 55).toNatClampNeg FP.dconst0) r13.toNatClampNeg))) H := hP
                    have hP : RP D cy ad (rS (rR (rJ (rJ (rA σ 51 (upd (upd (σ.2.1 51) (σ.1 55).toNatClampNeg (0 : Int32)) x17.toNatClampNeg ((upd (σ.2.1 51) (σ.1 55).toNatClampNeg (0 : Int32)) r13.toNatClampNeg))) 52 (vp_updL (vp_updL (σ.2.2.1 52) (σ.1 55).toNatClampNeg (0 : Int64)) x17.toNatClampNeg ((vp_updL (σ.2.2.1 52) (σ.1 55).toNatClampNeg (0 : Int64)) r13.toNatClampNeg))) 53 (vp_updL (vp_updL (σ.2.2.1 53) (σ.1 55).toNatClampNeg (0 : Int64)) x17.toNatClampNeg ((vp_updL (σ.2.2.1 53) (σ.1 55).toNatClampNeg (0 : Int64)) r13.toNatClampNeg))) (vf_upd (vf_upd (σ.2.2.2) (σ.1 55).toNatClampNeg FP.dconst0) x17.toNatClampNeg ((vf_upd (σ.2.2.2) (σ.1 55).toNatClampNeg FP.dconst0) r13.toNatClampNeg))) 55 n15) H := RP.cong hP (Eq.trans (b := (σ.1 0)) rfl rfl) (Eq.trans (b := (σ.1 1)) rfl rfl) (Eq.trans (b := (σ.2.1 2)) rfl rfl) (Eq.trans (b := (σ.1 3)) rfl rfl) (Eq.trans (b := (σ.2.1 4)) rfl rfl) (Eq.trans (b := (σ.2.1 5)) rfl rfl) (Eq.trans (b := (σ.2.2.1 6)) rfl rfl) (Eq.trans (b := (σ.2.1 7)) rfl rfl) (Eq.trans (b := (σ.1 8)) rfl rfl) (Eq.trans (b := (σ.1 9)) rfl rfl) (Eq.trans (b := (σ.1 10)) rfl rfl) (Eq.trans (b := (σ.2.1 11)) rfl rfl) (Eq.trans (b := (σ.2.2.1 12)) rfl rfl) (Eq.trans (b := (σ.2.1 13)) rfl rfl) (Eq.trans (b := (σ.1 14)) rfl rfl) (Eq.trans (b := (σ.1 15)) rfl rfl) (Eq.trans (b := (σ.1 16)) rfl rfl) (Eq.trans (b := (σ.1 17)) rfl rfl) (Eq.trans (b := (σ.1 18)) rfl rfl) (Eq.trans (b := (σ.1 19)) rfl rfl) (Eq.trans (b := (σ.2.1 20)) rfl rfl) (Eq.trans (b := (σ.2.1 21)) rfl rfl) (Eq.trans (b := (σ.2.1 22)) rfl rfl) (Eq.trans (b := (σ.2.1 23)) rfl rfl) (Eq.trans (b := (σ.2.1 24)) rfl rfl) (Eq.trans (b := (σ.2.1 25)) rfl rfl) (Eq.trans (b := (σ.2.1 26)) rfl rfl) (Eq.trans (b := (σ.2.1 27)) rfl rfl) (Eq.trans (b := (σ.2.1 28)) rfl rfl) (Eq.trans (b := (σ.1 29)) rfl rfl) (Eq.trans (b := (σ.2.1 30)) rfl rfl) (Eq.trans (b := (σ.2.1 31)) rfl rfl) (Eq.trans (b := (σ.2.1 32)) rfl rfl) (Eq.trans (b := (σ.1 33)) rfl rfl) (Eq.trans (b := (σ.1 34)) rfl rfl) (Eq.trans (b := (σ.1 35)) rfl rfl) (Eq.trans (b := (σ.2.1 36)) rfl rfl) (Eq.trans (b := (σ.2.1 37)) rfl rfl) (Eq.trans (b := (σ.2.1 38)) rfl rfl) (Eq.trans (b := (σ.2.1 39)) rfl rfl) (Eq.trans (b := (σ.2.1 40)) rfl rfl) (Eq.trans (b := (σ.2.1 41)) rfl rfl) (Eq.trans (b := (σ.2.1 42)) rfl rfl) (Eq.trans (b := (σ.2.1 43)) rfl rfl) (Eq.trans (b := (σ.2.1 44)) rfl rfl) (Eq.trans (b := (σ.2.1 45)) rfl rfl) (Eq.trans (b := (σ.2.1 46)) rfl rfl) (Eq.trans (b := (σ.1 47)) rfl rfl) (Eq.trans (b := (σ.2.1 48)) rfl rfl) (Eq.trans (b := (σ.1 49)) rfl rfl) (Eq.trans (b := (σ.2.1 50)) rfl rfl) (Eq.trans (b := (upd (upd (σ.2.1 51) (σ.1 55).toNatClampNeg (0 : Int32)) x17.toNatClampNeg ((upd (σ.2.1 51) (σ.1 55).toNatClampNeg (0 : Int32)) r13.toNatClampNeg))) rfl rfl) (Eq.trans (b := (vp_updL (vp_updL (σ.2.2.1 52) (σ.1 55).toNatClampNeg (0 : Int64)) x17.toNatClampNeg ((vp_updL (σ.2.2.1 52) (σ.1 55).toNatClampNeg (0 : Int64)) r13.toNatClampNeg))) rfl rfl) (Eq.trans (b := (vp_updL (vp_updL (σ.2.2.1 53) (σ.1 55).toNatClampNeg (0 : Int64)) x17.toNatClampNeg ((vp_updL (σ.2.2.1 53) (σ.1 55).toNatClampNeg (0 : Int64)) r13.toNatClampNeg))) rfl rfl) (Eq.trans (b := (vf_upd (vf_upd (σ.2.2.2) (σ.1 55).toNatClampNeg FP.dconst0) x17.toNatClampNeg ((vf_upd (σ.2.2.2) (σ.1 55).toNatClampNeg FP.dconst0) r13.toNatClampNeg))) rfl rfl) (Eq.trans (b := n15) rfl rfl) (Eq.trans (b := (σ.1 56)) rfl rfl) (Eq.trans (b := (σ.1 57)) rfl rfl) (Eq.trans (b := (σ.2.1 58)) rfl rfl) (Eq.trans (b := (σ.1 59)) rfl rfl)
                    exact r_retv C ⟨(upd (upd (σ.2.1 51) (σ.1 55).toNatClampNeg (0 : Int32)) x17.toNatClampNeg ((upd (σ.2.1 51) (σ.1 55).toNatClampNeg (0 : Int32)) r13.toNatClampNeg)), (vp_updL (vp_updL (σ.2.2.1 52) (σ.1 55).toNatClampNeg (0 : Int64)) x17.toNatClampNeg ((vp_updL (σ.2.2.1 52) (σ.1 55).toNatClampNeg (0 : Int64)) r13.toNatClampNeg)), (vp_updL (vp_updL (σ.2.2.1 53) (σ.1 55).toNatClampNeg (0 : Int64)) x17.toNatClampNeg ((vp_updL (σ.2.2.1 53) (σ.1 55).toNatClampNeg (0 : Int64)) r13.toNatClampNeg)), (vf_upd (vf_upd (σ.2.2.2) (σ.1 55).toNatClampNeg FP.dconst0) x17.toNatClampNeg ((vf_upd (σ.2.2.2) (σ.1 55).toNatClampNeg FP.dconst0) r13.toNatClampNeg)), n15⟩ ⟨(v_loads_11 σ r13 n15 x17 hpre_0 hpre_1 hpre_2 hpre_3 hpre_4 hpre_5 hpre_6 hpre_9 hpre_10 hpre_13 hpre_14 hr13 hr14 c16 ex17 tx17), (v_loads_12 σ k0 k1 x12 r13 n15 x17 hpre_0 hpre_1 hpre_2 hpre_3 hpre_4 hpre_5 hpre_6 hpre_7 hpre_8 hpre_9 hpre_10 hpre_11 hpre_12 hpre_13 hpre_14 c1 c2 c3 c4 c5 c9 c10 c11 ex12 tx12 hr13y hr13 hr14 c16 ex17 tx17)⟩ hP hS dX12_loads_223
                · have c11 : k0.toInt = 10 := by have h := z_eq c11; rw [show (10 : Int32).toInt = 10 from by decide +kernel] at h; exact h
                  refine lv_aload_n hx hb dX12_loads_146 rfl (lv_at hl 0 rfl) ?_
                  refine lv_aload_n hx hb dX12_loads_147 rfl (lv_at hl 0 rfl) ?_
                  refine rg_57 (v := (σ.1 57)) C hP rfl wm_367 dX12_loads_148 ?_
                  refine lv_if_ge (tgt := 158) hx hb dX12_loads_151 (by decide) (fun c19 => ?_) (fun c19 => ?_)
                  · have c19 : 0 ≤ (σ.1 57).toInt := by have h := z_le c19; rw [show (0 : Int32).toInt = 0 from by decide +kernel] at h; exact h
                    refine lv_bipush (v := 8) hx hb dX12_loads_158 (by decide +kernel) ?_
                    refine lv_aload_n hx hb dX12_loads_160 rfl (lv_at hl 0 rfl) ?_
                    refine rg_48 C hP wm_201 dX12_loads_161 ?_
                    refine lv_aload_n hx hb dX12_loads_164 rfl (lv_at hl 0 rfl) ?_
                    refine rg_57 (v := (σ.1 57)) C hP rfl wm_367 dX12_loads_165 ?_
                    refine ra_48 (f := (σ.2.1 48)) C hP rfl (v_loads_13 σ hpre_0 hpre_1 hpre_2 hpre_3 hpre_4 hpre_5 hpre_6 hpre_9 hpre_10 hpre_13 hpre_14 c19) dX12_loads_168 (fun x20 ex20 => ?_)
                    have tx20 : x20.toInt = ((σ.2.1 48) (σ.1 57).toNatClampNeg).toInt := by rw [ex20]
                    refine lv_iadd hx hb dX12_loads_169 ?_
                    refine lv_topi (fun x21 ex21 => ?_)
                    have tx21 : x21.toInt = 8 + x20.toInt := (v_loads_14 σ x20 x21 hpre_0 hpre_1 hpre_2 hpre_3 hpre_4 hpre_5 hpre_6 hpre_9 hpre_10 hpre_13 hpre_14 c19 ex20 tx20 ex21)
                    refine lv_aload_n hx hb dX12_loads_170 rfl (lv_at hl 0 rfl) ?_
                    refine rg_57 (v := (σ.1 57)) C hP rfl wm_367 dX12_loads_171 ?_
                    refine lv_if_ge (tgt := 181) hx hb dX12_loads_174 (by decide) (fun c22 => ?_) (fun c22 => ?_)
                    · have c22 : 0 ≤ (σ.1 57).toInt := by have h := z_le c22; rw [show (0 : Int32).toInt = 0 from by decide +kernel] at h; exact h
                      refine lv_aload_n hx hb dX12_loads_181 rfl (lv_at hl 0 rfl) ?_
                      refine rg_57 (v := (σ.1 57)) C hP rfl wm_367 dX12_loads_182 ?_
                      refine lv_i2l hx hb dX12_loads_185 rfl ?_
                      refine lv_topl (fun x23 ex23 => ?_)
                      have tx23 : x23.toInt = (σ.1 57).toInt := by rw [ex23]; exact Int32.toInt_toInt64 _
                      refine r_callVv (As := [.int x21, .long x23]) (rest := []) C hP hS hl.1 ⟨Nat.zero_le _, Nat.zero_le _⟩ (M_push l D cy sz0 sa ad σ s.heap.size x21 x23 (v_loads_15 σ x20 x21 x23 hpre_0 hpre_1 hpre_2 hpre_3 hpre_4 hpre_5 hpre_6 hpre_9 hpre_10 hpre_13 hpre_14 c19 ex20 tx20 ex21 tx21 c22 ex23 tx23)) (n := 2) ⟨wm_368, wm_211, by decide +kernel⟩ ⟨wm_369, wm_370, wm_10⟩ rfl rfl (lv_room (Nat.le_of_ble_eq_true rfl)) ⟨Nat.le_of_ble_eq_true rfl, Nat.le_of_ble_eq_true rfl⟩ dX12_loads_186 (fun u H locs hr24 hP hS => ?_)
                      obtain ⟨n25, rfl⟩ : ∃ z, z = u := ⟨_, rfl⟩
                      have hr24 : n25.toInt = (σ.1 55).toInt + 1 := hr24
                      have hP : RP D cy ad (rS (rR (rJ (rJ (rA σ 51 (upd (σ.2.1 51) (σ.1 55).toNatClampNeg x21)) 52 (vp_updL (σ.2.2.1 52) (σ.1 55).toNatClampNeg x23)) 53 (vp_updL (σ.2.2.1 53) (σ.1 55).toNatClampNeg (0 : Int64))) (vf_upd (σ.2.2.2) (σ.1 55).toNatClampNeg FP.dconst0)) 55 n25) H := hP
                      refine lv_goto (tgt := 223) hx hb dX12_loads_189 (by decide) ?_
                      exact r_retv C ⟨(upd (σ.2.1 51) (σ.1 55).toNatClampNeg x21), (vp_updL (σ.2.2.1 52) (σ.1 55).toNatClampNeg x23), (vp_updL (σ.2.2.1 53) (σ.1 55).toNatClampNeg (0 : Int64)), (vf_upd (σ.2.2.2) (σ.1 55).toNatClampNeg FP.dconst0), n25⟩ ⟨(v_loads_16 σ x20 x21 x23 n25 hpre_0 hpre_1 hpre_2 hpre_3 hpre_4 hpre_5 hpre_6 hpre_9 hpre_10 hpre_13 hpre_14 c19 ex20 tx20 ex21 tx21 c22 ex23 tx23 hr24), (v_loads_17 σ k0 k1 x20 x21 x23 n25 hpre_0 hpre_1 hpre_2 hpre_3 hpre_4 hpre_5 hpre_6 hpre_7 hpre_8 hpre_9 hpre_10 hpre_11 hpre_12 hpre_13 hpre_14 c1 c2 c3 c4 c5 c9 c10 c11 c19 ex20 tx20 ex21 tx21 c22 ex23 tx23 hr24)⟩ hP hS dX12_loads_223
                    · have c22 : (σ.1 57).toInt < 0 := by have h := z_nle c22; rw [show (0 : Int32).toInt = 0 from by decide +kernel] at h; exact h
                      exact absurd (v_loads_18 σ x20 hpre_9 hpre_10 c19 ex20 tx20 c22) id
                  · have c19 : (σ.1 57).toInt < 0 := by have h := z_nle c19; rw [show (0 : Int32).toInt = 0 from by decide +kernel] at h; exact h
                    refine lv_iconst (v := 0) hx hb dX12_loads_154 (by decide +kernel) ?_
                    refine lv_goto (tgt := 170) hx hb dX12_loads_155 (by decide) ?_
                    refine lv_aload_n hx hb dX12_loads_170 rfl (lv_at hl 0 rfl) ?_
                    refine rg_57 (v := (σ.1 57)) C hP rfl wm_367 dX12_loads_171 ?_
                    refine lv_if_ge (tgt := 181) hx hb dX12_loads_174 (by decide) (fun c26 => ?_) (fun c26 => ?_)
                    · have c26 : 0 ≤ (σ.1 57).toInt := by have h := z_le c26; rw [show (0 : Int32).toInt = 0 from by decide +kernel] at h; exact h
                      exact absurd (v_loads_19 σ hpre_9 hpre_10 c19 c26) id
                    · have c26 : (σ.1 57).toInt < 0 := by have h := z_nle c26; rw [show (0 : Int32).toInt = 0 from by decide +kernel] at h; exact h
                      refine lv_lconst (v := 0) hx hb dX12_loads_177 rfl ?_
                      refine lv_goto (tgt := 186) hx hb dX12_loads_178 (by decide) ?_
                      refine r_callVv (As := [.int 0, .long 0]) (rest := []) C hP hS hl.1 ⟨Nat.zero_le _, Nat.zero_le _⟩ (M_push l D cy sz0 sa ad σ s.heap.size (0 : Int32) (0 : Int64) (v_loads_20 σ hpre_0 hpre_1 hpre_2 hpre_3 hpre_4 hpre_5 hpre_6 hpre_9 hpre_10 hpre_13 hpre_14 c19 c26)) (n := 2) ⟨wm_368, wm_211, by decide +kernel⟩ ⟨wm_369, wm_370, wm_10⟩ rfl rfl (lv_room (Nat.le_of_ble_eq_true rfl)) ⟨Nat.le_of_ble_eq_true rfl, Nat.le_of_ble_eq_true rfl⟩ dX12_loads_186 (fun u H locs hr27 hP hS => ?_)
                      obtain ⟨n28, rfl⟩ : ∃ z, z = u := ⟨_, rfl⟩
                      have hr27 : n28.toInt = (σ.1 55).toInt + 1 := hr27
                      have hP : RP D cy ad (rS (rR (rJ (rJ (rA σ 51 (upd (σ.2.1 51) (σ.1 55).toNatClampNeg (0 : Int32))) 52 (vp_updL (σ.2.2.1 52) (σ.1 55).toNatClampNeg (0 : Int64))) 53 (vp_updL (σ.2.2.1 53) (σ.1 55).toNatClampNeg (0 : Int64))) (vf_upd (σ.2.2.2) (σ.1 55).toNatClampNeg FP.dconst0)) 55 n28) H := hP
                      refine lv_goto (tgt := 223) hx hb dX12_loads_189 (by decide) ?_
                      exact r_retv C ⟨(upd (σ.2.1 51) (σ.1 55).toNatClampNeg (0 : Int32)), (vp_updL (σ.2.2.1 52) (σ.1 55).toNatClampNeg (0 : Int64)), (vp_updL (σ.2.2.1 53) (σ.1 55).toNatClampNeg (0 : Int64)), (vf_upd (σ.2.2.2) (σ.1 55).toNatClampNeg FP.dconst0), n28⟩ ⟨(v_loads_21 σ n28 hpre_0 hpre_1 hpre_2 hpre_3 hpre_4 hpre_5 hpre_6 hpre_9 hpre_10 hpre_13 hpre_14 c19 c26 hr27), (v_loads_22 σ k0 k1 n28 hpre_0 hpre_1 hpre_2 hpre_3 hpre_4 hpre_5 hpre_6 hpre_7 hpre_8 hpre_9 hpre_10 hpre_11 hpre_12 hpre_13 hpre_14 c1 c2 c3 c4 c5 c9 c10 c11 c19 c26 hr27)⟩ hP hS dX12_loads_223
              · have c10 : k0.toInt = 8 := by have h := z_eq c10; rw [show (8 : Int32).toInt = 8 from by decide +kernel] at h; exact h
                refine lv_aload_n hx hb dX12_loads_131 rfl (lv_at hl 0 rfl) ?_
                refine lv_iconst (v := 0) hx hb dX12_loads_132 (by decide +kernel) ?_
                refine lv_lconst (v := 0) hx hb dX12_loads_133 rfl ?_
                refine r_callVv (As := [.int 0, .long 0]) (rest := []) C hP hS hl.1 ⟨Nat.zero_le _, Nat.zero_le _⟩ (M_push l D cy sz0 sa ad σ s.heap.size (0 : Int32) (0 : Int64) (v_loads_3 σ hpre_0 hpre_1 hpre_2 hpre_3 hpre_4 hpre_5 hpre_6 hpre_9 hpre_10 hpre_13 hpre_14)) (n := 2) ⟨wm_368, wm_211, by decide +kernel⟩ ⟨wm_369, wm_370, wm_10⟩ rfl rfl (lv_room (Nat.le_of_ble_eq_true rfl)) ⟨Nat.le_of_ble_eq_true rfl, Nat.le_of_ble_eq_true rfl⟩ dX12_loads_134 (fun u H locs hr29 hP hS => ?_)
                obtain ⟨n30, rfl⟩ : ∃ z, z = u := ⟨_, rfl⟩
                have hr29 : n30.toInt = (σ.1 55).toInt + 1 := hr29
                have hP : RP D cy ad (rS (rR (rJ (rJ (rA σ 51 (upd (σ.2.1 51) (σ.1 55).toNatClampNeg (0 : Int32))) 52 (vp_updL (σ.2.2.1 52) (σ.1 55).toNatClampNeg (0 : Int64))) 53 (vp_updL (σ.2.2.1 53) (σ.1 55).toNatClampNeg (0 : Int64))) (vf_upd (σ.2.2.2) (σ.1 55).toNatClampNeg FP.dconst0)) 55 n30) H := hP
                refine lv_goto (tgt := 223) hx hb dX12_loads_137 (by decide) ?_
                exact r_retv C ⟨(upd (σ.2.1 51) (σ.1 55).toNatClampNeg (0 : Int32)), (vp_updL (σ.2.2.1 52) (σ.1 55).toNatClampNeg (0 : Int64)), (vp_updL (σ.2.2.1 53) (σ.1 55).toNatClampNeg (0 : Int64)), (vf_upd (σ.2.2.2) (σ.1 55).toNatClampNeg FP.dconst0), n30⟩ ⟨(v_loads_23 σ n30 hpre_0 hpre_1 hpre_2 hpre_3 hpre_4 hpre_5 hpre_6 hpre_9 hpre_10 hpre_13 hpre_14 hr29), (v_loads_24 σ k0 k1 n30 hpre_0 hpre_1 hpre_2 hpre_3 hpre_4 hpre_5 hpre_6 hpre_7 hpre_8 hpre_9 hpre_10 hpre_11 hpre_12 hpre_13 hpre_14 c1 c2 c3 c4 c5 c9 c10 hr29)⟩ hP hS dX12_loads_223
            · have c9 : k0.toInt = 7 := by have h := z_eq c9; rw [show (7 : Int32).toInt = 7 from by decide +kernel] at h; exact h
              refine lv_aload_n hx hb dX12_loads_106 rfl (lv_at hl 0 rfl) ?_
              refine lv_iconst (v := 1) hx hb dX12_loads_107 (by decide +kernel) ?_
              refine lv_iload_n hx hb dX12_loads_108 rfl (lv_at hl 1 rfl) ?_
              refine lv_bipush (v := 6) hx hb dX12_loads_109 (by decide +kernel) ?_
              refine lv_icmp_ne (tgt := 118) hx hb dX12_loads_111 (by decide) (fun c31 => ?_) (fun c31 => ?_)
              · have c31 : ¬ k0.toInt = 6 := by have h := z_ne c31; rw [show (6 : Int32).toInt = 6 from by decide +kernel] at h; exact h
                refine lv_lconst (v := 0) hx hb dX12_loads_118 rfl ?_
                refine r_callVv (As := [.int 1, .long 0]) (rest := []) C hP hS hl.1 ⟨Nat.zero_le _, Nat.zero_le _⟩ (M_push l D cy sz0 sa ad σ s.heap.size (1 : Int32) (0 : Int64) (v_loads_3 σ hpre_0 hpre_1 hpre_2 hpre_3 hpre_4 hpre_5 hpre_6 hpre_9 hpre_10 hpre_13 hpre_14)) (n := 2) ⟨wm_368, wm_211, by decide +kernel⟩ ⟨wm_369, wm_370, wm_10⟩ rfl rfl (lv_room (Nat.le_of_ble_eq_true rfl)) ⟨Nat.le_of_ble_eq_true rfl, Nat.le_of_ble_eq_true rfl⟩ dX12_loads_119 (fun u H locs hr32 hP hS => ?_)
                obtain ⟨n33, rfl⟩ : ∃ z, z = u := ⟨_, rfl⟩
                have hr32 : n33.toInt = (σ.1 55).toInt + 1 := hr32
                have hP : RP D cy ad (rS (rR (rJ (rJ (rA σ 51 (upd (σ.2.1 51) (σ.1 55).toNatClampNeg (1 : Int32))) 52 (vp_updL (σ.2.2.1 52) (σ.1 55).toNatClampNeg (0 : Int64))) 53 (vp_updL (σ.2.2.1 53) (σ.1 55).toNatClampNeg (0 : Int64))) (vf_upd (σ.2.2.2) (σ.1 55).toNatClampNeg FP.dconst0)) 55 n33) H := hP
                refine lv_goto (tgt := 223) hx hb dX12_loads_122 (by decide) ?_
                exact r_retv C ⟨(upd (σ.2.1 51) (σ.1 55).toNatClampNeg (1 : Int32)), (vp_updL (σ.2.2.1 52) (σ.1 55).toNatClampNeg (0 : Int64)), (vp_updL (σ.2.2.1 53) (σ.1 55).toNatClampNeg (0 : Int64)), (vf_upd (σ.2.2.2) (σ.1 55).toNatClampNeg FP.dconst0), n33⟩ ⟨(v_loads_25 σ n33 hpre_0 hpre_1 hpre_2 hpre_3 hpre_4 hpre_5 hpre_6 hpre_9 hpre_10 hpre_13 hpre_14 hr32), (v_loads_26 σ k0 k1 n33 hpre_0 hpre_1 hpre_2 hpre_3 hpre_4 hpre_5 hpre_6 hpre_7 hpre_8 hpre_9 hpre_10 hpre_11 hpre_12 hpre_13 hpre_14 c1 c2 c3 c4 c5 c9 c31 hr32)⟩ hP hS dX12_loads_223
              · have c31 : k0.toInt = 6 := by have h := z_eq c31; rw [show (6 : Int32).toInt = 6 from by decide +kernel] at h; exact h
                exact absurd (v_loads_27 k0 hpre_11 hpre_12 c1 c2 c3 c4 c5 c9 c31) id
        · have c4 : k0.toInt = 5 := by have h := z_eq c4; rw [show (5 : Int32).toInt = 5 from by decide +kernel] at h; exact h
          refine lv_aload_n hx hb dX12_loads_85 rfl (lv_at hl 0 rfl) ?_
          refine lv_iconst (v := 4) hx hb dX12_loads_86 (by decide +kernel) ?_
          refine lv_lload_n hx hb dX12_loads_87 rfl (lv_at hl 2 rfl) ?_
          refine r_callVv (As := [.int 4, .long k1]) (rest := []) C hP hS hl.1 ⟨Nat.zero_le _, Nat.zero_le _⟩ (M_push l D cy sz0 sa ad σ s.heap.size (4 : Int32) k1 (v_loads_3 σ hpre_0 hpre_1 hpre_2 hpre_3 hpre_4 hpre_5 hpre_6 hpre_9 hpre_10 hpre_13 hpre_14)) (n := 2) ⟨wm_368, wm_211, by decide +kernel⟩ ⟨wm_369, wm_370, wm_10⟩ rfl rfl (lv_room (Nat.le_of_ble_eq_true rfl)) ⟨Nat.le_of_ble_eq_true rfl, Nat.le_of_ble_eq_true rfl⟩ dX12_loads_88 (fun u H locs hr34 hP hS => ?_)
          obtain ⟨n35, rfl⟩ : ∃ z, z = u := ⟨_, rfl⟩
          have hr34 : n35.toInt = (σ.1 55).toInt + 1 := hr34
          have hP : RP D cy ad (rS (rR (rJ (rJ (rA σ 51 (upd (σ.2.1 51) (σ.1 55).toNatClampNeg (4 : Int32))) 52 (vp_updL (σ.2.2.1 52) (σ.1 55).toNatClampNeg k1)) 53 (vp_updL (σ.2.2.1 53) (σ.1 55).toNatClampNeg (0 : Int64))) (vf_upd (σ.2.2.2) (σ.1 55).toNatClampNeg FP.dconst0)) 55 n35) H := hP
          refine lv_goto (tgt := 223) hx hb dX12_loads_91 (by decide) ?_
          exact r_retv C ⟨(upd (σ.2.1 51) (σ.1 55).toNatClampNeg (4 : Int32)), (vp_updL (σ.2.2.1 52) (σ.1 55).toNatClampNeg k1), (vp_updL (σ.2.2.1 53) (σ.1 55).toNatClampNeg (0 : Int64)), (vf_upd (σ.2.2.2) (σ.1 55).toNatClampNeg FP.dconst0), n35⟩ ⟨(v_loads_28 σ k1 n35 hpre_0 hpre_1 hpre_2 hpre_3 hpre_4 hpre_5 hpre_6 hpre_9 hpre_10 hpre_13 hpre_14 hr34), (v_loads_29 σ k0 k1 n35 hpre_0 hpre_1 hpre_2 hpre_3 hpre_4 hpre_5 hpre_6 hpre_7 hpre_8 hpre_9 hpre_10 hpre_11 hpre_12 hpre_13 hpre_14 c1 c2 c3 c4 hr34)⟩ hP hS dX12_loads_223
      · have c3 : k0.toInt < 5 := by have h := z_nle c3; rw [show (5 : Int32).toInt = 5 from by decide +kernel] at h; exact h
        refine lv_iload_n hx hb dX12_loads_24 rfl (lv_at hl 1 rfl) ?_
        refine lv_iconst (v := 2) hx hb dX12_loads_25 (by decide +kernel) ?_
        refine lv_icmp_ne (tgt := 35) hx hb dX12_loads_26 (by decide) (fun c36 => ?_) (fun c36 => ?_)
        · have c36 : ¬ k0.toInt = 2 := by have h := z_ne c36; rw [show (2 : Int32).toInt = 2 from by decide +kernel] at h; exact h
          refine lv_iload_n hx hb dX12_loads_35 rfl (lv_at hl 1 rfl) ?_
          refine lv_iconst (v := 3) hx hb dX12_loads_36 (by decide +kernel) ?_
          refine lv_icmp_ne (tgt := 46) hx hb dX12_loads_37 (by decide) (fun c37 => ?_) (fun c37 => ?_)
          · have c37 : ¬ k0.toInt = 3 := by have h := z_ne c37; rw [show (3 : Int32).toInt = 3 from by decide +kernel] at h; exact h
            refine lv_ldc2d (v := 4652007308841189376) hx hb hown (hw _ wm_366) dX12_loads_46 ?_
            refine lv_dstore (lv' := [(4, .double (4652007308841189376 : UInt64)), (0, .ref (ad 0)), (1, .int k0), (2, .long k1)]) hx hb dX12_loads_49 hl (by decide) rfl (fun ls hl => ?_)
            refine lv_lload_n hx hb dX12_loads_51 rfl (lv_at hl 3 rfl) ?_
            refine lv_l2d hx hb dX12_loads_52 ?_
            refine lv_topd (fun x38 ex38 => ?_)
            refine lv_dload hx hb dX12_loads_53 (lv_at hl 0 rfl) ?_
            refine lv_ddiv hx hb dX12_loads_55 (v_loads_30 k1 x38 ex38) ?_
            refine lv_topd (fun x39 ex39 => ?_)
            refine lv_dstore (lv' := [(6, .double x39), (4, .double (4652007308841189376 : UInt64)), (0, .ref (ad 0)), (1, .int k0), (2, .long k1)]) hx hb dX12_loads_56 hl (by decide) rfl (fun ls hl => ?_)
            refine lv_aload_n hx hb dX12_loads_58 rfl (lv_at hl 2 rfl) ?_
            refine lv_iconst (v := 3) hx hb dX12_loads_59 (by decide +kernel) ?_
            refine lv_lconst (v := 0) hx hb dX12_loads_60 rfl ?_
            refine r_callVv (As := [.int 3, .long 0]) (rest := []) C hP hS hl.1 ⟨Nat.zero_le _, Nat.zero_le _⟩ (M_push l D cy sz0 sa ad σ s.heap.size (3 : Int32) (0 : Int64) (v_loads_3 σ hpre_0 hpre_1 hpre_2 hpre_3 hpre_4 hpre_5 hpre_6 hpre_9 hpre_10 hpre_13 hpre_14)) (n := 2) ⟨wm_368, wm_211, by decide +kernel⟩ ⟨wm_369, wm_370, wm_10⟩ rfl rfl (lv_room (Nat.le_of_ble_eq_true rfl)) ⟨Nat.le_of_ble_eq_true rfl, Nat.le_of_ble_eq_true rfl⟩ dX12_loads_61 (fun u H locs hr40 hP hS => ?_)
            obtain ⟨n41, rfl⟩ : ∃ z, z = u := ⟨_, rfl⟩
            have hr40 : n41.toInt = (σ.1 55).toInt + 1 := hr40
            have hP : RP D cy ad (rS (rR (rJ (rJ (rA σ 51 (upd (σ.2.1 51) (σ.1 55).toNatClampNeg (3 : Int32))) 52 (vp_updL (σ.2.2.1 52) (σ.1 55).toNatClampNeg (0 : Int64))) 53 (vp_updL (σ.2.2.1 53) (σ.1 55).toNatClampNeg (0 : Int64))) (vf_upd (σ.2.2.2) (σ.1 55).toNatClampNeg FP.dconst0)) 55 n41) H := hP
            refine lv_aload_n hx hb dX12_loads_64 rfl (lv_at hl 2 rfl) ?_
            refine rg_54 C hP wm_209 dX12_loads_65 ?_
            refine lv_aload_n hx hb dX12_loads_68 rfl (lv_at hl 2 rfl) ?_
            refine rg_55 (v := n41) C hP rfl wm_212 dX12_loads_69 ?_
            refine lv_iconst (v := 1) hx hb dX12_loads_72 (by decide +kernel) ?_
            refine lv_isub hx hb dX12_loads_73 ?_
            refine lv_topi (fun x42 ex42 => ?_)
            have tx42 : x42.toInt = n41.toInt - 1 := (v_loads_31 σ n41 x42 hpre_0 hpre_1 hpre_2 hpre_3 hpre_4 hpre_5 hpre_6 hpre_9 hpre_10 hpre_13 hpre_14 hr40 ex42)
            refine lv_dload hx hb dX12_loads_74 (lv_at hl 0 rfl) ?_
            refine rw_54 (f := (vf_upd (σ.2.2.2) (σ.1 55).toNatClampNeg FP.dconst0)) C hP hS rfl (v_loads_32 σ n41 x42 hpre_0 hpre_1 hpre_2 hpre_3 hpre_4 hpre_5 hpre_6 hpre_9 hpre_10 hpre_13 hpre_14 hr40 ex42 tx42) dX12_loads_76 (fun H locs hP hS => ?_)
            refine lv_goto (tgt := 223) hx hb dX12_loads_77 (by decide) ?_
            have hP : RP D cy ad (rS (rR (rJ (rJ (rA σ 51 (upd (σ.2.1 51) (σ.1 55).toNatClampNeg (3 : Int32))) 52 (vp_updL (σ.2.2.1 52) (σ.1 55).toNatClampNeg (0 : Int64))) 53 (vp_updL (σ.2.2.1 53) (σ.1 55).toNatClampNeg (0 : Int64))) (vf_upd (vf_upd (σ.2.2.2) (σ.1 55).toNatClampNeg FP.dconst0) x42.toNatClampNeg x39)) 55 n41) H := RP.cong hP (Eq.trans (b := (σ.1 0)) rfl rfl) (Eq.trans (b := (σ.1 1)) rfl rfl) (Eq.trans (b := (σ.2.1 2)) rfl rfl) (Eq.trans (b := (σ.1 3)) rfl rfl) (Eq.trans (b := (σ.2.1 4)) rfl rfl) (Eq.trans (b := (σ.2.1 5)) rfl rfl) (Eq.trans (b := (σ.2.2.1 6)) rfl rfl) (Eq.trans (b := (σ.2.1 7)) rfl rfl) (Eq.trans (b := (σ.1 8)) rfl rfl) (Eq.trans (b := (σ.1 9)) rfl rfl) (Eq.trans (b := (σ.1 10)) rfl rfl) (Eq.trans (b := (σ.2.1 11)) rfl rfl) (Eq.trans (b := (σ.2.2.1 12)) rfl rfl) (Eq.trans (b := (σ.2.1 13)) rfl rfl) (Eq.trans (b := (σ.1 14)) rfl rfl) (Eq.trans (b := (σ.1 15)) rfl rfl) (Eq.trans (b := (σ.1 16)) rfl rfl) (Eq.trans (b := (σ.1 17)) rfl rfl) (Eq.trans (b := (σ.1 18)) rfl rfl) (Eq.trans (b := (σ.1 19)) rfl rfl) (Eq.trans (b := (σ.2.1 20)) rfl rfl) (Eq.trans (b := (σ.2.1 21)) rfl rfl) (Eq.trans (b := (σ.2.1 22)) rfl rfl) (Eq.trans (b := (σ.2.1 23)) rfl rfl) (Eq.trans (b := (σ.2.1 24)) rfl rfl) (Eq.trans (b := (σ.2.1 25)) rfl rfl) (Eq.trans (b := (σ.2.1 26)) rfl rfl) (Eq.trans (b := (σ.2.1 27)) rfl rfl) (Eq.trans (b := (σ.2.1 28)) rfl rfl) (Eq.trans (b := (σ.1 29)) rfl rfl) (Eq.trans (b := (σ.2.1 30)) rfl rfl) (Eq.trans (b := (σ.2.1 31)) rfl rfl) (Eq.trans (b := (σ.2.1 32)) rfl rfl) (Eq.trans (b := (σ.1 33)) rfl rfl) (Eq.trans (b := (σ.1 34)) rfl rfl) (Eq.trans (b := (σ.1 35)) rfl rfl) (Eq.trans (b := (σ.2.1 36)) rfl rfl) (Eq.trans (b := (σ.2.1 37)) rfl rfl) (Eq.trans (b := (σ.2.1 38)) rfl rfl) (Eq.trans (b := (σ.2.1 39)) rfl rfl) (Eq.trans (b := (σ.2.1 40)) rfl rfl) (Eq.trans (b := (σ.2.1 41)) rfl rfl) (Eq.trans (b := (σ.2.1 42)) rfl rfl) (Eq.trans (b := (σ.2.1 43)) rfl rfl) (Eq.trans (b := (σ.2.1 44)) rfl rfl) (Eq.trans (b := (σ.2.1 45)) rfl rfl) (Eq.trans (b := (σ.2.1 46)) rfl rfl) (Eq.trans (b := (σ.1 47)) rfl rfl) (Eq.trans (b := (σ.2.1 48)) rfl rfl) (Eq.trans (b := (σ.1 49)) rfl rfl) (Eq.trans (b := (σ.2.1 50)) rfl rfl) (Eq.trans (b := (upd (σ.2.1 51) (σ.1 55).toNatClampNeg (3 : Int32))) rfl rfl) (Eq.trans (b := (vp_updL (σ.2.2.1 52) (σ.1 55).toNatClampNeg (0 : Int64))) rfl rfl) (Eq.trans (b := (vp_updL (σ.2.2.1 53) (σ.1 55).toNatClampNeg (0 : Int64))) rfl rfl) (Eq.trans (b := (vf_upd (vf_upd (σ.2.2.2) (σ.1 55).toNatClampNeg FP.dconst0) x42.toNatClampNeg x39)) rfl rfl) (Eq.trans (b := n41) rfl rfl) (Eq.trans (b := (σ.1 56)) rfl rfl) (Eq.trans (b := (σ.1 57)) rfl rfl) (Eq.trans (b := (σ.2.1 58)) rfl rfl) (Eq.trans (b := (σ.1 59)) rfl rfl)
            exact r_retv C ⟨(upd (σ.2.1 51) (σ.1 55).toNatClampNeg (3 : Int32)), (vp_updL (σ.2.2.1 52) (σ.1 55).toNatClampNeg (0 : Int64)), (vp_updL (σ.2.2.1 53) (σ.1 55).toNatClampNeg (0 : Int64)), (vf_upd (vf_upd (σ.2.2.2) (σ.1 55).toNatClampNeg FP.dconst0) x42.toNatClampNeg x39), n41⟩ ⟨(v_loads_33 σ k1 x38 x39 n41 x42 hpre_0 hpre_1 hpre_2 hpre_3 hpre_4 hpre_5 hpre_6 hpre_9 hpre_10 hpre_13 hpre_14 ex38 ex39 hr40 ex42 tx42), (v_loads_34 σ k0 k1 x38 x39 n41 x42 hpre_0 hpre_1 hpre_2 hpre_3 hpre_4 hpre_5 hpre_6 hpre_7 hpre_8 hpre_9 hpre_10 hpre_11 hpre_12 hpre_13 hpre_14 c1 c2 c3 c36 c37 ex38 ex39 hr40 ex42 tx42)⟩ hP hS dX12_loads_223
          · have c37 : k0.toInt = 3 := by have h := z_eq c37; rw [show (3 : Int32).toInt = 3 from by decide +kernel] at h; exact h
            refine lv_ldc2d (v := 4636737291354636288) hx hb hown (hw _ wm_365) dX12_loads_40 ?_
            refine lv_goto (tgt := 49) hx hb dX12_loads_43 (by decide) ?_
            refine lv_dstore (lv' := [(4, .double (4636737291354636288 : UInt64)), (0, .ref (ad 0)), (1, .int k0), (2, .long k1)]) hx hb dX12_loads_49 hl (by decide) rfl (fun ls hl => ?_)
            refine lv_lload_n hx hb dX12_loads_51 rfl (lv_at hl 3 rfl) ?_
            refine lv_l2d hx hb dX12_loads_52 ?_
            refine lv_topd (fun x43 ex43 => ?_)
            refine lv_dload hx hb dX12_loads_53 (lv_at hl 0 rfl) ?_
            refine lv_ddiv hx hb dX12_loads_55 (v_loads_35 k1 x43 ex43) ?_
            refine lv_topd (fun x44 ex44 => ?_)
            refine lv_dstore (lv' := [(6, .double x44), (4, .double (4636737291354636288 : UInt64)), (0, .ref (ad 0)), (1, .int k0), (2, .long k1)]) hx hb dX12_loads_56 hl (by decide) rfl (fun ls hl => ?_)
            refine lv_aload_n hx hb dX12_loads_58 rfl (lv_at hl 2 rfl) ?_
            refine lv_iconst (v := 3) hx hb dX12_loads_59 (by decide +kernel) ?_
            refine lv_lconst (v := 0) hx hb dX12_loads_60 rfl ?_
            refine r_callVv (As := [.int 3, .long 0]) (rest := []) C hP hS hl.1 ⟨Nat.zero_le _, Nat.zero_le _⟩ (M_push l D cy sz0 sa ad σ s.heap.size (3 : Int32) (0 : Int64) (v_loads_3 σ hpre_0 hpre_1 hpre_2 hpre_3 hpre_4 hpre_5 hpre_6 hpre_9 hpre_10 hpre_13 hpre_14)) (n := 2) ⟨wm_368, wm_211, by decide +kernel⟩ ⟨wm_369, wm_370, wm_10⟩ rfl rfl (lv_room (Nat.le_of_ble_eq_true rfl)) ⟨Nat.le_of_ble_eq_true rfl, Nat.le_of_ble_eq_true rfl⟩ dX12_loads_61 (fun u H locs hr45 hP hS => ?_)
            obtain ⟨n46, rfl⟩ : ∃ z, z = u := ⟨_, rfl⟩
            have hr45 : n46.toInt = (σ.1 55).toInt + 1 := hr45
            have hP : RP D cy ad (rS (rR (rJ (rJ (rA σ 51 (upd (σ.2.1 51) (σ.1 55).toNatClampNeg (3 : Int32))) 52 (vp_updL (σ.2.2.1 52) (σ.1 55).toNatClampNeg (0 : Int64))) 53 (vp_updL (σ.2.2.1 53) (σ.1 55).toNatClampNeg (0 : Int64))) (vf_upd (σ.2.2.2) (σ.1 55).toNatClampNeg FP.dconst0)) 55 n46) H := hP
            refine lv_aload_n hx hb dX12_loads_64 rfl (lv_at hl 2 rfl) ?_
            refine rg_54 C hP wm_209 dX12_loads_65 ?_
            refine lv_aload_n hx hb dX12_loads_68 rfl (lv_at hl 2 rfl) ?_
            refine rg_55 (v := n46) C hP rfl wm_212 dX12_loads_69 ?_
            refine lv_iconst (v := 1) hx hb dX12_loads_72 (by decide +kernel) ?_
            refine lv_isub hx hb dX12_loads_73 ?_
            refine lv_topi (fun x47 ex47 => ?_)
            have tx47 : x47.toInt = n46.toInt - 1 := (v_loads_36 σ n46 x47 hpre_0 hpre_1 hpre_2 hpre_3 hpre_4 hpre_5 hpre_6 hpre_9 hpre_10 hpre_13 hpre_14 hr45 ex47)
            refine lv_dload hx hb dX12_loads_74 (lv_at hl 0 rfl) ?_
            refine rw_54 (f := (vf_upd (σ.2.2.2) (σ.1 55).toNatClampNeg FP.dconst0)) C hP hS rfl (v_loads_37 σ n46 x47 hpre_0 hpre_1 hpre_2 hpre_3 hpre_4 hpre_5 hpre_6 hpre_9 hpre_10 hpre_13 hpre_14 hr45 ex47 tx47) dX12_loads_76 (fun H locs hP hS => ?_)
            refine lv_goto (tgt := 223) hx hb dX12_loads_77 (by decide) ?_
            have hP : RP D cy ad (rS (rR (rJ (rJ (rA σ 51 (upd (σ.2.1 51) (σ.1 55).toNatClampNeg (3 : Int32))) 52 (vp_updL (σ.2.2.1 52) (σ.1 55).toNatClampNeg (0 : Int64))) 53 (vp_updL (σ.2.2.1 53) (σ.1 55).toNatClampNeg (0 : Int64))) (vf_upd (vf_upd (σ.2.2.2) (σ.1 55).toNatClampNeg FP.dconst0) x47.toNatClampNeg x44)) 55 n46) H := RP.cong hP (Eq.trans (b := (σ.1 0)) rfl rfl) (Eq.trans (b := (σ.1 1)) rfl rfl) (Eq.trans (b := (σ.2.1 2)) rfl rfl) (Eq.trans (b := (σ.1 3)) rfl rfl) (Eq.trans (b := (σ.2.1 4)) rfl rfl) (Eq.trans (b := (σ.2.1 5)) rfl rfl) (Eq.trans (b := (σ.2.2.1 6)) rfl rfl) (Eq.trans (b := (σ.2.1 7)) rfl rfl) (Eq.trans (b := (σ.1 8)) rfl rfl) (Eq.trans (b := (σ.1 9)) rfl rfl) (Eq.trans (b := (σ.1 10)) rfl rfl) (Eq.trans (b := (σ.2.1 11)) rfl rfl) (Eq.trans (b := (σ.2.2.1 12)) rfl rfl) (Eq.trans (b := (σ.2.1 13)) rfl rfl) (Eq.trans (b := (σ.1 14)) rfl rfl) (Eq.trans (b := (σ.1 15)) rfl rfl) (Eq.trans (b := (σ.1 16)) rfl rfl) (Eq.trans (b := (σ.1 17)) rfl rfl) (Eq.trans (b := (σ.1 18)) rfl rfl) (Eq.trans (b := (σ.1 19)) rfl rfl) (Eq.trans (b := (σ.2.1 20)) rfl rfl) (Eq.trans (b := (σ.2.1 21)) rfl rfl) (Eq.trans (b := (σ.2.1 22)) rfl rfl) (Eq.trans (b := (σ.2.1 23)) rfl rfl) (Eq.trans (b := (σ.2.1 24)) rfl rfl) (Eq.trans (b := (σ.2.1 25)) rfl rfl) (Eq.trans (b := (σ.2.1 26)) rfl rfl) (Eq.trans (b := (σ.2.1 27)) rfl rfl) (Eq.trans (b := (σ.2.1 28)) rfl rfl) (Eq.trans (b := (σ.1 29)) rfl rfl) (Eq.trans (b := (σ.2.1 30)) rfl rfl) (Eq.trans (b := (σ.2.1 31)) rfl rfl) (Eq.trans (b := (σ.2.1 32)) rfl rfl) (Eq.trans (b := (σ.1 33)) rfl rfl) (Eq.trans (b := (σ.1 34)) rfl rfl) (Eq.trans (b := (σ.1 35)) rfl rfl) (Eq.trans (b := (σ.2.1 36)) rfl rfl) (Eq.trans (b := (σ.2.1 37)) rfl rfl) (Eq.trans (b := (σ.2.1 38)) rfl rfl) (Eq.trans (b := (σ.2.1 39)) rfl rfl) (Eq.trans (b := (σ.2.1 40)) rfl rfl) (Eq.trans (b := (σ.2.1 41)) rfl rfl) (Eq.trans (b := (σ.2.1 42)) rfl rfl) (Eq.trans (b := (σ.2.1 43)) rfl rfl) (Eq.trans (b := (σ.2.1 44)) rfl rfl) (Eq.trans (b := (σ.2.1 45)) rfl rfl) (Eq.trans (b := (σ.2.1 46)) rfl rfl) (Eq.trans (b := (σ.1 47)) rfl rfl) (Eq.trans (b := (σ.2.1 48)) rfl rfl) (Eq.trans (b := (σ.1 49)) rfl rfl) (Eq.trans (b := (σ.2.1 50)) rfl rfl) (Eq.trans (b := (upd (σ.2.1 51) (σ.1 55).toNatClampNeg (3 : Int32))) rfl rfl) (Eq.trans (b := (vp_updL (σ.2.2.1 52) (σ.1 55).toNatClampNeg (0 : Int64))) rfl rfl) (Eq.trans (b := (vp_updL (σ.2.2.1 53) (σ.1 55).toNatClampNeg (0 : Int64))) rfl rfl) (Eq.trans (b := (vf_upd (vf_upd (σ.2.2.2) (σ.1 55).toNatClampNeg FP.dconst0) x47.toNatClampNeg x44)) rfl rfl) (Eq.trans (b := n46) rfl rfl) (Eq.trans (b := (σ.1 56)) rfl rfl) (Eq.trans (b := (σ.1 57)) rfl rfl) (Eq.trans (b := (σ.2.1 58)) rfl rfl) (Eq.trans (b := (σ.1 59)) rfl rfl)
            exact r_retv C ⟨(upd (σ.2.1 51) (σ.1 55).toNatClampNeg (3 : Int32)), (vp_updL (σ.2.2.1 52) (σ.1 55).toNatClampNeg (0 : Int64)), (vp_updL (σ.2.2.1 53) (σ.1 55).toNatClampNeg (0 : Int64)), (vf_upd (vf_upd (σ.2.2.2) (σ.1 55).toNatClampNeg FP.dconst0) x47.toNatClampNeg x44), n46⟩ ⟨(v_loads_38 σ k1 x43 x44 n46 x47 hpre_0 hpre_1 hpre_2 hpre_3 hpre_4 hpre_5 hpre_6 hpre_9 hpre_10 hpre_13 hpre_14 ex43 ex44 hr45 ex47 tx47), (v_loads_39 σ k0 k1 x43 x44 n46 x47 hpre_0 hpre_1 hpre_2 hpre_3 hpre_4 hpre_5 hpre_6 hpre_7 hpre_8 hpre_9 hpre_10 hpre_11 hpre_12 hpre_13 hpre_14 c1 c2 c3 c36 c37 ex43 ex44 hr45 ex47 tx47)⟩ hP hS dX12_loads_223
        · have c36 : k0.toInt = 2 := by have h := z_eq c36; rw [show (2 : Int32).toInt = 2 from by decide +kernel] at h; exact h
          refine lv_ldc2d (v := 4621819117588971520) hx hb hown (hw _ wm_364) dX12_loads_29 ?_
          refine lv_goto (tgt := 49) hx hb dX12_loads_32 (by decide) ?_
          refine lv_dstore (lv' := [(4, .double (4621819117588971520 : UInt64)), (0, .ref (ad 0)), (1, .int k0), (2, .long k1)]) hx hb dX12_loads_49 hl (by decide) rfl (fun ls hl => ?_)
          refine lv_lload_n hx hb dX12_loads_51 rfl (lv_at hl 3 rfl) ?_
          refine lv_l2d hx hb dX12_loads_52 ?_
          refine lv_topd (fun x48 ex48 => ?_)
          refine lv_dload hx hb dX12_loads_53 (lv_at hl 0 rfl) ?_
          refine lv_ddiv hx hb dX12_loads_55 (v_loads_40 k1 x48 ex48) ?_
          refine lv_topd (fun x49 ex49 => ?_)
          refine lv_dstore (lv' := [(6, .double x49), (4, .double (4621819117588971520 : UInt64)), (0, .ref (ad 0)), (1, .int k0), (2, .long k1)]) hx hb dX12_loads_56 hl (by decide) rfl (fun ls hl => ?_)
          refine lv_aload_n hx hb dX12_loads_58 rfl (lv_at hl 2 rfl) ?_
          refine lv_iconst (v := 3) hx hb dX12_loads_59 (by decide +kernel) ?_
          refine lv_lconst (v := 0) hx hb dX12_loads_60 rfl ?_
          refine r_callVv (As := [.int 3, .long 0]) (rest := []) C hP hS hl.1 ⟨Nat.zero_le _, Nat.zero_le _⟩ (M_push l D cy sz0 sa ad σ s.heap.size (3 : Int32) (0 : Int64) (v_loads_3 σ hpre_0 hpre_1 hpre_2 hpre_3 hpre_4 hpre_5 hpre_6 hpre_9 hpre_10 hpre_13 hpre_14)) (n := 2) ⟨wm_368, wm_211, by decide +kernel⟩ ⟨wm_369, wm_370, wm_10⟩ rfl rfl (lv_room (Nat.le_of_ble_eq_true rfl)) ⟨Nat.le_of_ble_eq_true rfl, Nat.le_of_ble_eq_true rfl⟩ dX12_loads_61 (fun u H locs hr50 hP hS => ?_)
          obtain ⟨n51, rfl⟩ : ∃ z, z = u := ⟨_, rfl⟩
          have hr50 : n51.toInt = (σ.1 55).toInt + 1 := hr50
          have hP : RP D cy ad (rS (rR (rJ (rJ (rA σ 51 (upd (σ.2.1 51) (σ.1 55).toNatClampNeg (3 : Int32))) 52 (vp_updL (σ.2.2.1 52) (σ.1 55).toNatClampNeg (0 : Int64))) 53 (vp_updL (σ.2.2.1 53) (σ.1 55).toNatClampNeg (0 : Int64))) (vf_upd (σ.2.2.2) (σ.1 55).toNatClampNeg FP.dconst0)) 55 n51) H := hP
          refine lv_aload_n hx hb dX12_loads_64 rfl (lv_at hl 2 rfl) ?_
          refine rg_54 C hP wm_209 dX12_loads_65 ?_
          refine lv_aload_n hx hb dX12_loads_68 rfl (lv_at hl 2 rfl) ?_
          refine rg_55 (v := n51) C hP rfl wm_212 dX12_loads_69 ?_
          refine lv_iconst (v := 1) hx hb dX12_loads_72 (by decide +kernel) ?_
          refine lv_isub hx hb dX12_loads_73 ?_
          refine lv_topi (fun x52 ex52 => ?_)
          have tx52 : x52.toInt = n51.toInt - 1 := (v_loads_41 σ n51 x52 hpre_0 hpre_1 hpre_2 hpre_3 hpre_4 hpre_5 hpre_6 hpre_9 hpre_10 hpre_13 hpre_14 hr50 ex52)
          refine lv_dload hx hb dX12_loads_74 (lv_at hl 0 rfl) ?_
          refine rw_54 (f := (vf_upd (σ.2.2.2) (σ.1 55).toNatClampNeg FP.dconst0)) C hP hS rfl (v_loads_42 σ n51 x52 hpre_0 hpre_1 hpre_2 hpre_3 hpre_4 hpre_5 hpre_6 hpre_9 hpre_10 hpre_13 hpre_14 hr50 ex52 tx52) dX12_loads_76 (fun H locs hP hS => ?_)
          refine lv_goto (tgt := 223) hx hb dX12_loads_77 (by decide) ?_
          have hP : RP D cy ad (rS (rR (rJ (rJ (rA σ 51 (upd (σ.2.1 51) (σ.1 55).toNatClampNeg (3 : Int32))) 52 (vp_updL (σ.2.2.1 52) (σ.1 55).toNatClampNeg (0 : Int64))) 53 (vp_updL (σ.2.2.1 53) (σ.1 55).toNatClampNeg (0 : Int64))) (vf_upd (vf_upd (σ.2.2.2) (σ.1 55).toNatClampNeg FP.dconst0) x52.toNatClampNeg x49)) 55 n51) H := RP.cong hP (Eq.trans (b := (σ.1 0)) rfl rfl) (Eq.trans (b := (σ.1 1)) rfl rfl) (Eq.trans (b := (σ.2.1 2)) rfl rfl) (Eq.trans (b := (σ.1 3)) rfl rfl) (Eq.trans (b := (σ.2.1 4)) rfl rfl) (Eq.trans (b := (σ.2.1 5)) rfl rfl) (Eq.trans (b := (σ.2.2.1 6)) rfl rfl) (Eq.trans (b := (σ.2.1 7)) rfl rfl) (Eq.trans (b := (σ.1 8)) rfl rfl) (Eq.trans (b := (σ.1 9)) rfl rfl) (Eq.trans (b := (σ.1 10)) rfl rfl) (Eq.trans (b := (σ.2.1 11)) rfl rfl) (Eq.trans (b := (σ.2.2.1 12)) rfl rfl) (Eq.trans (b := (σ.2.1 13)) rfl rfl) (Eq.trans (b := (σ.1 14)) rfl rfl) (Eq.trans (b := (σ.1 15)) rfl rfl) (Eq.trans (b := (σ.1 16)) rfl rfl) (Eq.trans (b := (σ.1 17)) rfl rfl) (Eq.trans (b := (σ.1 18)) rfl rfl) (Eq.trans (b := (σ.1 19)) rfl rfl) (Eq.trans (b := (σ.2.1 20)) rfl rfl) (Eq.trans (b := (σ.2.1 21)) rfl rfl) (Eq.trans (b := (σ.2.1 22)) rfl rfl) (Eq.trans (b := (σ.2.1 23)) rfl rfl) (Eq.trans (b := (σ.2.1 24)) rfl rfl) (Eq.trans (b := (σ.2.1 25)) rfl rfl) (Eq.trans (b := (σ.2.1 26)) rfl rfl) (Eq.trans (b := (σ.2.1 27)) rfl rfl) (Eq.trans (b := (σ.2.1 28)) rfl rfl) (Eq.trans (b := (σ.1 29)) rfl rfl) (Eq.trans (b := (σ.2.1 30)) rfl rfl) (Eq.trans (b := (σ.2.1 31)) rfl rfl) (Eq.trans (b := (σ.2.1 32)) rfl rfl) (Eq.trans (b := (σ.1 33)) rfl rfl) (Eq.trans (b := (σ.1 34)) rfl rfl) (Eq.trans (b := (σ.1 35)) rfl rfl) (Eq.trans (b := (σ.2.1 36)) rfl rfl) (Eq.trans (b := (σ.2.1 37)) rfl rfl) (Eq.trans (b := (σ.2.1 38)) rfl rfl) (Eq.trans (b := (σ.2.1 39)) rfl rfl) (Eq.trans (b := (σ.2.1 40)) rfl rfl) (Eq.trans (b := (σ.2.1 41)) rfl rfl) (Eq.trans (b := (σ.2.1 42)) rfl rfl) (Eq.trans (b := (σ.2.1 43)) rfl rfl) (Eq.trans (b := (σ.2.1 44)) rfl rfl) (Eq.trans (b := (σ.2.1 45)) rfl rfl) (Eq.trans (b := (σ.2.1 46)) rfl rfl) (Eq.trans (b := (σ.1 47)) rfl rfl) (Eq.trans (b := (σ.2.1 48)) rfl rfl) (Eq.trans (b := (σ.1 49)) rfl rfl) (Eq.trans (b := (σ.2.1 50)) rfl rfl) (Eq.trans (b := (upd (σ.2.1 51) (σ.1 55).toNatClampNeg (3 : Int32))) rfl rfl) (Eq.trans (b := (vp_updL (σ.2.2.1 52) (σ.1 55).toNatClampNeg (0 : Int64))) rfl rfl) (Eq.trans (b := (vp_updL (σ.2.2.1 53) (σ.1 55).toNatClampNeg (0 : Int64))) rfl rfl) (Eq.trans (b := (vf_upd (vf_upd (σ.2.2.2) (σ.1 55).toNatClampNeg FP.dconst0) x52.toNatClampNeg x49)) rfl rfl) (Eq.trans (b := n51) rfl rfl) (Eq.trans (b := (σ.1 56)) rfl rfl) (Eq.trans (b := (σ.1 57)) rfl rfl) (Eq.trans (b := (σ.2.1 58)) rfl rfl) (Eq.trans (b := (σ.1 59)) rfl rfl)
          exact r_retv C ⟨(upd (σ.2.1 51) (σ.1 55).toNatClampNeg (3 : Int32)), (vp_updL (σ.2.2.1 52) (σ.1 55).toNatClampNeg (0 : Int64)), (vp_updL (σ.2.2.1 53) (σ.1 55).toNatClampNeg (0 : Int64)), (vf_upd (vf_upd (σ.2.2.2) (σ.1 55).toNatClampNeg FP.dconst0) x52.toNatClampNeg x49), n51⟩ ⟨(v_loads_43 σ k1 x48 x49 n51 x52 hpre_0 hpre_1 hpre_2 hpre_3 hpre_4 hpre_5 hpre_6 hpre_9 hpre_10 hpre_13 hpre_14 ex48 ex49 hr50 ex52 tx52), (v_loads_44 σ k0 k1 x48 x49 n51 x52 hpre_0 hpre_1 hpre_2 hpre_3 hpre_4 hpre_5 hpre_6 hpre_7 hpre_8 hpre_9 hpre_10 hpre_11 hpre_12 hpre_13 hpre_14 c1 c2 c3 c36 ex48 ex49 hr50 ex52 tx52)⟩ hP hS dX12_loads_223
  · have c1 : k0.toInt = 1 := by have h := z_eq c1; rw [show (1 : Int32).toInt = 1 from by decide +kernel] at h; exact h
    refine lv_aload_n hx hb dX12_loads_5 rfl (lv_at hl 0 rfl) ?_
    refine lv_iconst (v := 2) hx hb dX12_loads_6 (by decide +kernel) ?_
    refine lv_lload_n hx hb dX12_loads_7 rfl (lv_at hl 2 rfl) ?_
    refine r_callVv (As := [.int 2, .long k1]) (rest := []) C hP hS hl.1 ⟨Nat.zero_le _, Nat.zero_le _⟩ (M_push l D cy sz0 sa ad σ s.heap.size (2 : Int32) k1 (v_loads_3 σ hpre_0 hpre_1 hpre_2 hpre_3 hpre_4 hpre_5 hpre_6 hpre_9 hpre_10 hpre_13 hpre_14)) (n := 2) ⟨wm_368, wm_211, by decide +kernel⟩ ⟨wm_369, wm_370, wm_10⟩ rfl rfl (lv_room (Nat.le_of_ble_eq_true rfl)) ⟨Nat.le_of_ble_eq_true rfl, Nat.le_of_ble_eq_true rfl⟩ dX12_loads_8 (fun u H locs hr53 hP hS => ?_)
    obtain ⟨n54, rfl⟩ : ∃ z, z = u := ⟨_, rfl⟩
    have hr53 : n54.toInt = (σ.1 55).toInt + 1 := hr53
    have hP : RP D cy ad (rS (rR (rJ (rJ (rA σ 51 (upd (σ.2.1 51) (σ.1 55).toNatClampNeg (2 : Int32))) 52 (vp_updL (σ.2.2.1 52) (σ.1 55).toNatClampNeg k1)) 53 (vp_updL (σ.2.2.1 53) (σ.1 55).toNatClampNeg (0 : Int64))) (vf_upd (σ.2.2.2) (σ.1 55).toNatClampNeg FP.dconst0)) 55 n54) H := hP
    refine lv_goto (tgt := 223) hx hb dX12_loads_11 (by decide) ?_
    exact r_retv C ⟨(upd (σ.2.1 51) (σ.1 55).toNatClampNeg (2 : Int32)), (vp_updL (σ.2.2.1 52) (σ.1 55).toNatClampNeg k1), (vp_updL (σ.2.2.1 53) (σ.1 55).toNatClampNeg (0 : Int64)), (vf_upd (σ.2.2.2) (σ.1 55).toNatClampNeg FP.dconst0), n54⟩ ⟨(v_loads_45 σ k1 n54 hpre_0 hpre_1 hpre_2 hpre_3 hpre_4 hpre_5 hpre_6 hpre_9 hpre_10 hpre_13 hpre_14 hr53), (v_loads_46 σ k0 k1 n54 hpre_0 hpre_1 hpre_2 hpre_3 hpre_4 hpre_5 hpre_6 hpre_7 hpre_8 hpre_9 hpre_10 hpre_11 hpre_12 hpre_13 hpre_14 c1 hr53)⟩ hP hS dX12_loads_223
