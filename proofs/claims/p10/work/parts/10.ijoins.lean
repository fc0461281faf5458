-- in@5 @5
theorem v_isNumber_1 (k0 : Int32) (hpre_0 : 0 ≤ k0.toInt) (hpre_1 : k0.toInt < 980) : vp_in k0 980 := by
  exact vp_in_iff.mpr ⟨by omega, by omega⟩
-- post @25
theorem v_isNumber_2 (σ : RS) (k0 : Int32) (x1 : Int32) (hpre_0 : 0 ≤ k0.toInt) (hpre_1 : k0.toInt < 980) (ex1 : x1 = (σ.2.1 51) k0.toNatClampNeg) (tx1 : x1.toInt = ((σ.2.1 51) k0.toNatClampNeg).toInt) (c2 : x1.toInt = 2) : ((1 : Int32).toInt = 0 ∧ ¬ (((σ.2.1 51) k0.toNatClampNeg).toInt = 2 ∨ ((σ.2.1 51) k0.toNatClampNeg).toInt = 3)) ∨ ((1 : Int32).toInt = 1 ∧ (((σ.2.1 51) k0.toNatClampNeg).toInt = 2 ∨ ((σ.2.1 51) k0.toNatClampNeg).toInt = 3)) := by
  have q1 : (1 : Int32).toInt = 1 := by decide +kernel
  first | assumption | omega | (subst_vars; omega) | trivial
-- bool@ret @25
theorem v_isNumber_3   : (1 : Int32) = 0 ∨ (1 : Int32) = 1 := by
  have q1 : (1 : Int32).toInt = 1 := by decide +kernel
  first | exact Or.inl rfl | exact Or.inr rfl | exact bool_of (by omega)
-- in@15 @15
theorem v_isNumber_4 (σ : RS) (k0 : Int32) (x1 : Int32) (hpre_0 : 0 ≤ k0.toInt) (hpre_1 : k0.toInt < 980) (ex1 : x1 = (σ.2.1 51) k0.toNatClampNeg) (tx1 : x1.toInt = ((σ.2.1 51) k0.toNatClampNeg).toInt) (c2 : ¬ x1.toInt = 2) : vp_in k0 980 := by
  exact vp_in_iff.mpr ⟨by omega, by omega⟩
-- post @25
theorem v_isNumber_5 (σ : RS) (k0 : Int32) (x1 : Int32) (x3 : Int32) (hpre_0 : 0 ≤ k0.toInt) (hpre_1 : k0.toInt < 980) (ex1 : x1 = (σ.2.1 51) k0.toNatClampNeg) (tx1 : x1.toInt = ((σ.2.1 51) k0.toNatClampNeg).toInt) (c2 : ¬ x1.toInt = 2) (ex3 : x3 = (σ.2.1 51) k0.toNatClampNeg) (tx3 : x3.toInt = ((σ.2.1 51) k0.toNatClampNeg).toInt) (c4 : ¬ x3.toInt = 3) : ((0 : Int32).toInt = 0 ∧ ¬ (((σ.2.1 51) k0.toNatClampNeg).toInt = 2 ∨ ((σ.2.1 51) k0.toNatClampNeg).toInt = 3)) ∨ ((0 : Int32).toInt = 1 ∧ (((σ.2.1 51) k0.toNatClampNeg).toInt = 2 ∨ ((σ.2.1 51) k0.toNatClampNeg).toInt = 3)) := by
  have q0 : (0 : Int32).toInt = 0 := by decide +kernel
  first | assumption | omega | (subst_vars; omega) | trivial
-- bool@ret @25
theorem v_isNumber_6   : (0 : Int32) = 0 ∨ (0 : Int32) = 1 := by
  have q0 : (0 : Int32).toInt = 0 := by decide +kernel
  first | exact Or.inl rfl | exact Or.inr rfl | exact bool_of (by omega)
-- post @25
theorem v_isNumber_7 (σ : RS) (k0 : Int32) (x1 : Int32) (x3 : Int32) (hpre_0 : 0 ≤ k0.toInt) (hpre_1 : k0.toInt < 980) (ex1 : x1 = (σ.2.1 51) k0.toNatClampNeg) (tx1 : x1.toInt = ((σ.2.1 51) k0.toNatClampNeg).toInt) (c2 : ¬ x1.toInt = 2) (ex3 : x3 = (σ.2.1 51) k0.toNatClampNeg) (tx3 : x3.toInt = ((σ.2.1 51) k0.toNatClampNeg).toInt) (c4 : x3.toInt = 3) : ((1 : Int32).toInt = 0 ∧ ¬ (((σ.2.1 51) k0.toNatClampNeg).toInt = 2 ∨ ((σ.2.1 51) k0.toNatClampNeg).toInt = 3)) ∨ ((1 : Int32).toInt = 1 ∧ (((σ.2.1 51) k0.toNatClampNeg).toInt = 2 ∨ ((σ.2.1 51) k0.toNatClampNeg).toInt = 3)) := by
  have q1 : (1 : Int32).toInt = 1 := by decide +kernel
  first | assumption | omega | (subst_vars; omega) | trivial
set_option maxHeartbeats 4000000 in
set_option maxRecDepth 100000 in
theorem M_isNumber (l : Launch) (D : va_G) (cy : Nat → ClassId) (sz0 : Nat) (sa : Nat → Nat) (ad : Nat → Nat) (σ : RS) (sz : Nat) (k0 : Int32) (hpre : 0 ≤ k0.toInt ∧ k0.toInt < 980) : Met l yX12_isNumber (Cond.code yX12_isNumber cX12_isNumber 2 (some .boolean) :: GWm) ({ frames := 0, cells := 0, slots := 0, locals := 0 }) (PcR D cy sz0 sa ad [.ref (ad 0), .int k0] σ sz) (va_Qi (fun (r : Int32) (u : Unit) => (r.toInt = 0 ∧ ¬ (((σ.2.1 51) k0.toNatClampNeg).toInt = 2 ∨ ((σ.2.1 51) k0.toNatClampNeg).toInt = 3)) ∨ (r.toInt = 1 ∧ (((σ.2.1 51) k0.toNatClampNeg).toInt = 2 ∨ ((σ.2.1 51) k0.toNatClampNeg).toInt = 3))) (fun (u : Unit) (t : State) => RP D cy ad σ t.heap) (AR cy ad sz)) 0 0 (AR cy ad sz) := by
  refine RM_of (loc0 := [(0, .ref (ad 0)), (1, .int k0)]) (by decide) rfl rfl (Nat.le_of_ble_eq_true rfl) ?_
  intro p e s m below meth c ls hsz C hP hS hl
  have hx := C.1
  have hb := C.2.1
  have hown := C.2.2.2.2.1
  have hw := C.2.2.2.2.2.1
  clear hsz
  obtain ⟨hpre_0, hpre_1⟩ := hpre
  refine lv_aload_n hx hb dX12_isNumber_0 rfl (lv_at hl 0 rfl) ?_
  refine rg_51 C hP wm_205 dX12_isNumber_1 ?_
  refine lv_iload_n hx hb dX12_isNumber_4 rfl (lv_at hl 1 rfl) ?_
  refine ra_51 (f := (σ.2.1 51)) C hP rfl (v_isNumber_1 k0 hpre_0 hpre_1) dX12_isNumber_5 (fun x1 ex1 => ?_)
  have tx1 : x1.toInt = ((σ.2.1 51) k0.toNatClampNeg).toInt := by rw [ex1]
  refine lv_iconst (v := 2) hx hb dX12_isNumber_6 (by decide +kernel) ?_
  refine lv_icmp_eq (tgt := 20) hx hb dX12_isNumber_7 (by decide) (fun c2 => ?_) (fun c2 => ?_)
  · have c2 : x1.toInt = 2 := by have h := z_eq c2; rw [show (2 : Int32).toInt = 2 from by decide +kernel] at h; exact h
    refine lv_iconst (v := 1) hx hb dX12_isNumber_20 (by decide +kernel) ?_
    refine lv_goto (tgt := 25) hx hb dX12_isNumber_21 (by decide) ?_
    exact r_retz C () (v_isNumber_3  ) (v_isNumber_2 σ k0 x1 hpre_0 hpre_1 ex1 tx1 c2) hP hS dX12_isNumber_25
  · have c2 : ¬ x1.toInt = 2 := by have h := z_ne c2; rw [show (2 : Int32).toInt = 2 from by decide +kernel] at h; exact h
    refine lv_aload_n hx hb dX12_isNumber_10 rfl (lv_at hl 0 rfl) ?_
    refine rg_51 C hP wm_205 dX12_isNumber_11 ?_
    refine lv_iload_n hx hb dX12_isNumber_14 rfl (lv_at hl 1 rfl) ?_
    refine ra_51 (f := (σ.2.1 51)) C hP rfl (v_isNumber_4 σ k0 x1 hpre_0 hpre_1 ex1 tx1 c2) dX12_isNumber_15 (fun x3 ex3 => ?_)
    have tx3 : x3.toInt = ((σ.2.1 51) k0.toNatClampNeg).toInt := by rw [ex3]
    refine lv_iconst (v := 3) hx hb dX12_isNumber_16 (by decide +kernel) ?_
    refine lv_icmp_ne (tgt := 24) hx hb dX12_isNumber_17 (by decide) (fun c4 => ?_) (fun c4 => ?_)
    · have c4 : ¬ x3.toInt = 3 := by have h := z_ne c4; rw [show (3 : Int32).toInt = 3 from by decide +kernel] at h; exact h
      refine lv_iconst (v := 0) hx hb dX12_isNumber_24 (by decide +kernel) ?_
      exact r_retz C () (v_isNumber_6  ) (v_isNumber_5 σ k0 x1 x3 hpre_0 hpre_1 ex1 tx1 c2 ex3 tx3 c4) hP hS dX12_isNumber_25
    · have c4 : x3.toInt = 3 := by have h := z_eq c4; rw [show (3 : Int32).toInt = 3 from by decide +kernel] at h; exact h
      refine lv_iconst (v := 1) hx hb dX12_isNumber_20 (by decide +kernel) ?_
      refine lv_goto (tgt := 25) hx hb dX12_isNumber_21 (by decide) ?_
      exact r_retz C () (v_isNumber_3  ) (v_isNumber_7 σ k0 x1 x3 hpre_0 hpre_1 ex1 tx1 c2 ex3 tx3 c4) hP hS dX12_isNumber_25

-- in@5 @5
theorem v_realOf_1 (σ : RS) (k0 : Int32) (hpre_0 : 0 ≤ k0.toInt) (hpre_1 : k0.toInt < 980) (hpre_2 : ((σ.2.1 51) k0.toNatClampNeg).toInt = 3 → FN ((σ.2.2.2) k0.toNatClampNeg)) : vp_in k0 980 := by
  exact vp_in_iff.mpr ⟨by omega, by omega⟩
-- in@24 @24
theorem v_realOf_2 (σ : RS) (k0 : Int32) (x1 : Int32) (hpre_0 : 0 ≤ k0.toInt) (hpre_1 : k0.toInt < 980) (hpre_2 : ((σ.2.1 51) k0.toNatClampNeg).toInt = 3 → FN ((σ.2.2.2) k0.toNatClampNeg)) (ex1 : x1 = (σ.2.1 51) k0.toNatClampNeg) (tx1 : x1.toInt = ((σ.2.1 51) k0.toNatClampNeg).toInt) (c2 : ¬ x1.toInt = 3) : vp_in k0 980 := by
  exact vp_in_iff.mpr ⟨by omega, by omega⟩
-- post @27
theorem v_realOf_3 (σ : RS) (k0 : Int32) (x1 : Int32) (x3 : Int64) (x4 : Int32) (x5 : UInt64) (hpre_0 : 0 ≤ k0.toInt) (hpre_1 : k0.toInt < 980) (ex1 : x1 = (σ.2.1 51) k0.toNatClampNeg) (tx1 : x1.toInt = ((σ.2.1 51) k0.toNatClampNeg).toInt) (c2 : ¬ x1.toInt = 3) (ex3 : x3 = (σ.2.2.1 52) k0.toNatClampNeg) (tx3 : x3.toInt = ((σ.2.2.1 52) k0.toNatClampNeg).toInt) (ex4 : x4 = Int64.toInt32 x3) (tx4 : -2147483648 ≤ x3.toInt → x3.toInt < 2147483648 → x4.toInt = x3.toInt) (ex5 : x5 = FP.i2d x4) : FN x5 := by
  first | (subst_vars; exact fp_i2d _) | (subst_vars; exact hpre_2 (by omega))
-- post2 @27
theorem v_realOf_4 (σ : RS) (k0 : Int32) (x1 : Int32) (x3 : Int64) (x4 : Int32) (x5 : UInt64) (hpre_0 : 0 ≤ k0.toInt) (hpre_1 : k0.toInt < 980) (hpre_2 : ((σ.2.1 51) k0.toNatClampNeg).toInt = 3 → FN ((σ.2.2.2) k0.toNatClampNeg)) (ex1 : x1 = (σ.2.1 51) k0.toNatClampNeg) (tx1 : x1.toInt = ((σ.2.1 51) k0.toNatClampNeg).toInt) (c2 : ¬ x1.toInt = 3) (ex3 : x3 = (σ.2.2.1 52) k0.toNatClampNeg) (tx3 : x3.toInt = ((σ.2.2.1 52) k0.toNatClampNeg).toInt) (ex4 : x4 = Int64.toInt32 x3) (tx4 : -2147483648 ≤ x3.toInt → x3.toInt < 2147483648 → x4.toInt = x3.toInt) (ex5 : x5 = FP.i2d x4) : ∀ v9 : QV, QAT (qH (σ.2.1 36) (σ.2.1 37) (σ.2.1 38) (σ.2.1 39) (σ.2.1 40) (σ.2.1 41) (σ.2.1 42) (σ.2.1 43) (σ.2.1 44) (σ.2.1 45) (σ.2.1 46) (σ.2.1 48)) (σ.1 47).toInt ((σ.2.1 51), (σ.2.2.1 52), (σ.2.2.1 53), (σ.2.2.2)) k0.toNatClampNeg v9 → qNum v9 = true → x5 = qRe v9 := by
  intro v9 h9 hn
  have kd := h9.kd
  dsimp only at kd
  have hq := of_decide_eq_true hn
  obtain ⟨n, rfl, hm⟩ := h9.k2 (show ((σ.2.1 51) k0.toNatClampNeg).toInt = 2 by omega)
  have e := q_l2i (x := x3) (by rw [ex3]; exact hm) ex4
  rw [ex5, e, qRe_i]
-- in@15 @15
theorem v_realOf_5 (σ : RS) (k0 : Int32) (x1 : Int32) (hpre_0 : 0 ≤ k0.toInt) (hpre_1 : k0.toInt < 980) (hpre_2 : ((σ.2.1 51) k0.toNatClampNeg).toInt = 3 → FN ((σ.2.2.2) k0.toNatClampNeg)) (ex1 : x1 = (σ.2.1 51) k0.toNatClampNeg) (tx1 : x1.toInt = ((σ.2.1 51) k0.toNatClampNeg).toInt) (c2 : x1.toInt = 3) : vp_in k0 980 := by
  exact vp_in_iff.mpr ⟨by omega, by omega⟩
-- post @27
theorem v_realOf_6 (σ : RS) (k0 : Int32) (x1 : Int32) (x6 : UInt64) (hpre_0 : 0 ≤ k0.toInt) (hpre_1 : k0.toInt < 980) (hpre_2 : ((σ.2.1 51) k0.toNatClampNeg).toInt = 3 → FN ((σ.2.2.2) k0.toNatClampNeg)) (ex1 : x1 = (σ.2.1 51) k0.toNatClampNeg) (tx1 : x1.toInt = ((σ.2.1 51) k0.toNatClampNeg).toInt) (c2 : x1.toInt = 3) (ex6 : x6 = (σ.2.2.2) k0.toNatClampNeg) : FN x6 := by
  first | (subst_vars; exact fp_i2d _) | (subst_vars; exact hpre_2 (by omega))
-- post2 @27
theorem v_realOf_7 (σ : RS) (k0 : Int32) (x1 : Int32) (x6 : UInt64) (hpre_0 : 0 ≤ k0.toInt) (hpre_1 : k0.toInt < 980) (hpre_2 : ((σ.2.1 51) k0.toNatClampNeg).toInt = 3 → FN ((σ.2.2.2) k0.toNatClampNeg)) (ex1 : x1 = (σ.2.1 51) k0.toNatClampNeg) (tx1 : x1.toInt = ((σ.2.1 51) k0.toNatClampNeg).toInt) (c2 : x1.toInt = 3) (ex6 : x6 = (σ.2.2.2) k0.toNatClampNeg) : ∀ v9 : QV, QAT (qH (σ.2.1 36) (σ.2.1 37) (σ.2.1 38) (σ.2.1 39) (σ.2.1 40) (σ.2.1 41) (σ.2.1 42) (σ.2.1 43) (σ.2.1 44) (σ.2.1 45) (σ.2.1 46) (σ.2.1 48)) (σ.1 47).toInt ((σ.2.1 51), (σ.2.2.1 52), (σ.2.2.1 53), (σ.2.2.2)) k0.toNatClampNeg v9 → qNum v9 = true → x6 = qRe v9 := by
  intro v9 h9 hn
  have kd := h9.kd
  dsimp only at kd
  have hq := of_decide_eq_true hn
  obtain ⟨r, hr, rfl, e⟩ := h9.k3 (show ((σ.2.1 51) k0.toNatClampNeg).toInt = 3 by omega)
  dsimp only at e
  rw [ex6, e]; rfl
set_option maxHeartbeats 4000000 in
set_option maxRecDepth 100000 in
theorem M_realOf (l : Launch) (D : va_G) (cy : Nat → ClassId) (sz0 : Nat) (sa : Nat → Nat) (ad : Nat → Nat) (σ : RS) (sz : Nat) (k0 : Int32) (hpre : 0 ≤ k0.toInt ∧ k0.toInt < 980 ∧ (((σ.2.1 51) k0.toNatClampNeg).toInt = 3 → FN ((σ.2.2.2) k0.toNatClampNeg))) : Met l yX12_realOf (Cond.code yX12_realOf cX12_realOf 2 (some .double) :: GWm) ({ frames := 0, cells := 0, slots := 0, locals := 0 }) (PcR D cy sz0 sa ad [.ref (ad 0), .int k0] σ sz) (va_Qd (fun (r : UInt64) (u : Unit) => (FN r) ∧ (∀ v9 : QV, QAT (qH (σ.2.1 36) (σ.2.1 37) (σ.2.1 38) (σ.2.1 39) (σ.2.1 40) (σ.2.1 41) (σ.2.1 42) (σ.2.1 43) (σ.2.1 44) (σ.2.1 45) (σ.2.1 46) (σ.2.1 48)) (σ.1 47).toInt ((σ.2.1 51), (σ.2.2.1 52), (σ.2.2.1 53), (σ.2.2.2)) k0.toNatClampNeg v9 → qNum v9 = true → r = qRe v9)) (fun (u : Unit) (t : State) => RP D cy ad σ t.heap) (AR cy ad sz)) 0 0 (AR cy ad sz) := by
  refine RM_of (loc0 := [(0, .ref (ad 0)), (1, .int k0)]) (by decide) rfl rfl (Nat.le_of_ble_eq_true rfl) ?_
  intro p e s m below meth c ls hsz C hP hS hl
  have hx := C.1
  have hb := C.2.1
  have hown := C.2.2.2.2.1
  have hw := C.2.2.2.2.2.1
  clear hsz
  obtain ⟨hpre_0, hpre_1, hpre_2⟩ := hpre
  refine lv_aload_n hx hb dX12_realOf_0 rfl (lv_at hl 0 rfl) ?_
  refine rg_51 C hP wm_205 dX12_realOf_1 ?_
  refine lv_iload_n hx hb dX12_realOf_4 rfl (lv_at hl 1 rfl) ?_
  refine ra_51 (f := (σ.2.1 51)) C hP rfl (v_realOf_1 σ k0 hpre_0 hpre_1 hpre_2) dX12_realOf_5 (fun x1 ex1 => ?_)
  have tx1 : x1.toInt = ((σ.2.1 51) k0.toNatClampNeg).toInt := by rw [ex1]
  refine lv_iconst (v := 3) hx hb dX12_realOf_6 (by decide +kernel) ?_
  refine lv_icmp_ne (tgt := 19) hx hb dX12_realOf_7 (by decide) (fun c2 => ?_) (fun c2 => ?_)
  · have c2 : ¬ x1.toInt = 3 := by have h := z_ne c2; rw [show (3 : Int32).toInt = 3 from by decide +kernel] at h; exact h
    refine lv_aload_n hx hb dX12_realOf_19 rfl (lv_at hl 0 rfl) ?_
    refine rg_52 C hP wm_206 dX12_realOf_20 ?_
    refine lv_iload_n hx hb dX12_realOf_23 rfl (lv_at hl 1 rfl) ?_
    refine ra_52 (f := (σ.2.2.1 52)) C hP rfl (v_realOf_2 σ k0 x1 hpre_0 hpre_1 hpre_2 ex1 tx1 c2) dX12_realOf_24 (fun x3 ex3 => ?_)
    have tx3 : x3.toInt = ((σ.2.2.1 52) k0.toNatClampNeg).toInt := by rw [ex3]
    refine lv_l2i hx hb dX12_realOf_25 rfl ?_
    refine lv_topi (fun x4 ex4 => ?_)
    have tx4 : -2147483648 ≤ x3.toInt → x3.toInt < 2147483648 → x4.toInt = x3.toInt := z_l2i ex4
    refine lv_i2d hx hb dX12_realOf_26 ?_
    refine lv_topd (fun x5 ex5 => ?_)
    exact r_retd C () ⟨(v_realOf_3 σ k0 x1 x3 x4 x5 hpre_0 hpre_1 ex1 tx1 c2 ex3 tx3 ex4 tx4 ex5), (v_realOf_4 σ k0 x1 x3 x4 x5 hpre_0 hpre_1 hpre_2 ex1 tx1 c2 ex3 tx3 ex4 tx4 ex5)⟩ hP hS dX12_realOf_27
  · have c2 : x1.toInt = 3 := by have h := z_eq c2; rw [show (3 : Int32).toInt = 3 from by decide +kernel] at h; exact h
    refine lv_aload_n hx hb dX12_realOf_10 rfl (lv_at hl 0 rfl) ?_
    refine rg_54 C hP wm_209 dX12_realOf_11 ?_
    refine lv_iload_n hx hb dX12_realOf_14 rfl (lv_at hl 1 rfl) ?_
    refine ra_54 (f := (σ.2.2.2)) C hP rfl (v_realOf_5 σ k0 x1 hpre_0 hpre_1 hpre_2 ex1 tx1 c2) dX12_realOf_15 (fun x6 ex6 => ?_)
    refine lv_goto (tgt := 27) hx hb dX12_realOf_16 (by decide) ?_
    exact r_retd C () ⟨(v_realOf_6 σ k0 x1 x6 hpre_0 hpre_1 hpre_2 ex1 tx1 c2 ex6), (v_realOf_7 σ k0 x1 x6 hpre_0 hpre_1 hpre_2 ex1 tx1 c2 ex6)⟩ hP hS dX12_realOf_27

-- in@5 @5
theorem v_joins_1 (k0 : Int32) (hpre_0 : 0 ≤ k0.toInt) (hpre_1 : k0.toInt < 980) : vp_in k0 980 := by
  exact vp_in_iff.mpr ⟨by omega, by omega⟩
-- post2 @44
theorem v_joins_2 (σ : RS) (k0 : Int32) (x1 : Int32) (hpre_0 : 0 ≤ k0.toInt) (hpre_1 : k0.toInt < 980) (ex1 : x1 = (σ.2.1 51) k0.toNatClampNeg) (tx1 : x1.toInt = ((σ.2.1 51) k0.toNatClampNeg).toInt) (c2 : x1.toInt = 4) : ∀ v9 : QV, QAT (qH (σ.2.1 36) (σ.2.1 37) (σ.2.1 38) (σ.2.1 39) (σ.2.1 40) (σ.2.1 41) (σ.2.1 42) (σ.2.1 43) (σ.2.1 44) (σ.2.1 45) (σ.2.1 46) (σ.2.1 48)) (σ.1 47).toInt ((σ.2.1 51), (σ.2.2.1 52), (σ.2.2.1 53), (σ.2.2.2)) k0.toNatClampNeg v9 → ((1 : Int32).toInt = 0 → qJoins v9 = false) ∧ (¬ (1 : Int32).toInt = 0 → qJoins v9 = true) := by
  have q1 : (1 : Int32).toInt = 1 := by decide +kernel
  intro v9 h9
  have kd := h9.kd
  dsimp only at kd
  exact ⟨fun h => decide_eq_false (by omega), fun h => decide_eq_true (by omega)⟩
-- bool@ret @44
theorem v_joins_3   : (1 : Int32) = 0 ∨ (1 : Int32) = 1 := by
  have q1 : (1 : Int32).toInt = 1 := by decide +kernel
  first | exact Or.inl rfl | exact Or.inr rfl | exact bool_of (by omega)
-- in@15 @15
theorem v_joins_4 (σ : RS) (k0 : Int32) (x1 : Int32) (hpre_0 : 0 ≤ k0.toInt) (hpre_1 : k0.toInt < 980) (ex1 : x1 = (σ.2.1 51) k0.toNatClampNeg) (tx1 : x1.toInt = ((σ.2.1 51) k0.toNatClampNeg).toInt) (c2 : ¬ x1.toInt = 4) : vp_in k0 980 := by
  exact vp_in_iff.mpr ⟨by omega, by omega⟩
-- post2 @44
theorem v_joins_5 (σ : RS) (k0 : Int32) (x1 : Int32) (x3 : Int32) (hpre_0 : 0 ≤ k0.toInt) (hpre_1 : k0.toInt < 980) (ex1 : x1 = (σ.2.1 51) k0.toNatClampNeg) (tx1 : x1.toInt = ((σ.2.1 51) k0.toNatClampNeg).toInt) (c2 : ¬ x1.toInt = 4) (ex3 : x3 = (σ.2.1 51) k0.toNatClampNeg) (tx3 : x3.toInt = ((σ.2.1 51) k0.toNatClampNeg).toInt) (c4 : x3.toInt = 2) : ∀ v9 : QV, QAT (qH (σ.2.1 36) (σ.2.1 37) (σ.2.1 38) (σ.2.1 39) (σ.2.1 40) (σ.2.1 41) (σ.2.1 42) (σ.2.1 43) (σ.2.1 44) (σ.2.1 45) (σ.2.1 46) (σ.2.1 48)) (σ.1 47).toInt ((σ.2.1 51), (σ.2.2.1 52), (σ.2.2.1 53), (σ.2.2.2)) k0.toNatClampNeg v9 → ((1 : Int32).toInt = 0 → qJoins v9 = false) ∧ (¬ (1 : Int32).toInt = 0 → qJoins v9 = true) := by
  have q1 : (1 : Int32).toInt = 1 := by decide +kernel
  intro v9 h9
  have kd := h9.kd
  dsimp only at kd
  exact ⟨fun h => decide_eq_false (by omega), fun h => decide_eq_true (by omega)⟩
-- in@25 @25
theorem v_joins_6 (σ : RS) (k0 : Int32) (x1 : Int32) (x3 : Int32) (hpre_0 : 0 ≤ k0.toInt) (hpre_1 : k0.toInt < 980) (ex1 : x1 = (σ.2.1 51) k0.toNatClampNeg) (tx1 : x1.toInt = ((σ.2.1 51) k0.toNatClampNeg).toInt) (c2 : ¬ x1.toInt = 4) (ex3 : x3 = (σ.2.1 51) k0.toNatClampNeg) (tx3 : x3.toInt = ((σ.2.1 51) k0.toNatClampNeg).toInt) (c4 : ¬ x3.toInt = 2) : vp_in k0 980 := by
  exact vp_in_iff.mpr ⟨by omega, by omega⟩
-- post2 @44
theorem v_joins_7 (σ : RS) (k0 : Int32) (x1 : Int32) (x3 : Int32) (x5 : Int32) (hpre_0 : 0 ≤ k0.toInt) (hpre_1 : k0.toInt < 980) (ex1 : x1 = (σ.2.1 51) k0.toNatClampNeg) (tx1 : x1.toInt = ((σ.2.1 51) k0.toNatClampNeg).toInt) (c2 : ¬ x1.toInt = 4) (ex3 : x3 = (σ.2.1 51) k0.toNatClampNeg) (tx3 : x3.toInt = ((σ.2.1 51) k0.toNatClampNeg).toInt) (c4 : ¬ x3.toInt = 2) (ex5 : x5 = (σ.2.1 51) k0.toNatClampNeg) (tx5 : x5.toInt = ((σ.2.1 51) k0.toNatClampNeg).toInt) (c6 : x5.toInt = 1) : ∀ v9 : QV, QAT (qH (σ.2.1 36) (σ.2.1 37) (σ.2.1 38) (σ.2.1 39) (σ.2.1 40) (σ.2.1 41) (σ.2.1 42) (σ.2.1 43) (σ.2.1 44) (σ.2.1 45) (σ.2.1 46) (σ.2.1 48)) (σ.1 47).toInt ((σ.2.1 51), (σ.2.2.1 52), (σ.2.2.1 53), (σ.2.2.2)) k0.toNatClampNeg v9 → ((1 : Int32).toInt = 0 → qJoins v9 = false) ∧ (¬ (1 : Int32).toInt = 0 → qJoins v9 = true) := by
  have q1 : (1 : Int32).toInt = 1 := by decide +kernel
  intro v9 h9
  have kd := h9.kd
  dsimp only at kd
  exact ⟨fun h => decide_eq_false (by omega), fun h => decide_eq_true (by omega)⟩
-- in@35 @35
theorem v_joins_8 (σ : RS) (k0 : Int32) (x1 : Int32) (x3 : Int32) (x5 : Int32) (hpre_0 : 0 ≤ k0.toInt) (hpre_1 : k0.toInt < 980) (ex1 : x1 = (σ.2.1 51) k0.toNatClampNeg) (tx1 : x1.toInt = ((σ.2.1 51) k0.toNatClampNeg).toInt) (c2 : ¬ x1.toInt = 4) (ex3 : x3 = (σ.2.1 51) k0.toNatClampNeg) (tx3 : x3.toInt = ((σ.2.1 51) k0.toNatClampNeg).toInt) (c4 : ¬ x3.toInt = 2) (ex5 : x5 = (σ.2.1 51) k0.toNatClampNeg) (tx5 : x5.toInt = ((σ.2.1 51) k0.toNatClampNeg).toInt) (c6 : ¬ x5.toInt = 1) : vp_in k0 980 := by
  exact vp_in_iff.mpr ⟨by omega, by omega⟩
-- post2 @44
theorem v_joins_9 (σ : RS) (k0 : Int32) (x1 : Int32) (x3 : Int32) (x5 : Int32) (x7 : Int32) (hpre_0 : 0 ≤ k0.toInt) (hpre_1 : k0.toInt < 980) (ex1 : x1 = (σ.2.1 51) k0.toNatClampNeg) (tx1 : x1.toInt = ((σ.2.1 51) k0.toNatClampNeg).toInt) (c2 : ¬ x1.toInt = 4) (ex3 : x3 = (σ.2.1 51) k0.toNatClampNeg) (tx3 : x3.toInt = ((σ.2.1 51) k0.toNatClampNeg).toInt) (c4 : ¬ x3.toInt = 2) (ex5 : x5 = (σ.2.1 51) k0.toNatClampNeg) (tx5 : x5.toInt = ((σ.2.1 51) k0.toNatClampNeg).toInt) (c6 : ¬ x5.toInt = 1) (ex7 : x7 = (σ.2.1 51) k0.toNatClampNeg) (tx7 : x7.toInt = ((σ.2.1 51) k0.toNatClampNeg).toInt) (c8 : ¬ x7.toInt = 0) : ∀ v9 : QV, QAT (qH (σ.2.1 36) (σ.2.1 37) (σ.2.1 38) (σ.2.1 39) (σ.2.1 40) (σ.2.1 41) (σ.2.1 42) (σ.2.1 43) (σ.2.1 44) (σ.2.1 45) (σ.2.1 46) (σ.2.1 48)) (σ.1 47).toInt ((σ.2.1 51), (σ.2.2.1 52), (σ.2.2.1 53), (σ.2.2.2)) k0.toNatClampNeg v9 → ((0 : Int32).toInt = 0 → qJoins v9 = false) ∧ (¬ (0 : Int32).toInt = 0 → qJoins v9 = true) := by
  have q0 : (0 : Int32).toInt = 0 := by decide +kernel
  intro v9 h9
  have kd := h9.kd
  dsimp only at kd
  exact ⟨fun h => decide_eq_false (by omega), fun h => decide_eq_true (by omega)⟩
-- bool@ret @44
theorem v_joins_10   : (0 : Int32) = 0 ∨ (0 : Int32) = 1 := by
  have q0 : (0 : Int32).toInt = 0 := by decide +kernel
  first | exact Or.inl rfl | exact Or.inr rfl | exact bool_of (by omega)
-- post2 @44
theorem v_joins_11 (σ : RS) (k0 : Int32) (x1 : Int32) (x3 : Int32) (x5 : Int32) (x7 : Int32) (hpre_0 : 0 ≤ k0.toInt) (hpre_1 : k0.toInt < 980) (ex1 : x1 = (σ.2.1 51) k0.toNatClampNeg) (tx1 : x1.toInt = ((σ.2.1 51) k0.toNatClampNeg).toInt) (c2 : ¬ x1.toInt = 4) (ex3 : x3 = (σ.2.1 51) k0.toNatClampNeg) (tx3 : x3.toInt = ((σ.2.1 51) k0.toNatClampNeg).toInt) (c4 : ¬ x3.toInt = 2) (ex5 : x5 = (σ.2.1 51) k0.toNatClampNeg) (tx5 : x5.toInt = ((σ.2.1 51) k0.toNatClampNeg).toInt) (c6 : ¬ x5.toInt = 1) (ex7 : x7 = (σ.2.1 51) k0.toNatClampNeg) (tx7 : x7.toInt = ((σ.2.1 51) k0.toNatClampNeg).toInt) (c8 : x7.toInt = 0) : ∀ v9 : QV, QAT (qH (σ.2.1 36) (σ.2.1 37) (σ.2.1 38) (σ.2.1 39) (σ.2.1 40) (σ.2.1 41) (σ.2.1 42) (σ.2.1 43) (σ.2.1 44) (σ.2.1 45) (σ.2.1 46) (σ.2.1 48)) (σ.1 47).toInt ((σ.2.1 51), (σ.2.2.1 52), (σ.2.2.1 53), (σ.2.2.2)) k0.toNatClampNeg v9 → ((1 : Int32).toInt = 0 → qJoins v9 = false) ∧ (¬ (1 : Int32).toInt = 0 → qJoins v9 = true) := by
  have q1 : (1 : Int32).toInt = 1 := by decide +kernel
  intro v9 h9
  have kd := h9.kd
  dsimp only at kd
  exact ⟨fun h => decide_eq_false (by omega), fun h => decide_eq_true (by omega)⟩
set_option maxHeartbeats 4000000 in
set_option maxRecDepth 100000 in
theorem M_joins (l : Launch) (D : va_G) (cy : Nat → ClassId) (sz0 : Nat) (sa : Nat → Nat) (ad : Nat → Nat) (σ : RS) (sz : Nat) (k0 : Int32) (hpre : 0 ≤ k0.toInt ∧ k0.toInt < 980) : Met l yX12_joins (Cond.code yX12_joins cX12_joins 2 (some .boolean) :: GWm) ({ frames := 0, cells := 0, slots := 0, locals := 0 }) (PcR D cy sz0 sa ad [.ref (ad 0), .int k0] σ sz) (va_Qi (fun (r : Int32) (u : Unit) => (True) ∧ (∀ v9 : QV, QAT (qH (σ.2.1 36) (σ.2.1 37) (σ.2.1 38) (σ.2.1 39) (σ.2.1 40) (σ.2.1 41) (σ.2.1 42) (σ.2.1 43) (σ.2.1 44) (σ.2.1 45) (σ.2.1 46) (σ.2.1 48)) (σ.1 47).toInt ((σ.2.1 51), (σ.2.2.1 52), (σ.2.2.1 53), (σ.2.2.2)) k0.toNatClampNeg v9 → (r.toInt = 0 → qJoins v9 = false) ∧ (¬ r.toInt = 0 → qJoins v9 = true))) (fun (u : Unit) (t : State) => RP D cy ad σ t.heap) (AR cy ad sz)) 0 0 (AR cy ad sz) := by
  refine RM_of (loc0 := [(0, .ref (ad 0)), (1, .int k0)]) (by decide) rfl rfl (Nat.le_of_ble_eq_true rfl) ?_
  intro p e s m below meth c ls hsz C hP hS hl
  have hx := C.1
  have hb := C.2.1
  have hown := C.2.2.2.2.1
  have hw := C.2.2.2.2.2.1
  clear hsz
  obtain ⟨hpre_0, hpre_1⟩ := hpre
  refine lv_aload_n hx hb dX12_joins_0 rfl (lv_at hl 0 rfl) ?_
  refine rg_51 C hP wm_205 dX12_joins_1 ?_
  refine lv_iload_n hx hb dX12_joins_4 rfl (lv_at hl 1 rfl) ?_
  refine ra_51 (f := (σ.2.1 51)) C hP rfl (v_joins_1 k0 hpre_0 hpre_1) dX12_joins_5 (fun x1 ex1 => ?_)
  have tx1 : x1.toInt = ((σ.2.1 51) k0.toNatClampNeg).toInt := by rw [ex1]
  refine lv_iconst (v := 4) hx hb dX12_joins_6 (by decide +kernel) ?_
  refine lv_icmp_eq (tgt := 39) hx hb dX12_joins_7 (by decide) (fun c2 => ?_) (fun c2 => ?_)
  · have c2 : x1.toInt = 4 := by have h := z_eq c2; rw [show (4 : Int32).toInt = 4 from by decide +kernel] at h; exact h
    refine lv_iconst (v := 1) hx hb dX12_joins_39 (by decide +kernel) ?_
    refine lv_goto (tgt := 44) hx hb dX12_joins_40 (by decide) ?_
    exact r_retz C () (v_joins_3  ) ⟨trivial, (v_joins_2 σ k0 x1 hpre_0 hpre_1 ex1 tx1 c2)⟩ hP hS dX12_joins_44
  · have c2 : ¬ x1.toInt = 4 := by have h := z_ne c2; rw [show (4 : Int32).toInt = 4 from by decide +kernel] at h; exact h
    refine lv_aload_n hx hb dX12_joins_10 rfl (lv_at hl 0 rfl) ?_
    refine rg_51 C hP wm_205 dX12_joins_11 ?_
    refine lv_iload_n hx hb dX12_joins_14 rfl (lv_at hl 1 rfl) ?_
    refine ra_51 (f := (σ.2.1 51)) C hP rfl (v_joins_4 σ k0 x1 hpre_0 hpre_1 ex1 tx1 c2) dX12_joins_15 (fun x3 ex3 => ?_)
    have tx3 : x3.toInt = ((σ.2.1 51) k0.toNatClampNeg).toInt := by rw [ex3]
    refine lv_iconst (v := 2) hx hb dX12_joins_16 (by decide +kernel) ?_
    refine lv_icmp_eq (tgt := 39) hx hb dX12_joins_17 (by decide) (fun c4 => ?_) (fun c4 => ?_)
    · have c4 : x3.toInt = 2 := by have h := z_eq c4; rw [show (2 : Int32).toInt = 2 from by decide +kernel] at h; exact h
      refine lv_iconst (v := 1) hx hb dX12_joins_39 (by decide +kernel) ?_
      refine lv_goto (tgt := 44) hx hb dX12_joins_40 (by decide) ?_
      exact r_retz C () (v_joins_3  ) ⟨trivial, (v_joins_5 σ k0 x1 x3 hpre_0 hpre_1 ex1 tx1 c2 ex3 tx3 c4)⟩ hP hS dX12_joins_44
    · have c4 : ¬ x3.toInt = 2 := by have h := z_ne c4; rw [show (2 : Int32).toInt = 2 from by decide +kernel] at h; exact h
      refine lv_aload_n hx hb dX12_joins_20 rfl (lv_at hl 0 rfl) ?_
      refine rg_51 C hP wm_205 dX12_joins_21 ?_
      refine lv_iload_n hx hb dX12_joins_24 rfl (lv_at hl 1 rfl) ?_
      refine ra_51 (f := (σ.2.1 51)) C hP rfl (v_joins_6 σ k0 x1 x3 hpre_0 hpre_1 ex1 tx1 c2 ex3 tx3 c4) dX12_joins_25 (fun x5 ex5 => ?_)
      have tx5 : x5.toInt = ((σ.2.1 51) k0.toNatClampNeg).toInt := by rw [ex5]
      refine lv_iconst (v := 1) hx hb dX12_joins_26 (by decide +kernel) ?_
      refine lv_icmp_eq (tgt := 39) hx hb dX12_joins_27 (by decide) (fun c6 => ?_) (fun c6 => ?_)
      · have c6 : x5.toInt = 1 := by have h := z_eq c6; rw [show (1 : Int32).toInt = 1 from by decide +kernel] at h; exact h
        refine lv_iconst (v := 1) hx hb dX12_joins_39 (by decide +kernel) ?_
        refine lv_goto (tgt := 44) hx hb dX12_joins_40 (by decide) ?_
        exact r_retz C () (v_joins_3  ) ⟨trivial, (v_joins_7 σ k0 x1 x3 x5 hpre_0 hpre_1 ex1 tx1 c2 ex3 tx3 c4 ex5 tx5 c6)⟩ hP hS dX12_joins_44
      · have c6 : ¬ x5.toInt = 1 := by have h := z_ne c6; rw [show (1 : Int32).toInt = 1 from by decide +kernel] at h; exact h
        refine lv_aload_n hx hb dX12_joins_30 rfl (lv_at hl 0 rfl) ?_
        refine rg_51 C hP wm_205 dX12_joins_31 ?_
        refine lv_iload_n hx hb dX12_joins_34 rfl (lv_at hl 1 rfl) ?_
        refine ra_51 (f := (σ.2.1 51)) C hP rfl (v_joins_8 σ k0 x1 x3 x5 hpre_0 hpre_1 ex1 tx1 c2 ex3 tx3 c4 ex5 tx5 c6) dX12_joins_35 (fun x7 ex7 => ?_)
        have tx7 : x7.toInt = ((σ.2.1 51) k0.toNatClampNeg).toInt := by rw [ex7]
        refine lv_if_ne (tgt := 43) hx hb dX12_joins_36 (by decide) (fun c8 => ?_) (fun c8 => ?_)
        · have c8 : ¬ x7.toInt = 0 := by have h := z_ne c8; rw [show (0 : Int32).toInt = 0 from by decide +kernel] at h; exact h
          refine lv_iconst (v := 0) hx hb dX12_joins_43 (by decide +kernel) ?_
          exact r_retz C () (v_joins_10  ) ⟨trivial, (v_joins_9 σ k0 x1 x3 x5 x7 hpre_0 hpre_1 ex1 tx1 c2 ex3 tx3 c4 ex5 tx5 c6 ex7 tx7 c8)⟩ hP hS dX12_joins_44
        · have c8 : x7.toInt = 0 := by have h := z_eq c8; rw [show (0 : Int32).toInt = 0 from by decide +kernel] at h; exact h
          refine lv_iconst (v := 1) hx hb dX12_joins_39 (by decide +kernel) ?_
          refine lv_goto (tgt := 44) hx hb dX12_joins_40 (by decide) ?_
          exact r_retz C () (v_joins_3  ) ⟨trivial, (v_joins_11 σ k0 x1 x3 x5 x7 hpre_0 hpre_1 ex1 tx1 c2 ex3 tx3 c4 ex5 tx5 c6 ex7 tx7 c8)⟩ hP hS dX12_joins_44
