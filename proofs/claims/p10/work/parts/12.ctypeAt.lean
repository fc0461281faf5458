-- post @17
theorem v_paramsOf_1 (k0 : Int32) (c1 : ¬ k0.toInt = 0) : 0 ≤ (2 : Int32).toInt ∧ (2 : Int32).toInt ≤ 2 ∧ (¬ k0.toInt = 0 → 1 ≤ (2 : Int32).toInt) := by
  have q2 : (2 : Int32).toInt = 2 := by decide +kernel
  refine ⟨?_, ?_, ?_⟩ <;> first | assumption | omega | (subst_vars; omega) | trivial
-- post2 @17
theorem v_paramsOf_2 (k0 : Int32) (k1 : Int32) (c1 : ¬ k0.toInt = 0) (c2 : ¬ k1.toInt = 0) : (2 : Int32).toInt = qCnt k0.toInt k1.toInt := by
  have q2 : (2 : Int32).toInt = 2 := by decide +kernel
  unfold qCnt
  (repeat' split) <;> omega
-- post @17
theorem v_paramsOf_3 (k0 : Int32) (c1 : ¬ k0.toInt = 0) : 0 ≤ (1 : Int32).toInt ∧ (1 : Int32).toInt ≤ 2 ∧ (¬ k0.toInt = 0 → 1 ≤ (1 : Int32).toInt) := by
  have q1 : (1 : Int32).toInt = 1 := by decide +kernel
  refine ⟨?_, ?_, ?_⟩ <;> first | assumption | omega | (subst_vars; omega) | trivial
-- post2 @17
theorem v_paramsOf_4 (k0 : Int32) (k1 : Int32) (c1 : ¬ k0.toInt = 0) (c2 : k1.toInt = 0) : (1 : Int32).toInt = qCnt k0.toInt k1.toInt := by
  have q1 : (1 : Int32).toInt = 1 := by decide +kernel
  unfold qCnt
  (repeat' split) <;> omega
-- post @17
theorem v_paramsOf_5 (k0 : Int32) (c1 : k0.toInt = 0) : 0 ≤ (0 : Int32).toInt ∧ (0 : Int32).toInt ≤ 2 ∧ (¬ k0.toInt = 0 → 1 ≤ (0 : Int32).toInt) := by
  have q0 : (0 : Int32).toInt = 0 := by decide +kernel
  refine ⟨?_, ?_, ?_⟩ <;> first | assumption | omega | (subst_vars; omega) | trivial
-- post2 @17
theorem v_paramsOf_6 (k0 : Int32) (k1 : Int32) (c1 : k0.toInt = 0) : (0 : Int32).toInt = qCnt k0.toInt k1.toInt := by
  have q0 : (0 : Int32).toInt = 0 := by decide +kernel
  unfold qCnt
  (repeat' split) <;> omega
set_option maxHeartbeats 4000000 in
set_option maxRecDepth 100000 in
theorem M_paramsOf (l : Launch) (D : va_G) (cy : Nat → ClassId) (sz0 : Nat) (sa : Nat → Nat) (ad : Nat → Nat) (σ : RS) (sz : Nat) (k0 : Int32) (k1 : Int32) (hpre : True) : Met l yX12_paramsOf (Cond.code yX12_paramsOf cX12_paramsOf 2 (some .int) :: GWm) ({ frames := 0, cells := 0, slots := 0, locals := 0 }) (PcR D cy sz0 sa ad [.int k0, .int k1] σ sz) (va_Qi (fun (r : Int32) (u : Unit) => (0 ≤ r.toInt ∧ r.toInt ≤ 2 ∧ (¬ k0.toInt = 0 → 1 ≤ r.toInt)) ∧ (r.toInt = qCnt k0.toInt k1.toInt)) (fun (u : Unit) (t : State) => RP D cy ad σ t.heap) (AR cy ad sz)) 0 0 (AR cy ad sz) := by
  refine RM_of (loc0 := [(0, .int k0), (1, .int k1)]) (by decide) rfl rfl (Nat.le_of_ble_eq_true rfl) ?_
  intro p e s m below meth c ls hsz C hP hS hl
  have hx := C.1
  have hb := C.2.1
  have hown := C.2.2.2.2.1
  have hw := C.2.2.2.2.2.1
  clear hsz
  refine lv_iload_n hx hb dX12_paramsOf_0 rfl (lv_at hl 0 rfl) ?_
  refine lv_if_ne (tgt := 8) hx hb dX12_paramsOf_1 (by decide) (fun c1 => ?_) (fun c1 => ?_)
  · have c1 : ¬ k0.toInt = 0 := by have h := z_ne c1; rw [show (0 : Int32).toInt = 0 from by decide +kernel] at h; exact h
    refine lv_iload_n hx hb dX12_paramsOf_8 rfl (lv_at hl 1 rfl) ?_
    refine lv_if_ne (tgt := 16) hx hb dX12_paramsOf_9 (by decide) (fun c2 => ?_) (fun c2 => ?_)
    · have c2 : ¬ k1.toInt = 0 := by have h := z_ne c2; rw [show (0 : Int32).toInt = 0 from by decide +kernel] at h; exact h
      refine lv_iconst (v := 2) hx hb dX12_paramsOf_16 (by decide +kernel) ?_
      exact r_reti C () ⟨(v_paramsOf_1 k0 c1), (v_paramsOf_2 k0 k1 c1 c2)⟩ hP hS dX12_paramsOf_17
    · have c2 : k1.toInt = 0 := by have h := z_eq c2; rw [show (0 : Int32).toInt = 0 from by decide +kernel] at h; exact h
      refine lv_iconst (v := 1) hx hb dX12_paramsOf_12 (by decide +kernel) ?_
      refine lv_goto (tgt := 17) hx hb dX12_paramsOf_13 (by decide) ?_
      exact r_reti C () ⟨(v_paramsOf_3 k0 c1), (v_paramsOf_4 k0 k1 c1 c2)⟩ hP hS dX12_paramsOf_17
  · have c1 : k0.toInt = 0 := by have h := z_eq c1; rw [show (0 : Int32).toInt = 0 from by decide +kernel] at h; exact h
    refine lv_iconst (v := 0) hx hb dX12_paramsOf_4 (by decide +kernel) ?_
    refine lv_goto (tgt := 17) hx hb dX12_paramsOf_5 (by decide) ?_
    exact r_reti C () ⟨(v_paramsOf_5 k0 c1), (v_paramsOf_6 k0 k1 c1)⟩ hP hS dX12_paramsOf_17

-- in@5 @5
theorem v_empty_1 (k0 : Int32) (hpre_0 : 0 ≤ k0.toInt) (hpre_1 : k0.toInt < 980) : vp_in k0 980 := by
  exact vp_in_iff.mpr ⟨by omega, by omega⟩
-- post @32
theorem v_empty_2   : (1 : Int32).toInt = 0 ∨ (1 : Int32).toInt = 1 := by
  have q1 : (1 : Int32).toInt = 1 := by decide +kernel
  first | assumption | omega | (subst_vars; omega) | trivial
-- post2 @32
theorem v_empty_3 (σ : RS) (k0 : Int32) (x1 : Int32) (hpre_0 : 0 ≤ k0.toInt) (hpre_1 : k0.toInt < 980) (ex1 : x1 = (σ.2.1 51) k0.toNatClampNeg) (tx1 : x1.toInt = ((σ.2.1 51) k0.toNatClampNeg).toInt) (c2 : x1.toInt = 0) : ∀ v9 : QV, QAT (qH (σ.2.1 36) (σ.2.1 37) (σ.2.1 38) (σ.2.1 39) (σ.2.1 40) (σ.2.1 41) (σ.2.1 42) (σ.2.1 43) (σ.2.1 44) (σ.2.1 45) (σ.2.1 46) (σ.2.1 48)) (σ.1 47).toInt ((σ.2.1 51), (σ.2.2.1 52), (σ.2.2.1 53), (σ.2.2.2)) k0.toNatClampNeg v9 → ((1 : Int32).toInt = 0 → qEmpty v9 = false) ∧ (¬ (1 : Int32).toInt = 0 → qEmpty v9 = true) := by
  have q1 : (1 : Int32).toInt = 1 := by decide +kernel
  intro v9 h9
  have kd := h9.kd
  dsimp only at kd
  refine ⟨fun h => decide_eq_false (by rintro (h5 | ⟨h5, _⟩) <;> omega), fun h => decide_eq_true (by first | exact Or.inl (by omega) | (exfalso; omega))⟩
-- bool@ret @32
theorem v_empty_4   : (1 : Int32) = 0 ∨ (1 : Int32) = 1 := by
  have q1 : (1 : Int32).toInt = 1 := by decide +kernel
  first | exact Or.inl rfl | exact Or.inr rfl | exact bool_of (by omega)
-- in@14 @14
theorem v_empty_5 (σ : RS) (k0 : Int32) (x1 : Int32) (hpre_0 : 0 ≤ k0.toInt) (hpre_1 : k0.toInt < 980) (ex1 : x1 = (σ.2.1 51) k0.toNatClampNeg) (tx1 : x1.toInt = ((σ.2.1 51) k0.toNatClampNeg).toInt) (c2 : ¬ x1.toInt = 0) : vp_in k0 980 := by
  exact vp_in_iff.mpr ⟨by omega, by omega⟩
-- post @32
theorem v_empty_6   : (0 : Int32).toInt = 0 ∨ (0 : Int32).toInt = 1 := by
  have q0 : (0 : Int32).toInt = 0 := by decide +kernel
  first | assumption | omega | (subst_vars; omega) | trivial
-- post2 @32
theorem v_empty_7 (σ : RS) (k0 : Int32) (x1 : Int32) (x3 : Int32) (hpre_0 : 0 ≤ k0.toInt) (hpre_1 : k0.toInt < 980) (ex1 : x1 = (σ.2.1 51) k0.toNatClampNeg) (tx1 : x1.toInt = ((σ.2.1 51) k0.toNatClampNeg).toInt) (c2 : ¬ x1.toInt = 0) (ex3 : x3 = (σ.2.1 51) k0.toNatClampNeg) (tx3 : x3.toInt = ((σ.2.1 51) k0.toNatClampNeg).toInt) (c4 : ¬ x3.toInt = 4) : ∀ v9 : QV, QAT (qH (σ.2.1 36) (σ.2.1 37) (σ.2.1 38) (σ.2.1 39) (σ.2.1 40) (σ.2.1 41) (σ.2.1 42) (σ.2.1 43) (σ.2.1 44) (σ.2.1 45) (σ.2.1 46) (σ.2.1 48)) (σ.1 47).toInt ((σ.2.1 51), (σ.2.2.1 52), (σ.2.2.1 53), (σ.2.2.2)) k0.toNatClampNeg v9 → ((0 : Int32).toInt = 0 → qEmpty v9 = false) ∧ (¬ (0 : Int32).toInt = 0 → qEmpty v9 = true) := by
  have q0 : (0 : Int32).toInt = 0 := by decide +kernel
  intro v9 h9
  have kd := h9.kd
  dsimp only at kd
  refine ⟨fun h => decide_eq_false (by rintro (h5 | ⟨h5, _⟩) <;> omega), fun h => decide_eq_true (by first | exact Or.inl (by omega) | (exfalso; omega))⟩
-- bool@ret @32
theorem v_empty_8   : (0 : Int32) = 0 ∨ (0 : Int32) = 1 := by
  have q0 : (0 : Int32).toInt = 0 := by decide +kernel
  first | exact Or.inl rfl | exact Or.inr rfl | exact bool_of (by omega)
-- pre:lengthOf@21 @21
theorem v_empty_9 (σ : RS) (k0 : Int32) (x1 : Int32) (x3 : Int32) (hpre_0 : 0 ≤ k0.toInt) (hpre_1 : k0.toInt < 980) (ex1 : x1 = (σ.2.1 51) k0.toNatClampNeg) (tx1 : x1.toInt = ((σ.2.1 51) k0.toNatClampNeg).toInt) (c2 : ¬ x1.toInt = 0) (ex3 : x3 = (σ.2.1 51) k0.toNatClampNeg) (tx3 : x3.toInt = ((σ.2.1 51) k0.toNatClampNeg).toInt) (c4 : x3.toInt = 4) : 0 ≤ k0.toInt ∧ k0.toInt < 980 := by
  refine ⟨?_, ?_⟩ <;> first | assumption | omega | (subst_vars; omega) | trivial
-- post2 @32
theorem v_empty_10 (σ : RS) (k0 : Int32) (x1 : Int32) (x3 : Int32) (r5 : Int32) (hpre_0 : 0 ≤ k0.toInt) (hpre_1 : k0.toInt < 980) (ex1 : x1 = (σ.2.1 51) k0.toNatClampNeg) (tx1 : x1.toInt = ((σ.2.1 51) k0.toNatClampNeg).toInt) (c2 : ¬ x1.toInt = 0) (ex3 : x3 = (σ.2.1 51) k0.toNatClampNeg) (tx3 : x3.toInt = ((σ.2.1 51) k0.toNatClampNeg).toInt) (c4 : x3.toInt = 4) (hr5 : r5 = LENF ((σ.2.2.1 52) k0.toNatClampNeg)) (c6 : ¬ r5.toInt = 0) : ∀ v9 : QV, QAT (qH (σ.2.1 36) (σ.2.1 37) (σ.2.1 38) (σ.2.1 39) (σ.2.1 40) (σ.2.1 41) (σ.2.1 42) (σ.2.1 43) (σ.2.1 44) (σ.2.1 45) (σ.2.1 46) (σ.2.1 48)) (σ.1 47).toInt ((σ.2.1 51), (σ.2.2.1 52), (σ.2.2.1 53), (σ.2.2.2)) k0.toNatClampNeg v9 → ((0 : Int32).toInt = 0 → qEmpty v9 = false) ∧ (¬ (0 : Int32).toInt = 0 → qEmpty v9 = true) := by
  have q0 : (0 : Int32).toInt = 0 := by decide +kernel
  intro v9 h9
  have kd := h9.kd
  dsimp only at kd
  obtain ⟨s8, rfl, ht⟩ := h9.k4 (show ((σ.2.1 51) k0.toNatClampNeg).toInt = 4 by omega)
  have e := q_len ht.1 ht.2.2.1 ht.2.2.2
  rw [← hr5] at e
  refine ⟨fun h => decide_eq_false ?_, fun h => decide_eq_true ?_⟩
  · rintro (h5 | ⟨_, h5⟩)
    · exact absurd (show (4 : Int) = 0 from h5) (by decide)
    · have h5 := congrArg List.length h5
      have h5 : s8.length = 0 := h5
      omega
  · first | (exfalso; omega) | exact Or.inr ⟨rfl, List.length_eq_zero_iff.mp (by show s8.length = 0; omega)⟩
-- post2 @32
theorem v_empty_11 (σ : RS) (k0 : Int32) (x1 : Int32) (x3 : Int32) (r5 : Int32) (hpre_0 : 0 ≤ k0.toInt) (hpre_1 : k0.toInt < 980) (ex1 : x1 = (σ.2.1 51) k0.toNatClampNeg) (tx1 : x1.toInt = ((σ.2.1 51) k0.toNatClampNeg).toInt) (c2 : ¬ x1.toInt = 0) (ex3 : x3 = (σ.2.1 51) k0.toNatClampNeg) (tx3 : x3.toInt = ((σ.2.1 51) k0.toNatClampNeg).toInt) (c4 : x3.toInt = 4) (hr5 : r5 = LENF ((σ.2.2.1 52) k0.toNatClampNeg)) (c6 : r5.toInt = 0) : ∀ v9 : QV, QAT (qH (σ.2.1 36) (σ.2.1 37) (σ.2.1 38) (σ.2.1 39) (σ.2.1 40) (σ.2.1 41) (σ.2.1 42) (σ.2.1 43) (σ.2.1 44) (σ.2.1 45) (σ.2.1 46) (σ.2.1 48)) (σ.1 47).toInt ((σ.2.1 51), (σ.2.2.1 52), (σ.2.2.1 53), (σ.2.2.2)) k0.toNatClampNeg v9 → ((1 : Int32).toInt = 0 → qEmpty v9 = false) ∧ (¬ (1 : Int32).toInt = 0 → qEmpty v9 = true) := by
  have q1 : (1 : Int32).toInt = 1 := by decide +kernel
  intro v9 h9
  have kd := h9.kd
  dsimp only at kd
  obtain ⟨s8, rfl, ht⟩ := h9.k4 (show ((σ.2.1 51) k0.toNatClampNeg).toInt = 4 by omega)
  have e := q_len ht.1 ht.2.2.1 ht.2.2.2
  rw [← hr5] at e
  refine ⟨fun h => decide_eq_false ?_, fun h => decide_eq_true ?_⟩
  · rintro (h5 | ⟨_, h5⟩)
    · exact absurd (show (4 : Int) = 0 from h5) (by decide)
    · have h5 := congrArg List.length h5
      have h5 : s8.length = 0 := h5
      omega
  · first | (exfalso; omega) | exact Or.inr ⟨rfl, List.length_eq_zero_iff.mp (by show s8.length = 0; omega)⟩
set_option maxHeartbeats 4000000 in
set_option maxRecDepth 100000 in
theorem M_empty (l : Launch) (D : va_G) (cy : Nat → ClassId) (sz0 : Nat) (sa : Nat → Nat) (ad : Nat → Nat) (σ : RS) (sz : Nat) (k0 : Int32) (hpre : 0 ≤ k0.toInt ∧ k0.toInt < 980) : Met l yX12_empty (Cond.code yX12_empty cX12_empty 2 (some .boolean) :: GWm) ({ frames := 1, cells := 0, slots := 0, locals := 21 }) (PcR D cy sz0 sa ad [.ref (ad 0), .int k0] σ sz) (va_Qi (fun (r : Int32) (u : Unit) => (r.toInt = 0 ∨ r.toInt = 1) ∧ (∀ v9 : QV, QAT (qH (σ.2.1 36) (σ.2.1 37) (σ.2.1 38) (σ.2.1 39) (σ.2.1 40) (σ.2.1 41) (σ.2.1 42) (σ.2.1 43) (σ.2.1 44) (σ.2.1 45) (σ.2.1 46) (σ.2.1 48)) (σ.1 47).toInt ((σ.2.1 51), (σ.2.2.1 52), (σ.2.2.1 53), (σ.2.2.2)) k0.toNatClampNeg v9 → (r.toInt = 0 → qEmpty v9 = false) ∧ (¬ r.toInt = 0 → qEmpty v9 = true))) (fun (u : Unit) (t : State) => RP D cy ad σ t.heap) (AR cy ad sz)) 0 0 (AR cy ad sz) := by
  refine RM_of (loc0 := [(0, .ref (ad 0)), (1, .int k0)]) (by decide) rfl rfl (Nat.le_of_ble_eq_true rfl) ?_
  intro p e s m below meth c ls hsz C hP hS hl
  have hx := C.1
  have hb := C.2.1
  have hown := C.2.2.2.2.1
  have hw := C.2.2.2.2.2.1
  clear hsz
  obtain ⟨hpre_0, hpre_1⟩ := hpre
  refine lv_aload_n hx hb dX12_empty_0 rfl (lv_at hl 0 rfl) ?_
  refine rg_51 C hP wm_205 dX12_empty_1 ?_
  refine lv_iload_n hx hb dX12_empty_4 rfl (lv_at hl 1 rfl) ?_
  refine ra_51 (f := (σ.2.1 51)) C hP rfl (v_empty_1 k0 hpre_0 hpre_1) dX12_empty_5 (fun x1 ex1 => ?_)
  have tx1 : x1.toInt = ((σ.2.1 51) k0.toNatClampNeg).toInt := by rw [ex1]
  refine lv_if_eq (tgt := 27) hx hb dX12_empty_6 (by decide) (fun c2 => ?_) (fun c2 => ?_)
  · have c2 : x1.toInt = 0 := by have h := z_eq c2; rw [show (0 : Int32).toInt = 0 from by decide +kernel] at h; exact h
    refine lv_iconst (v := 1) hx hb dX12_empty_27 (by decide +kernel) ?_
    refine lv_goto (tgt := 32) hx hb dX12_empty_28 (by decide) ?_
    exact r_retz C () (v_empty_4  ) ⟨(v_empty_2  ), (v_empty_3 σ k0 x1 hpre_0 hpre_1 ex1 tx1 c2)⟩ hP hS dX12_empty_32
  · have c2 : ¬ x1.toInt = 0 := by have h := z_ne c2; rw [show (0 : Int32).toInt = 0 from by decide +kernel] at h; exact h
    refine lv_aload_n hx hb dX12_empty_9 rfl (lv_at hl 0 rfl) ?_
    refine rg_51 C hP wm_205 dX12_empty_10 ?_
    refine lv_iload_n hx hb dX12_empty_13 rfl (lv_at hl 1 rfl) ?_
    refine ra_51 (f := (σ.2.1 51)) C hP rfl (v_empty_5 σ k0 x1 hpre_0 hpre_1 ex1 tx1 c2) dX12_empty_14 (fun x3 ex3 => ?_)
    have tx3 : x3.toInt = ((σ.2.1 51) k0.toNatClampNeg).toInt := by rw [ex3]
    refine lv_iconst (v := 4) hx hb dX12_empty_15 (by decide +kernel) ?_
    refine lv_icmp_ne (tgt := 31) hx hb dX12_empty_16 (by decide) (fun c4 => ?_) (fun c4 => ?_)
    · have c4 : ¬ x3.toInt = 4 := by have h := z_ne c4; rw [show (4 : Int32).toInt = 4 from by decide +kernel] at h; exact h
      refine lv_iconst (v := 0) hx hb dX12_empty_31 (by decide +kernel) ?_
      exact r_retz C () (v_empty_8  ) ⟨(v_empty_6  ), (v_empty_7 σ k0 x1 x3 hpre_0 hpre_1 ex1 tx1 c2 ex3 tx3 c4)⟩ hP hS dX12_empty_32
    · have c4 : x3.toInt = 4 := by have h := z_eq c4; rw [show (4 : Int32).toInt = 4 from by decide +kernel] at h; exact h
      refine lv_aload_n hx hb dX12_empty_19 rfl (lv_at hl 0 rfl) ?_
      refine lv_iload_n hx hb dX12_empty_20 rfl (lv_at hl 1 rfl) ?_
      refine r_callVi (As := [.int k0]) (rest := []) C hP hS hl.1 ⟨Nat.zero_le _, Nat.zero_le _⟩ (M_lengthOf l D cy sz0 sa ad σ s.heap.size k0 (v_empty_9 σ k0 x1 x3 hpre_0 hpre_1 ex1 tx1 c2 ex3 tx3 c4)) (n := 1) ⟨wm_228, wm_216, by decide +kernel⟩ ⟨wm_229, wm_230, wm_10⟩ rfl rfl (lv_room (Nat.le_of_ble_eq_true rfl)) ⟨Nat.le_of_ble_eq_true rfl, Nat.le_of_ble_eq_true rfl⟩ dX12_empty_21 (fun r5 u H locs hr5 hP hS => ?_)
      have hr5 : r5 = LENF ((σ.2.2.1 52) k0.toNatClampNeg) := hr5
      refine lv_if_ne (tgt := 31) hx hb dX12_empty_24 (by decide) (fun c6 => ?_) (fun c6 => ?_)
      · have c6 : ¬ r5.toInt = 0 := by have h := z_ne c6; rw [show (0 : Int32).toInt = 0 from by decide +kernel] at h; exact h
        refine lv_iconst (v := 0) hx hb dX12_empty_31 (by decide +kernel) ?_
        exact r_retz C () (v_empty_8  ) ⟨(v_empty_6  ), (v_empty_10 σ k0 x1 x3 r5 hpre_0 hpre_1 ex1 tx1 c2 ex3 tx3 c4 hr5 c6)⟩ hP hS dX12_empty_32
      · have c6 : r5.toInt = 0 := by have h := z_eq c6; rw [show (0 : Int32).toInt = 0 from by decide +kernel] at h; exact h
        refine lv_iconst (v := 1) hx hb dX12_empty_27 (by decide +kernel) ?_
        refine lv_goto (tgt := 32) hx hb dX12_empty_28 (by decide) ?_
        exact r_retz C () (v_empty_4  ) ⟨(v_empty_2  ), (v_empty_11 σ k0 x1 x3 r5 hpre_0 hpre_1 ex1 tx1 c2 ex3 tx3 c4 hr5 c6)⟩ hP hS dX12_empty_32

-- nw@3 @3
theorem v_typeAt_1 (k0 : Int32) (x1 : Int32) (hpre_0 : 80 ≤ k0.toInt) (hpre_1 : k0.toInt < 980) (ex1 : x1 = k0 - (80 : Int32)) : x1.toInt = k0.toInt - 80 := by
  have q80 : (80 : Int32).toInt = 80 := by decide +kernel
  have w1 : (80 : Int32).toInt = 80 := by decide +kernel
  rw [ex1, z_sub (by omega) (by omega)]; first | done | omega
-- fact@6 @6
theorem v_typeAt_2 (k0 : Int32) (x1 : Int32) (x2 : Int32) (hpre_0 : 80 ≤ k0.toInt) (hpre_1 : k0.toInt < 980) (ex1 : x1 = k0 - (80 : Int32)) (tx1 : x1.toInt = k0.toInt - 80) (ex2 : x2 = x1 - x1 / (30 : Int32) * (30 : Int32)) : 0 ≤ x2.toInt ∧ x2.toInt < 30 := by
  have q30 : (30 : Int32).toInt = 30 := by decide +kernel
  have q80 : (80 : Int32).toInt = 80 := by decide +kernel
  have z := z_rem30 ex2 (by omega) (by omega)
  omega
-- in@13 @13
theorem v_typeAt_3 (k0 : Int32) (x1 : Int32) (x2 : Int32) (hpre_0 : 80 ≤ k0.toInt) (hpre_1 : k0.toInt < 980) (ex1 : x1 = k0 - (80 : Int32)) (tx1 : x1.toInt = k0.toInt - 80) (ex2 : x2 = x1 - x1 / (30 : Int32) * (30 : Int32)) (fx2 : 0 ≤ x2.toInt ∧ x2.toInt < 30) : vp_in x2 30 := by
  have q30 : (30 : Int32).toInt = 30 := by decide +kernel
  have q80 : (80 : Int32).toInt = 80 := by decide +kernel
  exact vp_in_iff.mpr ⟨by omega, by omega⟩
-- post @14
theorem v_typeAt_4 (σ : RS) (k0 : Int32) (x1 : Int32) (x2 : Int32) (x3 : Int32) (hpre_0 : 80 ≤ k0.toInt) (hpre_1 : k0.toInt < 980) (hpre_2 : TYS (σ.2.1 39)) (ex1 : x1 = k0 - (80 : Int32)) (tx1 : x1.toInt = k0.toInt - 80) (ex2 : x2 = x1 - x1 / (30 : Int32) * (30 : Int32)) (fx2 : 0 ≤ x2.toInt ∧ x2.toInt < 30) (ex3 : x3 = (σ.2.1 39) x2.toNatClampNeg) (tx3 : x3.toInt = ((σ.2.1 39) x2.toNatClampNeg).toInt) : 0 ≤ x3.toInt ∧ x3.toInt ≤ 12 := by
  have q30 : (30 : Int32).toInt = 30 := by decide +kernel
  have q80 : (80 : Int32).toInt = 80 := by decide +kernel
  have h := hpre_2 x2.toNatClampNeg
  omega
-- post2 @14
theorem v_typeAt_5 (σ : RS) (k0 : Int32) (x1 : Int32) (x2 : Int32) (x3 : Int32) (hpre_0 : 80 ≤ k0.toInt) (hpre_1 : k0.toInt < 980) (hpre_2 : TYS (σ.2.1 39)) (ex1 : x1 = k0 - (80 : Int32)) (tx1 : x1.toInt = k0.toInt - 80) (ex2 : x2 = x1 - x1 / (30 : Int32) * (30 : Int32)) (fx2 : 0 ≤ x2.toInt ∧ x2.toInt < 30) (ex3 : x3 = (σ.2.1 39) x2.toNatClampNeg) (tx3 : x3.toInt = ((σ.2.1 39) x2.toNatClampNeg).toInt) : x3.toInt = (((σ.2.1 39) ((k0.toInt - 80) % 30).toNat)).toInt := by
  have q30 : (30 : Int32).toInt = 30 := by decide +kernel
  have q80 : (80 : Int32).toInt = 80 := by decide +kernel
  have z := z_rem30 ex2 (by omega)
  rw [ex3, clampN, show x2.toInt.toNat = ((k0.toInt - 80) % 30).toNat by omega]
set_option maxHeartbeats 4000000 in
set_option maxRecDepth 100000 in
theorem M_typeAt (l : Launch) (D : va_G) (cy : Nat → ClassId) (sz0 : Nat) (sa : Nat → Nat) (ad : Nat → Nat) (σ : RS) (sz : Nat) (k0 : Int32) (hpre : 80 ≤ k0.toInt ∧ k0.toInt < 980 ∧ TYS (σ.2.1 39)) : Met l yX12_typeAt (Cond.code yX12_typeAt cX12_typeAt 3 (some .int) :: GWm) ({ frames := 0, cells := 0, slots := 0, locals := 0 }) (PcR D cy sz0 sa ad [.ref (ad 0), .int k0] σ sz) (va_Qi (fun (r : Int32) (u : Unit) => (0 ≤ r.toInt ∧ r.toInt ≤ 12) ∧ (r.toInt = (((σ.2.1 39) ((k0.toInt - 80) % 30).toNat)).toInt)) (fun (u : Unit) (t : State) => RP D cy ad σ t.heap) (AR cy ad sz)) 0 0 (AR cy ad sz) := by
  refine RM_of (loc0 := [(0, .ref (ad 0)), (1, .int k0)]) (by decide) rfl rfl (Nat.le_of_ble_eq_true rfl) ?_
  intro p e s m below meth c ls hsz C hP hS hl
  have hx := C.1
  have hb := C.2.1
  have hown := C.2.2.2.2.1
  have hw := C.2.2.2.2.2.1
  clear hsz
  obtain ⟨hpre_0, hpre_1, hpre_2⟩ := hpre
  refine lv_iload_n hx hb dX12_typeAt_0 rfl (lv_at hl 1 rfl) ?_
  refine lv_bipush (v := 80) hx hb dX12_typeAt_1 (by decide +kernel) ?_
  refine lv_isub hx hb dX12_typeAt_3 ?_
  refine lv_topi (fun x1 ex1 => ?_)
  have tx1 : x1.toInt = k0.toInt - 80 := (v_typeAt_1 k0 x1 hpre_0 hpre_1 ex1)
  refine lv_bipush (v := 30) hx hb dX12_typeAt_4 (by decide +kernel) ?_
  refine lv_irem hx hb dX12_typeAt_6 (by decide +kernel) ?_
  refine lv_topi (fun x2 ex2 => ?_)
  have fx2 : 0 ≤ x2.toInt ∧ x2.toInt < 30 := (v_typeAt_2 k0 x1 x2 hpre_0 hpre_1 ex1 tx1 ex2)
  refine lv_istore_n (lv' := [(2, .int x2), (0, .ref (ad 0)), (1, .int k0)]) hx hb dX12_typeAt_7 rfl hl (by decide) rfl (fun ls hl => ?_)
  refine lv_aload_n hx hb dX12_typeAt_8 rfl (lv_at hl 1 rfl) ?_
  refine rg_39 C hP wm_187 dX12_typeAt_9 ?_
  refine lv_iload_n hx hb dX12_typeAt_12 rfl (lv_at hl 0 rfl) ?_
  refine ra_39 (f := (σ.2.1 39)) C hP rfl (v_typeAt_3 k0 x1 x2 hpre_0 hpre_1 ex1 tx1 ex2 fx2) dX12_typeAt_13 (fun x3 ex3 => ?_)
  have tx3 : x3.toInt = ((σ.2.1 39) x2.toNatClampNeg).toInt := by rw [ex3]
  exact r_reti C () ⟨(v_typeAt_4 σ k0 x1 x2 x3 hpre_0 hpre_1 hpre_2 ex1 tx1 ex2 fx2 ex3 tx3), (v_typeAt_5 σ k0 x1 x2 x3 hpre_0 hpre_1 hpre_2 ex1 tx1 ex2 fx2 ex3 tx3)⟩ hP hS dX12_typeAt_14
