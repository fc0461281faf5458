-- post @4
theorem v_thrown_1 (σ : RS)  : (σ.1 0) = (σ.1 0) := by
  first | assumption | omega | (subst_vars; omega) | trivial
set_option maxHeartbeats 4000000 in
set_option maxRecDepth 100000 in
theorem M_thrown (l : Launch) (D : va_G) (cy : Nat → ClassId) (sz0 : Nat) (sa : Nat → Nat) (ad : Nat → Nat) (σ : RS) (sz : Nat)  (hpre : True) : Met l yX12_thrown (Cond.code yX12_thrown cX12_thrown 1 (some .int) :: GWm) ({ frames := 0, cells := 0, slots := 0, locals := 0 }) (PcR D cy sz0 sa ad [.ref (ad 0)] σ sz) (va_Qi (fun (r : Int32) (u : Unit) => r = (σ.1 0)) (fun (u : Unit) (t : State) => RP D cy ad σ t.heap) (AR cy ad sz)) 0 0 (AR cy ad sz) := by
  refine RM_of (loc0 := [(0, .ref (ad 0))]) (by decide) rfl rfl (Nat.le_of_ble_eq_true rfl) ?_
  intro p e s m below meth c ls hsz C hP hS hl
  have hx := C.1
  have hb := C.2.1
  have hown := C.2.2.2.2.1
  have hw := C.2.2.2.2.2.1
  clear hsz
  refine lv_aload_n hx hb dX12_thrown_0 rfl (lv_at hl 0 rfl) ?_
  refine rg_0 (v := (σ.1 0)) C hP rfl wm_1 dX12_thrown_1 ?_
  exact r_reti C () (v_thrown_1 σ ) hP hS dX12_thrown_4

-- post @18
theorem v_at_1 (σ : RS) (k0 : Int32) (hpre_0 : 0 ≤ (σ.1 1).toInt) (hpre_1 : (σ.1 1).toInt ≤ 40) (hpre_2 : 0 ≤ k0.toInt) (c1 : (σ.1 1).toInt ≤ k0.toInt) : (k0.toInt < (σ.1 1).toInt ∧ (0 : Int32).toInt = ((σ.2.1 2) k0.toNatClampNeg).toInt) ∨ ((σ.1 1).toInt ≤ k0.toInt ∧ (0 : Int32).toInt = 0) := by
  have q0 : (0 : Int32).toInt = 0 := by decide +kernel
  first | assumption | omega | (subst_vars; omega) | trivial
-- post2 @18
theorem v_at_2 (σ : RS) (k0 : Int32) (hpre_0 : 0 ≤ (σ.1 1).toInt) (hpre_1 : (σ.1 1).toInt ≤ 40) (hpre_2 : 0 ≤ k0.toInt) (c1 : (σ.1 1).toInt ≤ k0.toInt) : (0 : Int32).toInt = tx (σ.2.1 2) (σ.1 1) k0.toInt := by
  have q0 : (0 : Int32).toInt = 0 := by decide +kernel
  first | (rw [tx_out (by omega)]; omega) | (rw [tx_in (by omega) (by omega), ← clampN]; omega)
-- in@13 @13
theorem v_at_3 (σ : RS) (k0 : Int32) (hpre_0 : 0 ≤ (σ.1 1).toInt) (hpre_1 : (σ.1 1).toInt ≤ 40) (hpre_2 : 0 ≤ k0.toInt) (c1 : k0.toInt < (σ.1 1).toInt) : vp_in k0 40 := by
  exact vp_in_iff.mpr ⟨by omega, by omega⟩
-- post @18
theorem v_at_4 (σ : RS) (k0 : Int32) (x2 : Int32) (hpre_0 : 0 ≤ (σ.1 1).toInt) (hpre_1 : (σ.1 1).toInt ≤ 40) (hpre_2 : 0 ≤ k0.toInt) (c1 : k0.toInt < (σ.1 1).toInt) (ex2 : x2 = (σ.2.1 2) k0.toNatClampNeg) (tx2 : x2.toInt = ((σ.2.1 2) k0.toNatClampNeg).toInt) : (k0.toInt < (σ.1 1).toInt ∧ x2.toInt = ((σ.2.1 2) k0.toNatClampNeg).toInt) ∨ ((σ.1 1).toInt ≤ k0.toInt ∧ x2.toInt = 0) := by
  first | assumption | omega | (subst_vars; omega) | trivial
-- post2 @18
theorem v_at_5 (σ : RS) (k0 : Int32) (x2 : Int32) (hpre_0 : 0 ≤ (σ.1 1).toInt) (hpre_1 : (σ.1 1).toInt ≤ 40) (hpre_2 : 0 ≤ k0.toInt) (c1 : k0.toInt < (σ.1 1).toInt) (ex2 : x2 = (σ.2.1 2) k0.toNatClampNeg) (tx2 : x2.toInt = ((σ.2.1 2) k0.toNatClampNeg).toInt) : x2.toInt = tx (σ.2.1 2) (σ.1 1) k0.toInt := by
  first | (rw [tx_out (by omega)]; omega) | (rw [tx_in (by omega) (by omega), ← clampN]; omega)
set_option maxHeartbeats 4000000 in
set_option maxRecDepth 100000 in
theorem M_at (l : Launch) (D : va_G) (cy : Nat → ClassId) (sz0 : Nat) (sa : Nat → Nat) (ad : Nat → Nat) (σ : RS) (sz : Nat) (k0 : Int32) (hpre : 0 ≤ (σ.1 1).toInt ∧ (σ.1 1).toInt ≤ 40 ∧ 0 ≤ k0.toInt) : Met l yX12_at (Cond.code yX12_at cX12_at 2 (some .int) :: GWm) ({ frames := 0, cells := 0, slots := 0, locals := 0 }) (PcR D cy sz0 sa ad [.ref (ad 0), .int k0] σ sz) (va_Qi (fun (r : Int32) (u : Unit) => ((k0.toInt < (σ.1 1).toInt ∧ r.toInt = ((σ.2.1 2) k0.toNatClampNeg).toInt) ∨ ((σ.1 1).toInt ≤ k0.toInt ∧ r.toInt = 0)) ∧ (r.toInt = tx (σ.2.1 2) (σ.1 1) k0.toInt)) (fun (u : Unit) (t : State) => RP D cy ad σ t.heap) (AR cy ad sz)) 0 0 (AR cy ad sz) := by
  refine RM_of (loc0 := [(0, .ref (ad 0)), (1, .int k0)]) (by decide) rfl rfl (Nat.le_of_ble_eq_true rfl) ?_
  intro p e s m below meth c ls hsz C hP hS hl
  have hx := C.1
  have hb := C.2.1
  have hown := C.2.2.2.2.1
  have hw := C.2.2.2.2.2.1
  clear hsz
  obtain ⟨hpre_0, hpre_1, hpre_2⟩ := hpre
  refine lv_iload_n hx hb dX12_at_0 rfl (lv_at hl 1 rfl) ?_
  refine lv_aload_n hx hb dX12_at_1 rfl (lv_at hl 0 rfl) ?_
  refine rg_1 (v := (σ.1 1)) C hP rfl wm_3 dX12_at_2 ?_
  refine lv_icmp_ge (tgt := 17) hx hb dX12_at_5 (by decide) (fun c1 => ?_) (fun c1 => ?_)
  · have c1 : (σ.1 1).toInt ≤ k0.toInt := by have h := z_le c1; exact h
    refine lv_iconst (v := 0) hx hb dX12_at_17 (by decide +kernel) ?_
    exact r_reti C () ⟨(v_at_1 σ k0 hpre_0 hpre_1 hpre_2 c1), (v_at_2 σ k0 hpre_0 hpre_1 hpre_2 c1)⟩ hP hS dX12_at_18
  · have c1 : k0.toInt < (σ.1 1).toInt := by have h := z_nle c1; exact h
    refine lv_aload_n hx hb dX12_at_8 rfl (lv_at hl 0 rfl) ?_
    refine rg_2 C hP wm_4 dX12_at_9 ?_
    refine lv_iload_n hx hb dX12_at_12 rfl (lv_at hl 1 rfl) ?_
    refine ra_2 (f := (σ.2.1 2)) C hP rfl (v_at_3 σ k0 hpre_0 hpre_1 hpre_2 c1) dX12_at_13 (fun x2 ex2 => ?_)
    have tx2 : x2.toInt = ((σ.2.1 2) k0.toNatClampNeg).toInt := by rw [ex2]
    refine lv_goto (tgt := 18) hx hb dX12_at_14 (by decide) ?_
    exact r_reti C () ⟨(v_at_4 σ k0 x2 hpre_0 hpre_1 hpre_2 c1 ex2 tx2), (v_at_5 σ k0 x2 hpre_0 hpre_1 hpre_2 c1 ex2 tx2)⟩ hP hS dX12_at_18

-- pre:at@2 @2
theorem v_digit_1 (σ : RS) (k0 : Int32) (hpre_0 : 0 ≤ (σ.1 1).toInt) (hpre_1 : (σ.1 1).toInt ≤ 40) (hpre_2 : 0 ≤ k0.toInt) : 0 ≤ (σ.1 1).toInt ∧ (σ.1 1).toInt ≤ 40 ∧ 0 ≤ k0.toInt := by
  refine ⟨?_, ?_, ?_⟩ <;> first | assumption | omega | (subst_vars; omega) | trivial
-- post @25
theorem v_digit_2 (σ : RS) (k0 : Int32) (r1 : Int32) (hpre_0 : 0 ≤ (σ.1 1).toInt) (hpre_1 : (σ.1 1).toInt ≤ 40) (hpre_2 : 0 ≤ k0.toInt) (hr1 : (k0.toInt < (σ.1 1).toInt ∧ r1.toInt = ((σ.2.1 2) k0.toNatClampNeg).toInt) ∨ ((σ.1 1).toInt ≤ k0.toInt ∧ r1.toInt = 0)) (c2 : r1.toInt < 48) : ((0 : Int32).toInt = 0 ∧ ¬ ((k0.toInt < (σ.1 1).toInt ∧ 48 ≤ ((σ.2.1 2) k0.toNatClampNeg).toInt ∧ ((σ.2.1 2) k0.toNatClampNeg).toInt ≤ 57))) ∨ ((0 : Int32).toInt = 1 ∧ ((k0.toInt < (σ.1 1).toInt ∧ 48 ≤ ((σ.2.1 2) k0.toNatClampNeg).toInt ∧ ((σ.2.1 2) k0.toNatClampNeg).toInt ≤ 57))) := by
  have q0 : (0 : Int32).toInt = 0 := by decide +kernel
  first | assumption | omega | (subst_vars; omega) | trivial
-- post2 @25
theorem v_digit_3 (σ : RS) (k0 : Int32) (r1 : Int32) (hpre_0 : 0 ≤ (σ.1 1).toInt) (hpre_1 : (σ.1 1).toInt ≤ 40) (hpre_2 : 0 ≤ k0.toInt) (hr1y : r1.toInt = tx (σ.2.1 2) (σ.1 1) k0.toInt) (hr1 : (k0.toInt < (σ.1 1).toInt ∧ r1.toInt = ((σ.2.1 2) k0.toNatClampNeg).toInt) ∨ ((σ.1 1).toInt ≤ k0.toInt ∧ r1.toInt = 0)) (c2 : r1.toInt < 48) : (¬ (0 : Int32).toInt = 0 → dg (tx (σ.2.1 2) (σ.1 1) k0.toInt)) ∧ ((0 : Int32).toInt = 0 → ¬ dg (tx (σ.2.1 2) (σ.1 1) k0.toInt)) := by
  have q0 : (0 : Int32).toInt = 0 := by decide +kernel
  first | (refine ⟨?_, ?_⟩ <;> omega) | (constructor <;> intro h9 <;> omega)
-- bool@ret @25
theorem v_digit_4   : (0 : Int32) = 0 ∨ (0 : Int32) = 1 := by
  have q0 : (0 : Int32).toInt = 0 := by decide +kernel
  first | exact Or.inl rfl | exact Or.inr rfl | exact bool_of (by omega)
-- pre:at@12 @12
theorem v_digit_5 (σ : RS) (k0 : Int32) (r1 : Int32) (hpre_0 : 0 ≤ (σ.1 1).toInt) (hpre_1 : (σ.1 1).toInt ≤ 40) (hpre_2 : 0 ≤ k0.toInt) (hr1 : (k0.toInt < (σ.1 1).toInt ∧ r1.toInt = ((σ.2.1 2) k0.toNatClampNeg).toInt) ∨ ((σ.1 1).toInt ≤ k0.toInt ∧ r1.toInt = 0)) (c2 : 48 ≤ r1.toInt) : 0 ≤ (σ.1 1).toInt ∧ (σ.1 1).toInt ≤ 40 ∧ 0 ≤ k0.toInt := by
  refine ⟨?_, ?_, ?_⟩ <;> first | assumption | omega | (subst_vars; omega) | trivial
-- post @25
theorem v_digit_6 (σ : RS) (k0 : Int32) (r1 : Int32) (r3 : Int32) (hpre_0 : 0 ≤ (σ.1 1).toInt) (hpre_1 : (σ.1 1).toInt ≤ 40) (hpre_2 : 0 ≤ k0.toInt) (hr1 : (k0.toInt < (σ.1 1).toInt ∧ r1.toInt = ((σ.2.1 2) k0.toNatClampNeg).toInt) ∨ ((σ.1 1).toInt ≤ k0.toInt ∧ r1.toInt = 0)) (c2 : 48 ≤ r1.toInt) (hr3 : (k0.toInt < (σ.1 1).toInt ∧ r3.toInt = ((σ.2.1 2) k0.toNatClampNeg).toInt) ∨ ((σ.1 1).toInt ≤ k0.toInt ∧ r3.toInt = 0)) (c4 : 57 < r3.toInt) : ((0 : Int32).toInt = 0 ∧ ¬ ((k0.toInt < (σ.1 1).toInt ∧ 48 ≤ ((σ.2.1 2) k0.toNatClampNeg).toInt ∧ ((σ.2.1 2) k0.toNatClampNeg).toInt ≤ 57))) ∨ ((0 : Int32).toInt = 1 ∧ ((k0.toInt < (σ.1 1).toInt ∧ 48 ≤ ((σ.2.1 2) k0.toNatClampNeg).toInt ∧ ((σ.2.1 2) k0.toNatClampNeg).toInt ≤ 57))) := by
  have q0 : (0 : Int32).toInt = 0 := by decide +kernel
  first | assumption | omega | (subst_vars; omega) | trivial
-- post2 @25
theorem v_digit_7 (σ : RS) (k0 : Int32) (r1 : Int32) (r3 : Int32) (hpre_0 : 0 ≤ (σ.1 1).toInt) (hpre_1 : (σ.1 1).toInt ≤ 40) (hpre_2 : 0 ≤ k0.toInt) (hr1y : r1.toInt = tx (σ.2.1 2) (σ.1 1) k0.toInt) (hr1 : (k0.toInt < (σ.1 1).toInt ∧ r1.toInt = ((σ.2.1 2) k0.toNatClampNeg).toInt) ∨ ((σ.1 1).toInt ≤ k0.toInt ∧ r1.toInt = 0)) (c2 : 48 ≤ r1.toInt) (hr3y : r3.toInt = tx (σ.2.1 2) (σ.1 1) k0.toInt) (hr3 : (k0.toInt < (σ.1 1).toInt ∧ r3.toInt = ((σ.2.1 2) k0.toNatClampNeg).toInt) ∨ ((σ.1 1).toInt ≤ k0.toInt ∧ r3.toInt = 0)) (c4 : 57 < r3.toInt) : (¬ (0 : Int32).toInt = 0 → dg (tx (σ.2.1 2) (σ.1 1) k0.toInt)) ∧ ((0 : Int32).toInt = 0 → ¬ dg (tx (σ.2.1 2) (σ.1 1) k0.toInt)) := by
  have q0 : (0 : Int32).toInt = 0 := by decide +kernel
  first | (refine ⟨?_, ?_⟩ <;> omega) | (constructor <;> intro h9 <;> omega)
-- post @25
theorem v_digit_8 (σ : RS) (k0 : Int32) (r1 : Int32) (r3 : Int32) (hpre_0 : 0 ≤ (σ.1 1).toInt) (hpre_1 : (σ.1 1).toInt ≤ 40) (hpre_2 : 0 ≤ k0.toInt) (hr1 : (k0.toInt < (σ.1 1).toInt ∧ r1.toInt = ((σ.2.1 2) k0.toNatClampNeg).toInt) ∨ ((σ.1 1).toInt ≤ k0.toInt ∧ r1.toInt = 0)) (c2 : 48 ≤ r1.toInt) (hr3 : (k0.toInt < (σ.1 1).toInt ∧ r3.toInt = ((σ.2.1 2) k0.toNatClampNeg).toInt) ∨ ((σ.1 1).toInt ≤ k0.toInt ∧ r3.toInt = 0)) (c4 : r3.toInt ≤ 57) : ((1 : Int32).toInt = 0 ∧ ¬ ((k0.toInt < (σ.1 1).toInt ∧ 48 ≤ ((σ.2.1 2) k0.toNatClampNeg).toInt ∧ ((σ.2.1 2) k0.toNatClampNeg).toInt ≤ 57))) ∨ ((1 : Int32).toInt = 1 ∧ ((k0.toInt < (σ.1 1).toInt ∧ 48 ≤ ((σ.2.1 2) k0.toNatClampNeg).toInt ∧ ((σ.2.1 2) k0.toNatClampNeg).toInt ≤ 57))) := by
  have q1 : (1 : Int32).toInt = 1 := by decide +kernel
  first | assumption | omega | (subst_vars; omega) | trivial
-- post2 @25
theorem v_digit_9 (σ : RS) (k0 : Int32) (r1 : Int32) (r3 : Int32) (hpre_0 : 0 ≤ (σ.1 1).toInt) (hpre_1 : (σ.1 1).toInt ≤ 40) (hpre_2 : 0 ≤ k0.toInt) (hr1y : r1.toInt = tx (σ.2.1 2) (σ.1 1) k0.toInt) (hr1 : (k0.toInt < (σ.1 1).toInt ∧ r1.toInt = ((σ.2.1 2) k0.toNatClampNeg).toInt) ∨ ((σ.1 1).toInt ≤ k0.toInt ∧ r1.toInt = 0)) (c2 : 48 ≤ r1.toInt) (hr3y : r3.toInt = tx (σ.2.1 2) (σ.1 1) k0.toInt) (hr3 : (k0.toInt < (σ.1 1).toInt ∧ r3.toInt = ((σ.2.1 2) k0.toNatClampNeg).toInt) ∨ ((σ.1 1).toInt ≤ k0.toInt ∧ r3.toInt = 0)) (c4 : r3.toInt ≤ 57) : (¬ (1 : Int32).toInt = 0 → dg (tx (σ.2.1 2) (σ.1 1) k0.toInt)) ∧ ((1 : Int32).toInt = 0 → ¬ dg (tx (σ.2.1 2) (σ.1 1) k0.toInt)) := by
  have q1 : (1 : Int32).toInt = 1 := by decide +kernel
  first | (refine ⟨?_, ?_⟩ <;> omega) | (constructor <;> intro h9 <;> omega)
-- bool@ret @25
theorem v_digit_10   : (1 : Int32) = 0 ∨ (1 : Int32) = 1 := by
  have q1 : (1 : Int32).toInt = 1 := by decide +kernel
  first | exact Or.inl rfl | exact Or.inr rfl | exact bool_of (by omega)
set_option maxHeartbeats 4000000 in
set_option maxRecDepth 100000 in
theorem M_digit (l : Launch) (D : va_G) (cy : Nat → ClassId) (sz0 : Nat) (sa : Nat → Nat) (ad : Nat → Nat) (σ : RS) (sz : Nat) (k0 : Int32) (hpre : 0 ≤ (σ.1 1).toInt ∧ (σ.1 1).toInt ≤ 40 ∧ 0 ≤ k0.toInt) : Met l yX12_digit (Cond.code yX12_digit cX12_digit 2 (some .boolean) :: GWm) ({ frames := 1, cells := 0, slots := 0, locals := 21 }) (PcR D cy sz0 sa ad [.ref (ad 0), .int k0] σ sz) (va_Qi (fun (r : Int32) (u : Unit) => ((r.toInt = 0 ∧ ¬ ((k0.toInt < (σ.1 1).toInt ∧ 48 ≤ ((σ.2.1 2) k0.toNatClampNeg).toInt ∧ ((σ.2.1 2) k0.toNatClampNeg).toInt ≤ 57))) ∨ (r.toInt = 1 ∧ ((k0.toInt < (σ.1 1).toInt ∧ 48 ≤ ((σ.2.1 2) k0.toNatClampNeg).toInt ∧ ((σ.2.1 2) k0.toNatClampNeg).toInt ≤ 57)))) ∧ ((¬ r.toInt = 0 → dg (tx (σ.2.1 2) (σ.1 1) k0.toInt)) ∧ (r.toInt = 0 → ¬ dg (tx (σ.2.1 2) (σ.1 1) k0.toInt)))) (fun (u : Unit) (t : State) => RP D cy ad σ t.heap) (AR cy ad sz)) 0 0 (AR cy ad sz) := by
  refine RM_of (loc0 := [(0, .ref (ad 0)), (1, .int k0)]) (by decide) rfl rfl (Nat.le_of_ble_eq_true rfl) ?_
  intro p e s m below meth c ls hsz C hP hS hl
  have hx := C.1
  have hb := C.2.1
  have hown := C.2.2.2.2.1
  have hw := C.2.2.2.2.2.1
  clear hsz
  obtain ⟨hpre_0, hpre_1, hpre_2⟩ := hpre
  refine lv_aload_n hx hb dX12_digit_0 rfl (lv_at hl 0 rfl) ?_
  refine lv_iload_n hx hb dX12_digit_1 rfl (lv_at hl 1 rfl) ?_
  refine r_callVi (As := [.int k0]) (rest := []) C hP hS hl.1 ⟨Nat.zero_le _, Nat.zero_le _⟩ (M_at l D cy sz0 sa ad σ s.heap.size k0 (v_digit_1 σ k0 hpre_0 hpre_1 hpre_2)) (n := 1) ⟨wm_7, wm_5, by decide +kernel⟩ ⟨wm_8, wm_9, wm_10⟩ rfl rfl (lv_room (Nat.le_of_ble_eq_true rfl)) ⟨Nat.le_of_ble_eq_true rfl, Nat.le_of_ble_eq_true rfl⟩ dX12_digit_2 (fun r1 u H locs hr1 hP hS => ?_)
  obtain ⟨hr1, hr1y⟩ := hr1
  have hr1y : r1.toInt = tx (σ.2.1 2) (σ.1 1) k0.toInt := hr1y
  have hr1 : (k0.toInt < (σ.1 1).toInt ∧ r1.toInt = ((σ.2.1 2) k0.toNatClampNeg).toInt) ∨ ((σ.1 1).toInt ≤ k0.toInt ∧ r1.toInt = 0) := hr1
  refine lv_bipush (v := 48) hx hb dX12_digit_5 (by decide +kernel) ?_
  refine lv_icmp_lt (tgt := 24) hx hb dX12_digit_7 (by decide) (fun c2 => ?_) (fun c2 => ?_)
  · have c2 : r1.toInt < 48 := by have h := z_lt c2; rw [show (48 : Int32).toInt = 48 from by decide +kernel] at h; exact h
    refine lv_iconst (v := 0) hx hb dX12_digit_24 (by decide +kernel) ?_
    exact r_retz C () (v_digit_4  ) ⟨(v_digit_2 σ k0 r1 hpre_0 hpre_1 hpre_2 hr1 c2), (v_digit_3 σ k0 r1 hpre_0 hpre_1 hpre_2 hr1y hr1 c2)⟩ hP hS dX12_digit_25
  · have c2 : 48 ≤ r1.toInt := by have h := z_nlt c2; rw [show (48 : Int32).toInt = 48 from by decide +kernel] at h; exact h
    refine lv_aload_n hx hb dX12_digit_10 rfl (lv_at hl 0 rfl) ?_
    refine lv_iload_n hx hb dX12_digit_11 rfl (lv_at hl 1 rfl) ?_
    refine r_callVi (As := [.int k0]) (rest := []) C hP hS hl.1 ⟨Nat.zero_le _, Nat.zero_le _⟩ (M_at l D cy sz0 sa ad σ H.size k0 (v_digit_5 σ k0 r1 hpre_0 hpre_1 hpre_2 hr1 c2)) (n := 1) ⟨wm_7, wm_5, by decide +kernel⟩ ⟨wm_8, wm_9, wm_10⟩ rfl rfl (lv_room (Nat.le_of_ble_eq_true rfl)) ⟨Nat.le_of_ble_eq_true rfl, Nat.le_of_ble_eq_true rfl⟩ dX12_digit_12 (fun r3 u H locs hr3 hP hS => ?_)
    obtain ⟨hr3, hr3y⟩ := hr3
    have hr3y : r3.toInt = tx (σ.2.1 2) (σ.1 1) k0.toInt := hr3y
    have hr3 : (k0.toInt < (σ.1 1).toInt ∧ r3.toInt = ((σ.2.1 2) k0.toNatClampNeg).toInt) ∨ ((σ.1 1).toInt ≤ k0.toInt ∧ r3.toInt = 0) := hr3
    refine lv_bipush (v := 57) hx hb dX12_digit_15 (by decide +kernel) ?_
    refine lv_icmp_gt (tgt := 24) hx hb dX12_digit_17 (by decide) (fun c4 => ?_) (fun c4 => ?_)
    · have c4 : 57 < r3.toInt := by have h := z_lt c4; rw [show (57 : Int32).toInt = 57 from by decide +kernel] at h; exact h
      refine lv_iconst (v := 0) hx hb dX12_digit_24 (by decide +kernel) ?_
      exact r_retz C () (v_digit_4  ) ⟨(v_digit_6 σ k0 r1 r3 hpre_0 hpre_1 hpre_2 hr1 c2 hr3 c4), (v_digit_7 σ k0 r1 r3 hpre_0 hpre_1 hpre_2 hr1y hr1 c2 hr3y hr3 c4)⟩ hP hS dX12_digit_25
    · have c4 : r3.toInt ≤ 57 := by have h := z_nlt c4; rw [show (57 : Int32).toInt = 57 from by decide +kernel] at h; exact h
      refine lv_iconst (v := 1) hx hb dX12_digit_20 (by decide +kernel) ?_
      refine lv_goto (tgt := 25) hx hb dX12_digit_21 (by decide) ?_
      exact r_retz C () (v_digit_10  ) ⟨(v_digit_8 σ k0 r1 r3 hpre_0 hpre_1 hpre_2 hr1 c2 hr3 c4), (v_digit_9 σ k0 r1 r3 hpre_0 hpre_1 hpre_2 hr1y hr1 c2 hr3y hr3 c4)⟩ hP hS dX12_digit_25

-- pre:at@2 @2
theorem v_lower_1 (σ : RS) (k0 : Int32) (hpre_0 : 0 ≤ (σ.1 1).toInt) (hpre_1 : (σ.1 1).toInt ≤ 40) (hpre_2 : 0 ≤ k0.toInt) : 0 ≤ (σ.1 1).toInt ∧ (σ.1 1).toInt ≤ 40 ∧ 0 ≤ k0.toInt := by
  refine ⟨?_, ?_, ?_⟩ <;> first | assumption | omega | (subst_vars; omega) | trivial
-- post @25
theorem v_lower_2 (σ : RS) (k0 : Int32) (r1 : Int32) (hpre_0 : 0 ≤ (σ.1 1).toInt) (hpre_1 : (σ.1 1).toInt ≤ 40) (hpre_2 : 0 ≤ k0.toInt) (hr1 : (k0.toInt < (σ.1 1).toInt ∧ r1.toInt = ((σ.2.1 2) k0.toNatClampNeg).toInt) ∨ ((σ.1 1).toInt ≤ k0.toInt ∧ r1.toInt = 0)) (c2 : r1.toInt < 97) : ((0 : Int32).toInt = 0 ∧ ¬ ((k0.toInt < (σ.1 1).toInt ∧ 97 ≤ ((σ.2.1 2) k0.toNatClampNeg).toInt ∧ ((σ.2.1 2) k0.toNatClampNeg).toInt ≤ 122))) ∨ ((0 : Int32).toInt = 1 ∧ ((k0.toInt < (σ.1 1).toInt ∧ 97 ≤ ((σ.2.1 2) k0.toNatClampNeg).toInt ∧ ((σ.2.1 2) k0.toNatClampNeg).toInt ≤ 122))) := by
  have q0 : (0 : Int32).toInt = 0 := by decide +kernel
  first | assumption | omega | (subst_vars; omega) | trivial
-- post2 @25
theorem v_lower_3 (σ : RS) (k0 : Int32) (r1 : Int32) (hpre_0 : 0 ≤ (σ.1 1).toInt) (hpre_1 : (σ.1 1).toInt ≤ 40) (hpre_2 : 0 ≤ k0.toInt) (hr1y : r1.toInt = tx (σ.2.1 2) (σ.1 1) k0.toInt) (hr1 : (k0.toInt < (σ.1 1).toInt ∧ r1.toInt = ((σ.2.1 2) k0.toNatClampNeg).toInt) ∨ ((σ.1 1).toInt ≤ k0.toInt ∧ r1.toInt = 0)) (c2 : r1.toInt < 97) : (¬ (0 : Int32).toInt = 0 → lw (tx (σ.2.1 2) (σ.1 1) k0.toInt)) ∧ ((0 : Int32).toInt = 0 → ¬ lw (tx (σ.2.1 2) (σ.1 1) k0.toInt)) := by
  have q0 : (0 : Int32).toInt = 0 := by decide +kernel
  first | (refine ⟨?_, ?_⟩ <;> omega) | (constructor <;> intro h9 <;> omega)
-- bool@ret @25
theorem v_lower_4   : (0 : Int32) = 0 ∨ (0 : Int32) = 1 := by
  have q0 : (0 : Int32).toInt = 0 := by decide +kernel
  first | exact Or.inl rfl | exact Or.inr rfl | exact bool_of (by omega)
-- pre:at@12 @12
theorem v_lower_5 (σ : RS) (k0 : Int32) (r1 : Int32) (hpre_0 : 0 ≤ (σ.1 1).toInt) (hpre_1 : (σ.1 1).toInt ≤ 40) (hpre_2 : 0 ≤ k0.toInt) (hr1 : (k0.toInt < (σ.1 1).toInt ∧ r1.toInt = ((σ.2.1 2) k0.toNatClampNeg).toInt) ∨ ((σ.1 1).toInt ≤ k0.toInt ∧ r1.toInt = 0)) (c2 : 97 ≤ r1.toInt) : 0 ≤ (σ.1 1).toInt ∧ (σ.1 1).toInt ≤ 40 ∧ 0 ≤ k0.toInt := by
  refine ⟨?_, ?_, ?_⟩ <;> first | assumption | omega | (subst_vars; omega) | trivial
-- post @25
theorem v_lower_6 (σ : RS) (k0 : Int32) (r1 : Int32) (r3 : Int32) (hpre_0 : 0 ≤ (σ.1 1).toInt) (hpre_1 : (σ.1 1).toInt ≤ 40) (hpre_2 : 0 ≤ k0.toInt) (hr1 : (k0.toInt < (σ.1 1).toInt ∧ r1.toInt = ((σ.2.1 2) k0.toNatClampNeg).toInt) ∨ ((σ.1 1).toInt ≤ k0.toInt ∧ r1.toInt = 0)) (c2 : 97 ≤ r1.toInt) (hr3 : (k0.toInt < (σ.1 1).toInt ∧ r3.toInt = ((σ.2.1 2) k0.toNatClampNeg).toInt) ∨ ((σ.1 1).toInt ≤ k0.toInt ∧ r3.toInt = 0)) (c4 : 122 < r3.toInt) : ((0 : Int32).toInt = 0 ∧ ¬ ((k0.toInt < (σ.1 1).toInt ∧ 97 ≤ ((σ.2.1 2) k0.toNatClampNeg).toInt ∧ ((σ.2.1 2) k0.toNatClampNeg).toInt ≤ 122))) ∨ ((0 : Int32).toInt = 1 ∧ ((k0.toInt < (σ.1 1).toInt ∧ 97 ≤ ((σ.2.1 2) k0.toNatClampNeg).toInt ∧ ((σ.2.1 2) k0.toNatClampNeg).toInt ≤ 122))) := by
  have q0 : (0 : Int32).toInt = 0 := by decide +kernel
  first | assumption | omega | (subst_vars; omega) | trivial
-- post2 @25
theorem v_lower_7 (σ : RS) (k0 : Int32) (r1 : Int32) (r3 : Int32) (hpre_0 : 0 ≤ (σ.1 1).toInt) (hpre_1 : (σ.1 1).toInt ≤ 40) (hpre_2 : 0 ≤ k0.toInt) (hr1y : r1.toInt = tx (σ.2.1 2) (σ.1 1) k0.toInt) (hr1 : (k0.toInt < (σ.1 1).toInt ∧ r1.toInt = ((σ.2.1 2) k0.toNatClampNeg).toInt) ∨ ((σ.1 1).toInt ≤ k0.toInt ∧ r1.toInt = 0)) (c2 : 97 ≤ r1.toInt) (hr3y : r3.toInt = tx (σ.2.1 2) (σ.1 1) k0.toInt) (hr3 : (k0.toInt < (σ.1 1).toInt ∧ r3.toInt = ((σ.2.1 2) k0.toNatClampNeg).toInt) ∨ ((σ.1 1).toInt ≤ k0.toInt ∧ r3.toInt = 0)) (c4 : 122 < r3.toInt) : (¬ (0 : Int32).toInt = 0 → lw (tx (σ.2.1 2) (σ.1 1) k0.toInt)) ∧ ((0 : Int32).toInt = 0 → ¬ lw (tx (σ.2.1 2) (σ.1 1) k0.toInt)) := by
  have q0 : (0 : Int32).toInt = 0 := by decide +kernel
  first | (refine ⟨?_, ?_⟩ <;> omega) | (constructor <;> intro h9 <;> omega)
-- post @25
theorem v_lower_8 (σ : RS) (k0 : Int32) (r1 : Int32) (r3 : Int32) (hpre_0 : 0 ≤ (σ.1 1).toInt) (hpre_1 : (σ.1 1).toInt ≤ 40) (hpre_2 : 0 ≤ k0.toInt) (hr1 : (k0.toInt < (σ.1 1).toInt ∧ r1.toInt = ((σ.2.1 2) k0.toNatClampNeg).toInt) ∨ ((σ.1 1).toInt ≤ k0.toInt ∧ r1.toInt = 0)) (c2 : 97 ≤ r1.toInt) (hr3 : (k0.toInt < (σ.1 1).toInt ∧ r3.toInt = ((σ.2.1 2) k0.toNatClampNeg).toInt) ∨ ((σ.1 1).toInt ≤ k0.toInt ∧ r3.toInt = 0)) (c4 : r3.toInt ≤ 122) : ((1 : Int32).toInt = 0 ∧ ¬ ((k0.toInt < (σ.1 1).toInt ∧ 97 ≤ ((σ.2.1 2) k0.toNatClampNeg).toInt ∧ ((σ.2.1 2) k0.toNatClampNeg).toInt ≤ 122))) ∨ ((1 : Int32).toInt = 1 ∧ ((k0.toInt < (σ.1 1).toInt ∧ 97 ≤ ((σ.2.1 2) k0.toNatClampNeg).toInt ∧ ((σ.2.1 2) k0.toNatClampNeg).toInt ≤ 122))) := by
  have q1 : (1 : Int32).toInt = 1 := by decide +kernel
  first | assumption | omega | (subst_vars; omega) | trivial
-- post2 @25
theorem v_lower_9 (σ : RS) (k0 : Int32) (r1 : Int32) (r3 : Int32) (hpre_0 : 0 ≤ (σ.1 1).toInt) (hpre_1 : (σ.1 1).toInt ≤ 40) (hpre_2 : 0 ≤ k0.toInt) (hr1y : r1.toInt = tx (σ.2.1 2) (σ.1 1) k0.toInt) (hr1 : (k0.toInt < (σ.1 1).toInt ∧ r1.toInt = ((σ.2.1 2) k0.toNatClampNeg).toInt) ∨ ((σ.1 1).toInt ≤ k0.toInt ∧ r1.toInt = 0)) (c2 : 97 ≤ r1.toInt) (hr3y : r3.toInt = tx (σ.2.1 2) (σ.1 1) k0.toInt) (hr3 : (k0.toInt < (σ.1 1).toInt ∧ r3.toInt = ((σ.2.1 2) k0.toNatClampNeg).toInt) ∨ ((σ.1 1).toInt ≤ k0.toInt ∧ r3.toInt = 0)) (c4 : r3.toInt ≤ 122) : (¬ (1 : Int32).toInt = 0 → lw (tx (σ.2.1 2) (σ.1 1) k0.toInt)) ∧ ((1 : Int32).toInt = 0 → ¬ lw (tx (σ.2.1 2) (σ.1 1) k0.toInt)) := by
  have q1 : (1 : Int32).toInt = 1 := by decide +kernel
  first | (refine ⟨?_, ?_⟩ <;> omega) | (constructor <;> intro h9 <;> omega)
-- bool@ret @25
theorem v_lower_10   : (1 : Int32) = 0 ∨ (1 : Int32) = 1 := by
  have q1 : (1 : Int32).toInt = 1 := by decide +kernel
  first | exact Or.inl rfl | exact Or.inr rfl | exact bool_of (by omega)
set_option maxHeartbeats 4000000 in
set_option maxRecDepth 100000 in
theorem M_lower (l : Launch) (D : va_G) (cy : Nat → ClassId) (sz0 : Nat) (sa : Nat → Nat) (ad : Nat → Nat) (σ : RS) (sz : Nat) (k0 : Int32) (hpre : 0 ≤ (σ.1 1).toInt ∧ (σ.1 1).toInt ≤ 40 ∧ 0 ≤ k0.toInt) : Met l yX12_lower (Cond.code yX12_lower cX12_lower 2 (some .boolean) :: GWm) ({ frames := 1, cells := 0, slots := 0, locals := 21 }) (PcR D cy sz0 sa ad [.ref (ad 0), .int k0] σ sz) (va_Qi (fun (r : Int32) (u : Unit) => ((r.toInt = 0 ∧ ¬ ((k0.toInt < (σ.1 1).toInt ∧ 97 ≤ ((σ.2.1 2) k0.toNatClampNeg).toInt ∧ ((σ.2.1 2) k0.toNatClampNeg).toInt ≤ 122))) ∨ (r.toInt = 1 ∧ ((k0.toInt < (σ.1 1).toInt ∧ 97 ≤ ((σ.2.1 2) k0.toNatClampNeg).toInt ∧ ((σ.2.1 2) k0.toNatClampNeg).toInt ≤ 122)))) ∧ ((¬ r.toInt = 0 → lw (tx (σ.2.1 2) (σ.1 1) k0.toInt)) ∧ (r.toInt = 0 → ¬ lw (tx (σ.2.1 2) (σ.1 1) k0.toInt)))) (fun (u : Unit) (t : State) => RP D cy ad σ t.heap) (AR cy ad sz)) 0 0 (AR cy ad sz) := by
  refine RM_of (loc0 := [(0, .ref (ad 0)), (1, .int k0)]) (by decide) rfl rfl (Nat.le_of_ble_eq_true rfl) ?_
  intro p e s m below meth c ls hsz C hP hS hl
  have hx := C.1
  have hb := C.2.1
  have hown := C.2.2.2.2.1
  have hw := C.2.2.2.2.2.1
  clear hsz
  obtain ⟨hpre_0, hpre_1, hpre_2⟩ := hpre
  refine lv_aload_n hx hb dX12_lower_0 rfl (lv_at hl 0 rfl) ?_
  refine lv_iload_n hx hb dX12_lower_1 rfl (lv_at hl 1 rfl) ?_
  refine r_callVi (As := [.int k0]) (rest := []) C hP hS hl.1 ⟨Nat.zero_le _, Nat.zero_le _⟩ (M_at l D cy sz0 sa ad σ s.heap.size k0 (v_lower_1 σ k0 hpre_0 hpre_1 hpre_2)) (n := 1) ⟨wm_7, wm_5, by decide +kernel⟩ ⟨wm_8, wm_9, wm_10⟩ rfl rfl (lv_room (Nat.le_of_ble_eq_true rfl)) ⟨Nat.le_of_ble_eq_true rfl, Nat.le_of_ble_eq_true rfl⟩ dX12_lower_2 (fun r1 u H locs hr1 hP hS => ?_)
  obtain ⟨hr1, hr1y⟩ := hr1
  have hr1y : r1.toInt = tx (σ.2.1 2) (σ.1 1) k0.toInt := hr1y
  have hr1 : (k0.toInt < (σ.1 1).toInt ∧ r1.toInt = ((σ.2.1 2) k0.toNatClampNeg).toInt) ∨ ((σ.1 1).toInt ≤ k0.toInt ∧ r1.toInt = 0) := hr1
  refine lv_bipush (v := 97) hx hb dX12_lower_5 (by decide +kernel) ?_
  refine lv_icmp_lt (tgt := 24) hx hb dX12_lower_7 (by decide) (fun c2 => ?_) (fun c2 => ?_)
  · have c2 : r1.toInt < 97 := by have h := z_lt c2; rw [show (97 : Int32).toInt = 97 from by decide +kernel] at h; exact h
    refine lv_iconst (v := 0) hx hb dX12_lower_24 (by decide +kernel) ?_
    exact r_retz C () (v_lower_4  ) ⟨(v_lower_2 σ k0 r1 hpre_0 hpre_1 hpre_2 hr1 c2), (v_lower_3 σ k0 r1 hpre_0 hpre_1 hpre_2 hr1y hr1 c2)⟩ hP hS dX12_lower_25
  · have c2 : 97 ≤ r1.toInt := by have h := z_nlt c2; rw [show (97 : Int32).toInt = 97 from by decide +kernel] at h; exact h
    refine lv_aload_n hx hb dX12_lower_10 rfl (lv_at hl 0 rfl) ?_
    refine lv_iload_n hx hb dX12_lower_11 rfl (lv_at hl 1 rfl) ?_
    refine r_callVi (As := [.int k0]) (rest := []) C hP hS hl.1 ⟨Nat.zero_le _, Nat.zero_le _⟩ (M_at l D cy sz0 sa ad σ H.size k0 (v_lower_5 σ k0 r1 hpre_0 hpre_1 hpre_2 hr1 c2)) (n := 1) ⟨wm_7, wm_5, by decide +kernel⟩ ⟨wm_8, wm_9, wm_10⟩ rfl rfl (lv_room (Nat.le_of_ble_eq_true rfl)) ⟨Nat.le_of_ble_eq_true rfl, Nat.le_of_ble_eq_true rfl⟩ dX12_lower_12 (fun r3 u H locs hr3 hP hS => ?_)
    obtain ⟨hr3, hr3y⟩ := hr3
    have hr3y : r3.toInt = tx (σ.2.1 2) (σ.1 1) k0.toInt := hr3y
    have hr3 : (k0.toInt < (σ.1 1).toInt ∧ r3.toInt = ((σ.2.1 2) k0.toNatClampNeg).toInt) ∨ ((σ.1 1).toInt ≤ k0.toInt ∧ r3.toInt = 0) := hr3
    refine lv_bipush (v := 122) hx hb dX12_lower_15 (by decide +kernel) ?_
    refine lv_icmp_gt (tgt := 24) hx hb dX12_lower_17 (by decide) (fun c4 => ?_) (fun c4 => ?_)
    · have c4 : 122 < r3.toInt := by have h := z_lt c4; rw [show (122 : Int32).toInt = 122 from by decide +kernel] at h; exact h
      refine lv_iconst (v := 0) hx hb dX12_lower_24 (by decide +kernel) ?_
      exact r_retz C () (v_lower_4  ) ⟨(v_lower_6 σ k0 r1 r3 hpre_0 hpre_1 hpre_2 hr1 c2 hr3 c4), (v_lower_7 σ k0 r1 r3 hpre_0 hpre_1 hpre_2 hr1y hr1 c2 hr3y hr3 c4)⟩ hP hS dX12_lower_25
    · have c4 : r3.toInt ≤ 122 := by have h := z_nlt c4; rw [show (122 : Int32).toInt = 122 from by decide +kernel] at h; exact h
      refine lv_iconst (v := 1) hx hb dX12_lower_20 (by decide +kernel) ?_
      refine lv_goto (tgt := 25) hx hb dX12_lower_21 (by decide) ?_
      exact r_retz C () (v_lower_10  ) ⟨(v_lower_8 σ k0 r1 r3 hpre_0 hpre_1 hpre_2 hr1 c2 hr3 c4), (v_lower_9 σ k0 r1 r3 hpre_0 hpre_1 hpre_2 hr1y hr1 c2 hr3y hr3 c4)⟩ hP hS dX12_lower_25

-- post @17
theorem v_wrong_1 (σ : RS) (k0 : Int32) (c1 : ¬ (σ.1 8).toInt = 0) : ((σ.1 8).toInt = 0 → (σ.1 8).toInt = k0.toInt) ∧ (¬ (σ.1 8).toInt = 0 → (σ.1 8).toInt = (σ.1 8).toInt) := by
  refine ⟨fun h => ?_, fun h => ?_⟩ <;> omega
-- post2 @17
theorem v_wrong_2 (σ : RS) (k1 : Int32) (c1 : ¬ (σ.1 8).toInt = 0) : ((σ.1 8).toInt = 0 → (σ.1 9).toInt = k1.toInt) ∧ (¬ (σ.1 8).toInt = 0 → (σ.1 9).toInt = (σ.1 9).toInt) := by
  refine ⟨fun h => ?_, fun h => ?_⟩ <;> first | rfl | (exfalso; omega)
-- post @17
theorem v_wrong_3 (σ : RS) (k0 : Int32) (c1 : (σ.1 8).toInt = 0) : ((σ.1 8).toInt = 0 → k0.toInt = k0.toInt) ∧ (¬ (σ.1 8).toInt = 0 → k0.toInt = (σ.1 8).toInt) := by
  refine ⟨fun h => ?_, fun h => ?_⟩ <;> omega
-- post2 @17
theorem v_wrong_4 (σ : RS) (k1 : Int32) (c1 : (σ.1 8).toInt = 0) : ((σ.1 8).toInt = 0 → k1.toInt = k1.toInt) ∧ (¬ (σ.1 8).toInt = 0 → k1.toInt = (σ.1 9).toInt) := by
  refine ⟨fun h => ?_, fun h => ?_⟩ <;> first | rfl | (exfalso; omega)
set_option maxHeartbeats 4000000 in
set_option maxRecDepth 100000 in
theorem M_wrong (l : Launch) (D : va_G) (cy : Nat → ClassId) (sz0 : Nat) (sa : Nat → Nat) (ad : Nat → Nat) (σ : RS) (sz : Nat) (k0 : Int32) (k1 : Int32) (hpre : True) : Met l yX12_wrong (Cond.code yX12_wrong cX12_wrong 3 none :: GWm) ({ frames := 0, cells := 0, slots := 0, locals := 0 }) (PcR D cy sz0 sa ad [.ref (ad 0), .int k0, .int k1] σ sz) (va_Qv (fun (u : Int32 × Int32) => (((σ.1 8).toInt = 0 → u.1.toInt = k0.toInt) ∧ (¬ (σ.1 8).toInt = 0 → u.1.toInt = (σ.1 8).toInt)) ∧ (((σ.1 8).toInt = 0 → u.2.toInt = k1.toInt) ∧ (¬ (σ.1 8).toInt = 0 → u.2.toInt = (σ.1 9).toInt))) (fun (u : Int32 × Int32) (t : State) => RP D cy ad (rS (rS σ 8 u.1) 9 u.2) t.heap) (AR cy ad sz)) 0 0 (AR cy ad sz) := by
  refine RM_of (loc0 := [(0, .ref (ad 0)), (1, .int k0), (2, .int k1)]) (by decide) rfl rfl (Nat.le_of_ble_eq_true rfl) ?_
  intro p e s m below meth c ls hsz C hP hS hl
  have hx := C.1
  have hb := C.2.1
  have hown := C.2.2.2.2.1
  have hw := C.2.2.2.2.2.1
  clear hsz
  refine lv_aload_n hx hb dX12_wrong_0 rfl (lv_at hl 0 rfl) ?_
  refine rg_8 (v := (σ.1 8)) C hP rfl wm_13 dX12_wrong_1 ?_
  refine lv_if_ne (tgt := 17) hx hb dX12_wrong_4 (by decide) (fun c1 => ?_) (fun c1 => ?_)
  · have c1 : ¬ (σ.1 8).toInt = 0 := by have h := z_ne c1; rw [show (0 : Int32).toInt = 0 from by decide +kernel] at h; exact h
    have hP : RP D cy ad (rS (rS σ 8 (σ.1 8)) 9 (σ.1 9)) s.heap := RP.cong hP (Eq.trans (b := (σ.1 0)) rfl rfl) (Eq.trans (b := (σ.1 1)) rfl rfl) (Eq.trans (b := (σ.2.1 2)) rfl rfl) (Eq.trans (b := (σ.1 3)) rfl rfl) (Eq.trans (b := (σ.2.1 4)) rfl rfl) (Eq.trans (b := (σ.2.1 5)) rfl rfl) (Eq.trans (b := (σ.2.2.1 6)) rfl rfl) (Eq.trans (b := (σ.2.1 7)) rfl rfl) (Eq.trans (b := (σ.1 8)) rfl rfl) (Eq.trans (b := (σ.1 9)) rfl rfl) (Eq.trans (b := (σ.1 10)) rfl rfl) (Eq.trans (b := (σ.2.1 11)) rfl rfl) (Eq.trans (b := (σ.2.2.1 12)) rfl rfl) (Eq.trans (b := (σ.2.1 13)) rfl rfl) (Eq.trans (b := (σ.1 14)) rfl rfl) (Eq.trans (b := (σ.1 15)) rfl rfl) (Eq.trans (b := (σ.1 16)) rfl rfl) (Eq.trans (b := (σ.1 17)) rfl rfl) (Eq.trans (b := (σ.1 18)) rfl rfl) (Eq.trans (b := (σ.1 19)) rfl rfl) (Eq.trans (b := (σ.2.1 20)) rfl rfl) (Eq.trans (b := (σ.2.1 21)) rfl rfl) (Eq.trans (b := (σ.2.1 22)) rfl rfl) (Eq.trans (b := (σ.2.1 23)) rfl rfl) (Eq.trans (b := (σ.2.1 24)) rfl rfl) (Eq.trans (b := (σ.2.1 25)) rfl rfl) (Eq.trans (b := (σ.2.1 26)) rfl rfl) (Eq.trans (b := (σ.2.1 27)) rfl rfl) (Eq.trans (b := (σ.2.1 28)) rfl rfl) (Eq.trans (b := (σ.1 29)) rfl rfl) (Eq.trans (b := (σ.2.1 30)) rfl rfl) (Eq.trans (b := (σ.2.1 31)) rfl rfl) (Eq.trans (b := (σ.2.1 32)) rfl rfl) (Eq.trans (b := (σ.1 33)) rfl rfl) (Eq.trans (b := (σ.1 34)) rfl rfl) (Eq.trans (b := (σ.1 35)) rfl rfl) (Eq.trans (b := (σ.2.1 36)) rfl rfl) (Eq.trans (b := (σ.2.1 37)) rfl rfl) (Eq.trans (b := (σ.2.1 38)) rfl rfl) (Eq.trans (b := (σ.2.1 39)) rfl rfl) (Eq.trans (b := (σ.2.1 40)) rfl rfl) (Eq.trans (b := (σ.2.1 41)) rfl rfl) (Eq.trans (b := (σ.2.1 42)) rfl rfl) (Eq.trans (b := (σ.2.1 43)) rfl rfl) (Eq.trans (b := (σ.2.1 44)) rfl rfl) (Eq.trans (b := (σ.2.1 45)) rfl rfl) (Eq.trans (b := (σ.2.1 46)) rfl rfl) (Eq.trans (b := (σ.1 47)) rfl rfl) (Eq.trans (b := (σ.2.1 48)) rfl rfl) (Eq.trans (b := (σ.1 49)) rfl rfl) (Eq.trans (b := (σ.2.1 50)) rfl rfl) (Eq.trans (b := (σ.2.1 51)) rfl rfl) (Eq.trans (b := (σ.2.2.1 52)) rfl rfl) (Eq.trans (b := (σ.2.2.1 53)) rfl rfl) (Eq.trans (b := (σ.2.2.2)) rfl rfl) (Eq.trans (b := (σ.1 55)) rfl rfl) (Eq.trans (b := (σ.1 56)) rfl rfl) (Eq.trans (b := (σ.1 57)) rfl rfl) (Eq.trans (b := (σ.2.1 58)) rfl rfl) (Eq.trans (b := (σ.1 59)) rfl rfl)
    exact r_retv C ⟨(σ.1 8), (σ.1 9)⟩ ⟨(v_wrong_1 σ k0 c1), (v_wrong_2 σ k1 c1)⟩ hP hS dX12_wrong_17
  · have c1 : (σ.1 8).toInt = 0 := by have h := z_eq c1; rw [show (0 : Int32).toInt = 0 from by decide +kernel] at h; exact h
    refine lv_aload_n hx hb dX12_wrong_7 rfl (lv_at hl 0 rfl) ?_
    refine lv_iload_n hx hb dX12_wrong_8 rfl (lv_at hl 1 rfl) ?_
    refine rp_8 C hP hS wm_13 dX12_wrong_9 (fun H locs hP hS => ?_)
    refine lv_aload_n hx hb dX12_wrong_12 rfl (lv_at hl 0 rfl) ?_
    refine lv_iload_n hx hb dX12_wrong_13 rfl (lv_at hl 2 rfl) ?_
    refine rp_9 C hP hS wm_14 dX12_wrong_14 (fun H locs hP hS => ?_)
    exact r_retv C ⟨k0, k1⟩ ⟨(v_wrong_3 σ k0 c1), (v_wrong_4 σ k1 c1)⟩ hP hS dX12_wrong_17

-- in@9 @9
theorem v_add_1 (σ : RS) (hpre_0 : 0 ≤ (σ.1 3).toInt) (hpre_1 : (σ.1 3).toInt ≤ 41) : vp_in (σ.1 3) 42 := by
  exact vp_in_iff.mpr ⟨by omega, by omega⟩
-- nw@46 @46
theorem v_add_2 (σ : RS) (x1 : Int32) (hpre_0 : 0 ≤ (σ.1 3).toInt) (hpre_1 : (σ.1 3).toInt ≤ 41) (ex1 : x1 = (σ.1 3) + (1 : Int32)) : x1.toInt = (σ.1 3).toInt + 1 := by
  have q1 : (1 : Int32).toInt = 1 := by decide +kernel
  have w1 : (1 : Int32).toInt = 1 := by decide +kernel
  rw [ex1, z_add (by omega) (by omega)]; first | done | omega
-- post @50
theorem v_add_3 (σ : RS) (x1 : Int32) (hpre_0 : 0 ≤ (σ.1 3).toInt) (hpre_1 : (σ.1 3).toInt ≤ 41) (ex1 : x1 = (σ.1 3) + (1 : Int32)) (tx1 : x1.toInt = (σ.1 3).toInt + 1) : x1.toInt = (σ.1 3).toInt + 1 := by
  have q1 : (1 : Int32).toInt = 1 := by decide +kernel
  first | assumption | omega | (subst_vars; omega) | trivial
set_option maxHeartbeats 4000000 in
set_option maxRecDepth 100000 in
theorem M_add (l : Launch) (D : va_G) (cy : Nat → ClassId) (sz0 : Nat) (sa : Nat → Nat) (ad : Nat → Nat) (σ : RS) (sz : Nat) (k0 : Int32) (k1 : Int32) (k2 : Int64) (hpre : 0 ≤ (σ.1 3).toInt ∧ (σ.1 3).toInt ≤ 41) : Met l yX12_add (Cond.code yX12_add cX12_add 5 none :: GWm) ({ frames := 0, cells := 0, slots := 0, locals := 0 }) (PcR D cy sz0 sa ad [.ref (ad 0), .int k0, .int k1, .long k2] σ sz) (va_Qv (fun (u : Int32) => u.toInt = (σ.1 3).toInt + 1) (fun (u : Int32) (t : State) => RP D cy ad (rS (rA (rJ (rA (rA σ 4 (upd (σ.2.1 4) (σ.1 3).toNatClampNeg k0)) 5 (upd (σ.2.1 5) (σ.1 3).toNatClampNeg k1)) 6 (vp_updL (σ.2.2.1 6) (σ.1 3).toNatClampNeg k2)) 7 (upd (σ.2.1 7) (σ.1 3).toNatClampNeg (0 : Int32))) 3 u) t.heap) (AR cy ad sz)) 0 0 (AR cy ad sz) := by
  refine RM_of (loc0 := [(0, .ref (ad 0)), (1, .int k0), (2, .int k1), (3, .long k2)]) (by decide) rfl rfl (Nat.le_of_ble_eq_true rfl) ?_
  intro p e s m below meth c ls hsz C hP hS hl
  have hx := C.1
  have hb := C.2.1
  have hown := C.2.2.2.2.1
  have hw := C.2.2.2.2.2.1
  clear hsz
  obtain ⟨hpre_0, hpre_1⟩ := hpre
  refine lv_aload_n hx hb dX12_add_0 rfl (lv_at hl 0 rfl) ?_
  refine rg_4 C hP wm_16 dX12_add_1 ?_
  refine lv_aload_n hx hb dX12_add_4 rfl (lv_at hl 0 rfl) ?_
  refine rg_3 (v := (σ.1 3)) C hP rfl wm_17 dX12_add_5 ?_
  refine lv_iload_n hx hb dX12_add_8 rfl (lv_at hl 1 rfl) ?_
  refine rw_4 (f := (σ.2.1 4)) C hP hS rfl (v_add_1 σ hpre_0 hpre_1) dX12_add_9 (fun H locs hP hS => ?_)
  refine lv_aload_n hx hb dX12_add_10 rfl (lv_at hl 0 rfl) ?_
  refine rg_5 C hP wm_18 dX12_add_11 ?_
  refine lv_aload_n hx hb dX12_add_14 rfl (lv_at hl 0 rfl) ?_
  refine rg_3 (v := (σ.1 3)) C hP rfl wm_17 dX12_add_15 ?_
  refine lv_iload_n hx hb dX12_add_18 rfl (lv_at hl 2 rfl) ?_
  refine rw_5 (f := (σ.2.1 5)) C hP hS rfl (v_add_1 σ hpre_0 hpre_1) dX12_add_19 (fun H locs hP hS => ?_)
  refine lv_aload_n hx hb dX12_add_20 rfl (lv_at hl 0 rfl) ?_
  refine rg_6 C hP wm_19 dX12_add_21 ?_
  refine lv_aload_n hx hb dX12_add_24 rfl (lv_at hl 0 rfl) ?_
  refine rg_3 (v := (σ.1 3)) C hP rfl wm_17 dX12_add_25 ?_
  refine lv_lload_n hx hb dX12_add_28 rfl (lv_at hl 3 rfl) ?_
  refine rw_6 (f := (σ.2.2.1 6)) C hP hS rfl (v_add_1 σ hpre_0 hpre_1) dX12_add_29 (fun H locs hP hS => ?_)
  refine lv_aload_n hx hb dX12_add_30 rfl (lv_at hl 0 rfl) ?_
  refine rg_7 C hP wm_20 dX12_add_31 ?_
  refine lv_aload_n hx hb dX12_add_34 rfl (lv_at hl 0 rfl) ?_
  refine rg_3 (v := (σ.1 3)) C hP rfl wm_17 dX12_add_35 ?_
  refine lv_iconst (v := 0) hx hb dX12_add_38 (by decide +kernel) ?_
  refine rw_7 (f := (σ.2.1 7)) C hP hS rfl (v_add_1 σ hpre_0 hpre_1) dX12_add_39 (fun H locs hP hS => ?_)
  refine lv_aload_n hx hb dX12_add_40 rfl (lv_at hl 0 rfl) ?_
  refine lv_dup hx hb dX12_add_41 rfl ?_
  refine rg_3 (v := (σ.1 3)) C hP rfl wm_17 dX12_add_42 ?_
  refine lv_iconst (v := 1) hx hb dX12_add_45 (by decide +kernel) ?_
  refine lv_iadd hx hb dX12_add_46 ?_
  refine lv_topi (fun x1 ex1 => ?_)
  have tx1 : x1.toInt = (σ.1 3).toInt + 1 := (v_add_2 σ x1 hpre_0 hpre_1 ex1)
  refine rp_3 C hP hS wm_17 dX12_add_47 (fun H locs hP hS => ?_)
  exact r_retv C x1 (v_add_3 σ x1 hpre_0 hpre_1 ex1 tx1) hP hS dX12_add_50
