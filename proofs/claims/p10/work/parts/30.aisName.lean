-- post @17
theorem v_isClass_1 (σ : RS) (k0 : Int32) (c1 : k0.toInt < 0) : ((0 : Int32).toInt = 0 ∧ ¬ (0 ≤ k0.toInt ∧ k0.toInt < (σ.1 35).toInt)) ∨ ((0 : Int32).toInt = 1 ∧ (0 ≤ k0.toInt ∧ k0.toInt < (σ.1 35).toInt)) := by
  have q0 : (0 : Int32).toInt = 0 := by decide +kernel
  first | assumption | omega | (subst_vars; omega) | trivial
-- bool@ret @17
theorem v_isClass_2   : (0 : Int32) = 0 ∨ (0 : Int32) = 1 := by
  have q0 : (0 : Int32).toInt = 0 := by decide +kernel
  first | exact Or.inl rfl | exact Or.inr rfl | exact bool_of (by omega)
-- post @17
theorem v_isClass_3 (σ : RS) (k0 : Int32) (c1 : 0 ≤ k0.toInt) (c2 : (σ.1 35).toInt ≤ k0.toInt) : ((0 : Int32).toInt = 0 ∧ ¬ (0 ≤ k0.toInt ∧ k0.toInt < (σ.1 35).toInt)) ∨ ((0 : Int32).toInt = 1 ∧ (0 ≤ k0.toInt ∧ k0.toInt < (σ.1 35).toInt)) := by
  have q0 : (0 : Int32).toInt = 0 := by decide +kernel
  first | assumption | omega | (subst_vars; omega) | trivial
-- post @17
theorem v_isClass_4 (σ : RS) (k0 : Int32) (c1 : 0 ≤ k0.toInt) (c2 : k0.toInt < (σ.1 35).toInt) : ((1 : Int32).toInt = 0 ∧ ¬ (0 ≤ k0.toInt ∧ k0.toInt < (σ.1 35).toInt)) ∨ ((1 : Int32).toInt = 1 ∧ (0 ≤ k0.toInt ∧ k0.toInt < (σ.1 35).toInt)) := by
  have q1 : (1 : Int32).toInt = 1 := by decide +kernel
  first | assumption | omega | (subst_vars; omega) | trivial
-- bool@ret @17
theorem v_isClass_5   : (1 : Int32) = 0 ∨ (1 : Int32) = 1 := by
  have q1 : (1 : Int32).toInt = 1 := by decide +kernel
  first | exact Or.inl rfl | exact Or.inr rfl | exact bool_of (by omega)
set_option maxHeartbeats 4000000 in
set_option maxRecDepth 100000 in
theorem M_isClass (l : Launch) (D : va_G) (cy : Nat → ClassId) (sz0 : Nat) (sa : Nat → Nat) (ad : Nat → Nat) (σ : RS) (sz : Nat) (k0 : Int32) (hpre : True) : Met l yX12_isClass (Cond.code yX12_isClass cX12_isClass 2 (some .boolean) :: GWm) ({ frames := 0, cells := 0, slots := 0, locals := 0 }) (PcR D cy sz0 sa ad [.ref (ad 0), .int k0] σ sz) (va_Qi (fun (r : Int32) (u : Unit) => (r.toInt = 0 ∧ ¬ (0 ≤ k0.toInt ∧ k0.toInt < (σ.1 35).toInt)) ∨ (r.toInt = 1 ∧ (0 ≤ k0.toInt ∧ k0.toInt < (σ.1 35).toInt))) (fun (u : Unit) (t : State) => RP D cy ad σ t.heap) (AR cy ad sz)) 0 0 (AR cy ad sz) := by
  refine RM_of (loc0 := [(0, .ref (ad 0)), (1, .int k0)]) (by decide) rfl rfl (Nat.le_of_ble_eq_true rfl) ?_
  intro p e s m below meth c ls hsz C hP hS hl
  have hx := C.1
  have hb := C.2.1
  have hown := C.2.2.2.2.1
  have hw := C.2.2.2.2.2.1
  clear hsz
  refine lv_iload_n hx hb dX12_isClass_0 rfl (lv_at hl 1 rfl) ?_
  refine lv_if_lt (tgt := 16) hx hb dX12_isClass_1 (by decide) (fun c1 => ?_) (fun c1 => ?_)
  · have c1 : k0.toInt < 0 := by have h := z_lt c1; rw [show (0 : Int32).toInt = 0 from by decide +kernel] at h; exact h
    refine lv_iconst (v := 0) hx hb dX12_isClass_16 (by decide +kernel) ?_
    exact r_retz C () (v_isClass_2  ) (v_isClass_1 σ k0 c1) hP hS dX12_isClass_17
  · have c1 : 0 ≤ k0.toInt := by have h := z_nlt c1; rw [show (0 : Int32).toInt = 0 from by decide +kernel] at h; exact h
    refine lv_iload_n hx hb dX12_isClass_4 rfl (lv_at hl 1 rfl) ?_
    refine lv_aload_n hx hb dX12_isClass_5 rfl (lv_at hl 0 rfl) ?_
    refine rg_35 (v := (σ.1 35)) C hP rfl wm_174 dX12_isClass_6 ?_
    refine lv_icmp_ge (tgt := 16) hx hb dX12_isClass_9 (by decide) (fun c2 => ?_) (fun c2 => ?_)
    · have c2 : (σ.1 35).toInt ≤ k0.toInt := by have h := z_le c2; exact h
      refine lv_iconst (v := 0) hx hb dX12_isClass_16 (by decide +kernel) ?_
      exact r_retz C () (v_isClass_2  ) (v_isClass_3 σ k0 c1 c2) hP hS dX12_isClass_17
    · have c2 : k0.toInt < (σ.1 35).toInt := by have h := z_nle c2; exact h
      refine lv_iconst (v := 1) hx hb dX12_isClass_12 (by decide +kernel) ?_
      refine lv_goto (tgt := 17) hx hb dX12_isClass_13 (by decide) ?_
      exact r_retz C () (v_isClass_5  ) (v_isClass_4 σ k0 c1 c2) hP hS dX12_isClass_17

-- post @32
theorem v_isType_1 (σ : RS) (k0 : Int32) (hpre_0 : 0 ≤ (σ.1 35).toInt) (hpre_1 : (σ.1 35).toInt ≤ 5) (c1 : k0.toInt < 1) (c2 : k0.toInt < 8) : ((0 : Int32).toInt = 0 ∧ ¬ ((1 ≤ k0.toInt ∧ k0.toInt ≤ 5) ∨ (8 ≤ k0.toInt ∧ k0.toInt < 8 + (σ.1 35).toInt))) ∨ ((0 : Int32).toInt = 1 ∧ ((1 ≤ k0.toInt ∧ k0.toInt ≤ 5) ∨ (8 ≤ k0.toInt ∧ k0.toInt < 8 + (σ.1 35).toInt))) := by
  have q0 : (0 : Int32).toInt = 0 := by decide +kernel
  first | assumption | omega | (subst_vars; omega) | trivial
-- bool@ret @32
theorem v_isType_2   : (0 : Int32) = 0 ∨ (0 : Int32) = 1 := by
  have q0 : (0 : Int32).toInt = 0 := by decide +kernel
  first | exact Or.inl rfl | exact Or.inr rfl | exact bool_of (by omega)
-- dead@13 @16
theorem v_isType_3 (k0 : Int32) (c1 : k0.toInt < 1) (c2 : 8 ≤ k0.toInt) : False := by
  first | assumption | omega | (subst_vars; omega) | trivial
-- post @32
theorem v_isType_4 (σ : RS) (k0 : Int32) (hpre_0 : 0 ≤ (σ.1 35).toInt) (hpre_1 : (σ.1 35).toInt ≤ 5) (c1 : 1 ≤ k0.toInt) (c3 : k0.toInt ≤ 5) : ((1 : Int32).toInt = 0 ∧ ¬ ((1 ≤ k0.toInt ∧ k0.toInt ≤ 5) ∨ (8 ≤ k0.toInt ∧ k0.toInt < 8 + (σ.1 35).toInt))) ∨ ((1 : Int32).toInt = 1 ∧ ((1 ≤ k0.toInt ∧ k0.toInt ≤ 5) ∨ (8 ≤ k0.toInt ∧ k0.toInt < 8 + (σ.1 35).toInt))) := by
  have q1 : (1 : Int32).toInt = 1 := by decide +kernel
  first | assumption | omega | (subst_vars; omega) | trivial
-- bool@ret @32
theorem v_isType_5   : (1 : Int32) = 0 ∨ (1 : Int32) = 1 := by
  have q1 : (1 : Int32).toInt = 1 := by decide +kernel
  first | exact Or.inl rfl | exact Or.inr rfl | exact bool_of (by omega)
-- post @32
theorem v_isType_6 (σ : RS) (k0 : Int32) (hpre_0 : 0 ≤ (σ.1 35).toInt) (hpre_1 : (σ.1 35).toInt ≤ 5) (c1 : 1 ≤ k0.toInt) (c3 : 5 < k0.toInt) (c4 : k0.toInt < 8) : ((0 : Int32).toInt = 0 ∧ ¬ ((1 ≤ k0.toInt ∧ k0.toInt ≤ 5) ∨ (8 ≤ k0.toInt ∧ k0.toInt < 8 + (σ.1 35).toInt))) ∨ ((0 : Int32).toInt = 1 ∧ ((1 ≤ k0.toInt ∧ k0.toInt ≤ 5) ∨ (8 ≤ k0.toInt ∧ k0.toInt < 8 + (σ.1 35).toInt))) := by
  have q0 : (0 : Int32).toInt = 0 := by decide +kernel
  first | assumption | omega | (subst_vars; omega) | trivial
-- nw@20 @20
theorem v_isType_7 (k0 : Int32) (x5 : Int32) (c1 : 1 ≤ k0.toInt) (c3 : 5 < k0.toInt) (c4 : 8 ≤ k0.toInt) (ex5 : x5 = k0 - (8 : Int32)) : x5.toInt = k0.toInt - 8 := by
  have q8 : (8 : Int32).toInt = 8 := by decide +kernel
  have u0 := Int32.toInt_lt k0; have v0 := Int32.le_toInt k0
  have w1 : (8 : Int32).toInt = 8 := by decide +kernel
  rw [ex5, z_sub (by omega) (by omega)]; first | done | omega
-- post @32
theorem v_isType_8 (σ : RS) (k0 : Int32) (x5 : Int32) (hpre_0 : 0 ≤ (σ.1 35).toInt) (hpre_1 : (σ.1 35).toInt ≤ 5) (c1 : 1 ≤ k0.toInt) (c3 : 5 < k0.toInt) (c4 : 8 ≤ k0.toInt) (ex5 : x5 = k0 - (8 : Int32)) (tx5 : x5.toInt = k0.toInt - 8) (hr6 : ¬ (0 ≤ x5.toInt ∧ x5.toInt < (σ.1 35).toInt)) : ((0 : Int32).toInt = 0 ∧ ¬ ((1 ≤ k0.toInt ∧ k0.toInt ≤ 5) ∨ (8 ≤ k0.toInt ∧ k0.toInt < 8 + (σ.1 35).toInt))) ∨ ((0 : Int32).toInt = 1 ∧ ((1 ≤ k0.toInt ∧ k0.toInt ≤ 5) ∨ (8 ≤ k0.toInt ∧ k0.toInt < 8 + (σ.1 35).toInt))) := by
  have q0 : (0 : Int32).toInt = 0 := by decide +kernel
  have q8 : (8 : Int32).toInt = 8 := by decide +kernel
  first | assumption | omega | (subst_vars; omega) | trivial
-- post @32
theorem v_isType_9 (σ : RS) (k0 : Int32) (x5 : Int32) (hpre_0 : 0 ≤ (σ.1 35).toInt) (hpre_1 : (σ.1 35).toInt ≤ 5) (c1 : 1 ≤ k0.toInt) (c3 : 5 < k0.toInt) (c4 : 8 ≤ k0.toInt) (ex5 : x5 = k0 - (8 : Int32)) (tx5 : x5.toInt = k0.toInt - 8) (hr6_0 : 0 ≤ x5.toInt) (hr6_1 : x5.toInt < (σ.1 35).toInt) : ((1 : Int32).toInt = 0 ∧ ¬ ((1 ≤ k0.toInt ∧ k0.toInt ≤ 5) ∨ (8 ≤ k0.toInt ∧ k0.toInt < 8 + (σ.1 35).toInt))) ∨ ((1 : Int32).toInt = 1 ∧ ((1 ≤ k0.toInt ∧ k0.toInt ≤ 5) ∨ (8 ≤ k0.toInt ∧ k0.toInt < 8 + (σ.1 35).toInt))) := by
  have q1 : (1 : Int32).toInt = 1 := by decide +kernel
  have q8 : (8 : Int32).toInt = 8 := by decide +kernel
  first | assumption | omega | (subst_vars; omega) | trivial
set_option maxHeartbeats 4000000 in
set_option maxRecDepth 100000 in
theorem M_isType (l : Launch) (D : va_G) (cy : Nat → ClassId) (sz0 : Nat) (sa : Nat → Nat) (ad : Nat → Nat) (σ : RS) (sz : Nat) (k0 : Int32) (hpre : 0 ≤ (σ.1 35).toInt ∧ (σ.1 35).toInt ≤ 5) : Met l yX12_isType (Cond.code yX12_isType cX12_isType 2 (some .boolean) :: GWm) ({ frames := 1, cells := 0, slots := 0, locals := 21 }) (PcR D cy sz0 sa ad [.ref (ad 0), .int k0] σ sz) (va_Qi (fun (r : Int32) (u : Unit) => (r.toInt = 0 ∧ ¬ ((1 ≤ k0.toInt ∧ k0.toInt ≤ 5) ∨ (8 ≤ k0.toInt ∧ k0.toInt < 8 + (σ.1 35).toInt))) ∨ (r.toInt = 1 ∧ ((1 ≤ k0.toInt ∧ k0.toInt ≤ 5) ∨ (8 ≤ k0.toInt ∧ k0.toInt < 8 + (σ.1 35).toInt)))) (fun (u : Unit) (t : State) => RP D cy ad σ t.heap) (AR cy ad sz)) 0 0 (AR cy ad sz) := by
  refine RM_of (loc0 := [(0, .ref (ad 0)), (1, .int k0)]) (by decide) rfl rfl (Nat.le_of_ble_eq_true rfl) ?_
  intro p e s m below meth c ls hsz C hP hS hl
  have hx := C.1
  have hb := C.2.1
  have hown := C.2.2.2.2.1
  have hw := C.2.2.2.2.2.1
  clear hsz
  obtain ⟨hpre_0, hpre_1⟩ := hpre
  refine lv_iload_n hx hb dX12_isType_0 rfl (lv_at hl 1 rfl) ?_
  refine lv_iconst (v := 1) hx hb dX12_isType_1 (by decide +kernel) ?_
  refine lv_icmp_lt (tgt := 10) hx hb dX12_isType_2 (by decide) (fun c1 => ?_) (fun c1 => ?_)
  · have c1 : k0.toInt < 1 := by have h := z_lt c1; rw [show (1 : Int32).toInt = 1 from by decide +kernel] at h; exact h
    refine lv_iload_n hx hb dX12_isType_10 rfl (lv_at hl 1 rfl) ?_
    refine lv_bipush (v := 8) hx hb dX12_isType_11 (by decide +kernel) ?_
    refine lv_icmp_lt (tgt := 31) hx hb dX12_isType_13 (by decide) (fun c2 => ?_) (fun c2 => ?_)
    · have c2 : k0.toInt < 8 := by have h := z_lt c2; rw [show (8 : Int32).toInt = 8 from by decide +kernel] at h; exact h
      refine lv_iconst (v := 0) hx hb dX12_isType_31 (by decide +kernel) ?_
      exact r_retz C () (v_isType_2  ) (v_isType_1 σ k0 hpre_0 hpre_1 c1 c2) hP hS dX12_isType_32
    · have c2 : 8 ≤ k0.toInt := by have h := z_nlt c2; rw [show (8 : Int32).toInt = 8 from by decide +kernel] at h; exact h
      exact absurd (v_isType_3 k0 c1 c2) id
  · have c1 : 1 ≤ k0.toInt := by have h := z_nlt c1; rw [show (1 : Int32).toInt = 1 from by decide +kernel] at h; exact h
    refine lv_iload_n hx hb dX12_isType_5 rfl (lv_at hl 1 rfl) ?_
    refine lv_iconst (v := 5) hx hb dX12_isType_6 (by decide +kernel) ?_
    refine lv_icmp_le (tgt := 27) hx hb dX12_isType_7 (by decide) (fun c3 => ?_) (fun c3 => ?_)
    · have c3 : k0.toInt ≤ 5 := by have h := z_le c3; rw [show (5 : Int32).toInt = 5 from by decide +kernel] at h; exact h
      refine lv_iconst (v := 1) hx hb dX12_isType_27 (by decide +kernel) ?_
      refine lv_goto (tgt := 32) hx hb dX12_isType_28 (by decide) ?_
      exact r_retz C () (v_isType_5  ) (v_isType_4 σ k0 hpre_0 hpre_1 c1 c3) hP hS dX12_isType_32
    · have c3 : 5 < k0.toInt := by have h := z_nle c3; rw [show (5 : Int32).toInt = 5 from by decide +kernel] at h; exact h
      refine lv_iload_n hx hb dX12_isType_10 rfl (lv_at hl 1 rfl) ?_
      refine lv_bipush (v := 8) hx hb dX12_isType_11 (by decide +kernel) ?_
      refine lv_icmp_lt (tgt := 31) hx hb dX12_isType_13 (by decide) (fun c4 => ?_) (fun c4 => ?_)
      · have c4 : k0.toInt < 8 := by have h := z_lt c4; rw [show (8 : Int32).toInt = 8 from by decide +kernel] at h; exact h
        refine lv_iconst (v := 0) hx hb dX12_isType_31 (by decide +kernel) ?_
        exact r_retz C () (v_isType_2  ) (v_isType_6 σ k0 hpre_0 hpre_1 c1 c3 c4) hP hS dX12_isType_32
      · have c4 : 8 ≤ k0.toInt := by have h := z_nlt c4; rw [show (8 : Int32).toInt = 8 from by decide +kernel] at h; exact h
        refine lv_aload_n hx hb dX12_isType_16 rfl (lv_at hl 0 rfl) ?_
        refine lv_iload_n hx hb dX12_isType_17 rfl (lv_at hl 1 rfl) ?_
        refine lv_bipush (v := 8) hx hb dX12_isType_18 (by decide +kernel) ?_
        refine lv_isub hx hb dX12_isType_20 ?_
        refine lv_topi (fun x5 ex5 => ?_)
        have tx5 : x5.toInt = k0.toInt - 8 := (v_isType_7 k0 x5 c1 c3 c4 ex5)
        refine r_callVi (As := [.int x5]) (rest := []) C hP hS hl.1 ⟨Nat.zero_le _, Nat.zero_le _⟩ (M_isClass l D cy sz0 sa ad σ s.heap.size x5 trivial) (n := 1) ⟨wm_176, wm_173, by decide +kernel⟩ ⟨wm_177, wm_178, wm_10⟩ rfl rfl (lv_room (Nat.le_of_ble_eq_true rfl)) ⟨Nat.le_of_ble_eq_true rfl, Nat.le_of_ble_eq_true rfl⟩ dX12_isType_21 (fun r6 u H locs hr6 hP hS => ?_)
        have hr6 : (r6.toInt = 0 ∧ ¬ (0 ≤ x5.toInt ∧ x5.toInt < (σ.1 35).toInt)) ∨ (r6.toInt = 1 ∧ (0 ≤ x5.toInt ∧ x5.toInt < (σ.1 35).toInt)) := hr6
        refine lv_if_eq (tgt := 31) hx hb dX12_isType_24 (by decide) (fun c7 => ?_) (fun c7 => ?_)
        · have c7 : r6.toInt = 0 := by have h := z_eq c7; rw [show (0 : Int32).toInt = 0 from by decide +kernel] at h; exact h
          have hr6 : ¬ (0 ≤ x5.toInt ∧ x5.toInt < (σ.1 35).toInt) := bq_f hr6 c7
          refine lv_iconst (v := 0) hx hb dX12_isType_31 (by decide +kernel) ?_
          exact r_retz C () (v_isType_2  ) (v_isType_8 σ k0 x5 hpre_0 hpre_1 c1 c3 c4 ex5 tx5 hr6) hP hS dX12_isType_32
        · have c7 : ¬ r6.toInt = 0 := by have h := z_ne c7; rw [show (0 : Int32).toInt = 0 from by decide +kernel] at h; exact h
          have hr6v : r6.toInt = 1 := hr6.elim (fun h9 => absurd h9.1 c7) (fun h9 => h9.1)
          have hr6 : 0 ≤ x5.toInt ∧ x5.toInt < (σ.1 35).toInt := bq_t hr6 c7
          obtain ⟨hr6_0, hr6_1⟩ := hr6
          refine lv_iconst (v := 1) hx hb dX12_isType_27 (by decide +kernel) ?_
          refine lv_goto (tgt := 32) hx hb dX12_isType_28 (by decide) ?_
          exact r_retz C () (v_isType_5  ) (v_isType_9 σ k0 x5 hpre_0 hpre_1 c1 c3 c4 ex5 tx5 hr6_0 hr6_1) hP hS dX12_isType_32

-- post @17
theorem v_isName_1 (k0 : Int32) (c1 : k0.toInt < 1) : ((0 : Int32).toInt = 0 ∧ ¬ (1 ≤ k0.toInt ∧ k0.toInt ≤ 14348906)) ∨ ((0 : Int32).toInt = 1 ∧ (1 ≤ k0.toInt ∧ k0.toInt ≤ 14348906)) := by
  have q0 : (0 : Int32).toInt = 0 := by decide +kernel
  first | assumption | omega | (subst_vars; omega) | trivial
-- bool@ret @17
theorem v_isName_2   : (0 : Int32) = 0 ∨ (0 : Int32) = 1 := by
  have q0 : (0 : Int32).toInt = 0 := by decide +kernel
  first | exact Or.inl rfl | exact Or.inr rfl | exact bool_of (by omega)
-- post @17
theorem v_isName_3 (k0 : Int32) (c1 : 1 ≤ k0.toInt) (c2 : 14348906 < k0.toInt) : ((0 : Int32).toInt = 0 ∧ ¬ (1 ≤ k0.toInt ∧ k0.toInt ≤ 14348906)) ∨ ((0 : Int32).toInt = 1 ∧ (1 ≤ k0.toInt ∧ k0.toInt ≤ 14348906)) := by
  have q0 : (0 : Int32).toInt = 0 := by decide +kernel
  first | assumption | omega | (subst_vars; omega) | trivial
-- post @17
theorem v_isName_4 (k0 : Int32) (c1 : 1 ≤ k0.toInt) (c2 : k0.toInt ≤ 14348906) : ((1 : Int32).toInt = 0 ∧ ¬ (1 ≤ k0.toInt ∧ k0.toInt ≤ 14348906)) ∨ ((1 : Int32).toInt = 1 ∧ (1 ≤ k0.toInt ∧ k0.toInt ≤ 14348906)) := by
  have q1 : (1 : Int32).toInt = 1 := by decide +kernel
  first | assumption | omega | (subst_vars; omega) | trivial
-- bool@ret @17
theorem v_isName_5   : (1 : Int32) = 0 ∨ (1 : Int32) = 1 := by
  have q1 : (1 : Int32).toInt = 1 := by decide +kernel
  first | exact Or.inl rfl | exact Or.inr rfl | exact bool_of (by omega)
set_option maxHeartbeats 4000000 in
set_option maxRecDepth 100000 in
theorem M_isName (l : Launch) (D : va_G) (cy : Nat → ClassId) (sz0 : Nat) (sa : Nat → Nat) (ad : Nat → Nat) (σ : RS) (sz : Nat) (k0 : Int32) (hpre : True) : Met l yX12_isName (Cond.code yX12_isName cX12_isName 1 (some .boolean) :: GWm) ({ frames := 0, cells := 0, slots := 0, locals := 0 }) (PcR D cy sz0 sa ad [.int k0] σ sz) (va_Qi (fun (r : Int32) (u : Unit) => (r.toInt = 0 ∧ ¬ (1 ≤ k0.toInt ∧ k0.toInt ≤ 14348906)) ∨ (r.toInt = 1 ∧ (1 ≤ k0.toInt ∧ k0.toInt ≤ 14348906))) (fun (u : Unit) (t : State) => RP D cy ad σ t.heap) (AR cy ad sz)) 0 0 (AR cy ad sz) := by
  refine RM_of (loc0 := [(0, .int k0)]) (by decide) rfl rfl (Nat.le_of_ble_eq_true rfl) ?_
  intro p e s m below meth c ls hsz C hP hS hl
  have hx := C.1
  have hb := C.2.1
  have hown := C.2.2.2.2.1
  have hw := C.2.2.2.2.2.1
  clear hsz
  refine lv_iload_n hx hb dX12_isName_0 rfl (lv_at hl 0 rfl) ?_
  refine lv_iconst (v := 1) hx hb dX12_isName_1 (by decide +kernel) ?_
  refine lv_icmp_lt (tgt := 16) hx hb dX12_isName_2 (by decide) (fun c1 => ?_) (fun c1 => ?_)
  · have c1 : k0.toInt < 1 := by have h := z_lt c1; rw [show (1 : Int32).toInt = 1 from by decide +kernel] at h; exact h
    refine lv_iconst (v := 0) hx hb dX12_isName_16 (by decide +kernel) ?_
    exact r_retz C () (v_isName_2  ) (v_isName_1 k0 c1) hP hS dX12_isName_17
  · have c1 : 1 ≤ k0.toInt := by have h := z_nlt c1; rw [show (1 : Int32).toInt = 1 from by decide +kernel] at h; exact h
    refine lv_iload_n hx hb dX12_isName_5 rfl (lv_at hl 0 rfl) ?_
    refine lv_ldcw (v := 14348906) hx hb hown (hw _ wm_180) dX12_isName_6 ?_
    refine lv_icmp_gt (tgt := 16) hx hb dX12_isName_9 (by decide) (fun c2 => ?_) (fun c2 => ?_)
    · have c2 : 14348906 < k0.toInt := by have h := z_lt c2; rw [show (14348906 : Int32).toInt = 14348906 from by decide +kernel] at h; exact h
      refine lv_iconst (v := 0) hx hb dX12_isName_16 (by decide +kernel) ?_
      exact r_retz C () (v_isName_2  ) (v_isName_3 k0 c1 c2) hP hS dX12_isName_17
    · have c2 : k0.toInt ≤ 14348906 := by have h := z_nlt c2; rw [show (14348906 : Int32).toInt = 14348906 from by decide +kernel] at h; exact h
      refine lv_iconst (v := 1) hx hb dX12_isName_12 (by decide +kernel) ?_
      refine lv_goto (tgt := 17) hx hb dX12_isName_13 (by decide) ?_
      exact r_retz C () (v_isName_5  ) (v_isName_4 k0 c1 c2) hP hS dX12_isName_17
