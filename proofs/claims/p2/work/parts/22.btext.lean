-- post @41
theorem v_text_1   : (0 : Int32).toInt = 0 := by
  have q0 : (0 : Int32).toInt = 0 := by decide +kernel
  first | assumption | omega | (subst_vars; omega) | trivial
-- pre:lengthOf@24 @24
theorem v_text_2   : 0 ≤ (60 : Int32).toInt ∧ (60 : Int32).toInt < 980 := by
  have q60 : (60 : Int32).toInt = 60 := by decide +kernel
  refine ⟨?_, ?_⟩ <;> first | assumption | omega | (subst_vars; omega) | trivial
-- pre:sign8@34 @34
theorem v_text_3 (σ : RS) (k0 : Int32) (r4 : Int32) (c3 : 0 ≤ k0.toInt) (hr4 : r4 = LENF ((σ.2.2.1 52) (60 : Int32).toNatClampNeg)) (c5 : k0.toInt < r4.toInt) : 0 ≤ (60 : Int32).toInt ∧ (60 : Int32).toInt < 980 ∧ 0 ≤ k0.toInt ∧ k0.toInt ≤ 200 := by
  have q60 : (60 : Int32).toInt = 60 := by decide +kernel
  have l_hr4 := LENF_le ((σ.2.2.1 52) (60 : Int32).toNatClampNeg)
  rw [← hr4] at l_hr4
  refine ⟨?_, ?_, ?_, ?_⟩ <;> first | assumption | omega | (subst_vars; omega) | trivial
set_option maxHeartbeats 4000000 in
set_option maxRecDepth 100000 in
theorem M_text (l : Launch) (D : va_G) (cy : Nat → ClassId) (sz0 : Nat) (sa : Nat → Nat) (ad : Nat → Nat) (σ : RS) (sz : Nat) (k0 : Int32) (hpre : True) : Met l yX12_text (Cond.code yX12_text cX12_text 2 (some .int) :: GWm) ({ frames := 1, cells := 0, slots := 0, locals := 22 }) (PcR D cy sz0 sa ad [.ref (ad 0), .int k0] σ sz) (va_Qi (fun (r : Int32) (u : Int32) => u.toInt = 0) (fun (u : Int32) (t : State) => RP D cy ad (rS σ 0 u) t.heap) (AR cy ad sz)) 0 0 (AR cy ad sz) := by
  refine RM_of (loc0 := [(0, .ref (ad 0)), (1, .int k0)]) (by decide) rfl rfl (Nat.le_of_ble_eq_true rfl) ?_
  intro p e s m below meth c ls hsz C hP hS hl
  have hx := C.1
  have hb := C.2.1
  have hown := C.2.2.2.2.1
  have hw := C.2.2.2.2.2.1
  clear hsz
  refine lv_aload_n hx hb dX12_text_0 rfl (lv_at hl 0 rfl) ?_
  refine lv_iconst (v := 0) hx hb dX12_text_1 (by decide +kernel) ?_
  refine rp_0 C hP hS wm_1 dX12_text_2 (fun H locs hP hS => ?_)
  refine lv_aload_n hx hb dX12_text_5 rfl (lv_at hl 0 rfl) ?_
  refine rg_51 C hP wm_205 dX12_text_6 ?_
  refine lv_bipush (v := 60) hx hb dX12_text_9 (by decide +kernel) ?_
  refine ra_51 (f := (σ.2.1 51)) C hP rfl (vp_in_iff.mpr (by decide +kernel)) dX12_text_11 (fun x1 ex1 => ?_)
  have ex1 : x1 = (σ.2.1 51) 60 := ex1
  have tx1 : x1.toInt = ((σ.2.1 51) 60).toInt := by rw [ex1]
  refine lv_iconst (v := 4) hx hb dX12_text_12 (by decide +kernel) ?_
  refine lv_icmp_ne (tgt := 40) hx hb dX12_text_13 (by decide) (fun c2 => ?_) (fun c2 => ?_)
  · have c2 : ¬ x1.toInt = 4 := by have h := z_ne c2; rw [show (4 : Int32).toInt = 4 from by decide +kernel] at h; exact h
    refine lv_iconst (v := (-1)) hx hb dX12_text_40 (by decide +kernel) ?_
    exact r_reti C (0 : Int32) (v_text_1  ) hP hS dX12_text_41
  · have c2 : x1.toInt = 4 := by have h := z_eq c2; rw [show (4 : Int32).toInt = 4 from by decide +kernel] at h; exact h
    refine lv_iload_n hx hb dX12_text_16 rfl (lv_at hl 1 rfl) ?_
    refine lv_if_lt (tgt := 40) hx hb dX12_text_17 (by decide) (fun c3 => ?_) (fun c3 => ?_)
    · have c3 : k0.toInt < 0 := by have h := z_lt c3; rw [show (0 : Int32).toInt = 0 from by decide +kernel] at h; exact h
      refine lv_iconst (v := (-1)) hx hb dX12_text_40 (by decide +kernel) ?_
      exact r_reti C (0 : Int32) (v_text_1  ) hP hS dX12_text_41
    · have c3 : 0 ≤ k0.toInt := by have h := z_nlt c3; rw [show (0 : Int32).toInt = 0 from by decide +kernel] at h; exact h
      refine lv_iload_n hx hb dX12_text_20 rfl (lv_at hl 1 rfl) ?_
      refine lv_aload_n hx hb dX12_text_21 rfl (lv_at hl 0 rfl) ?_
      refine lv_bipush (v := 60) hx hb dX12_text_22 (by decide +kernel) ?_
      refine r_callVi (As := [.int 60]) (rest := [.int k0]) C hP hS hl.1 ⟨Nat.zero_le _, Nat.zero_le _⟩ (M_lengthOf l D cy sz0 sa ad (rS σ 0 (0 : Int32)) H.size (60 : Int32) (v_text_2  )) (n := 1) ⟨wm_228, wm_216, by decide +kernel⟩ ⟨wm_229, wm_230, wm_10⟩ rfl rfl (lv_room (Nat.le_of_ble_eq_true rfl)) ⟨Nat.le_of_ble_eq_true rfl, Nat.le_of_ble_eq_true rfl⟩ dX12_text_24 (fun r4 u H locs hr4 hP hS => ?_)
      have hr4 : r4 = LENF ((σ.2.2.1 52) (60 : Int32).toNatClampNeg) := hr4
      refine lv_icmp_ge (tgt := 40) hx hb dX12_text_27 (by decide) (fun c5 => ?_) (fun c5 => ?_)
      · have c5 : r4.toInt ≤ k0.toInt := by have h := z_le c5; exact h
        refine lv_iconst (v := (-1)) hx hb dX12_text_40 (by decide +kernel) ?_
        exact r_reti C (0 : Int32) (v_text_1  ) hP hS dX12_text_41
      · have c5 : k0.toInt < r4.toInt := by have h := z_nle c5; exact h
        refine lv_aload_n hx hb dX12_text_30 rfl (lv_at hl 0 rfl) ?_
        refine lv_bipush (v := 60) hx hb dX12_text_31 (by decide +kernel) ?_
        refine lv_iload_n hx hb dX12_text_33 rfl (lv_at hl 1 rfl) ?_
        refine r_callVi (As := [.int 60, .int k0]) (rest := []) C hP hS hl.1 ⟨Nat.zero_le _, Nat.zero_le _⟩ (M_sign8 l D cy sz0 sa ad (rS σ 0 (0 : Int32)) H.size (60 : Int32) k0 (v_text_3 σ k0 r4 c3 hr4 c5)) (n := 2) ⟨wm_231, wm_217, by decide +kernel⟩ ⟨wm_232, wm_233, wm_10⟩ rfl rfl (lv_room (Nat.le_of_ble_eq_true rfl)) ⟨Nat.le_of_ble_eq_true rfl, Nat.le_of_ble_eq_true rfl⟩ dX12_text_34 (fun r6 u H locs hr6 hP hS => ?_)
        have hr6 : True := hr6
        refine lv_goto (tgt := 41) hx hb dX12_text_37 (by decide) ?_
        exact r_reti C (0 : Int32) (v_text_1  ) hP hS dX12_text_41
