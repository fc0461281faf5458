-- post @44
theorem v_about_1   : (0 : Int32).toInt = 0 := by
  have q0 : (0 : Int32).toInt = 0 := by decide +kernel
  first | assumption | omega | (subst_vars; omega) | trivial
set_option maxHeartbeats 4000000 in
set_option maxRecDepth 100000 in
theorem M_about (l : Launch) (D : va_G) (cy : Nat → ClassId) (sz0 : Nat) (sa : Nat → Nat) (ad : Nat → Nat) (σ : RS) (sz : Nat) (k0 : Int32) (hpre : True) : Met l yX12_about (Cond.code yX12_about cX12_about 2 (some .int) :: GWm) ({ frames := 0, cells := 0, slots := 0, locals := 0 }) (PcR D cy sz0 sa ad [.ref (ad 0), .int k0] σ sz) (va_Qi (fun (r : Int32) (u : Int32) => u.toInt = 0) (fun (u : Int32) (t : State) => RP D cy ad (rS σ 0 u) t.heap) (AR cy ad sz)) 0 0 (AR cy ad sz) := by
  refine RM_of (loc0 := [(0, .ref (ad 0)), (1, .int k0)]) (by decide) rfl rfl (Nat.le_of_ble_eq_true rfl) ?_
  intro p e s m below meth c ls hsz C hP hS hl
  have hx := C.1
  have hb := C.2.1
  have hown := C.2.2.2.2.1
  have hw := C.2.2.2.2.2.1
  clear hsz
  refine lv_aload_n hx hb dX12_about_0 rfl (lv_at hl 0 rfl) ?_
  refine lv_iconst (v := 0) hx hb dX12_about_1 (by decide +kernel) ?_
  refine rp_0 C hP hS wm_1 dX12_about_2 (fun H locs hP hS => ?_)
  refine lv_iload_n hx hb dX12_about_5 rfl (lv_at hl 1 rfl) ?_
  by_cases c1_0 : k0.toInt = 0
  · refine lv_tableIn (off := 34) (tgt := 40) hx hb dX12_about_6 (by rw [c1_0]; decide +kernel) (by rw [c1_0]; decide +kernel) (by rw [c1_0]; decide +kernel) (by decide) ?_
    refine lv_aload_n hx hb dX12_about_40 rfl (lv_at hl 0 rfl) ?_
    refine rg_1 (v := (σ.1 1)) C hP rfl wm_3 dX12_about_41 ?_
    exact r_reti C (0 : Int32) (v_about_1  ) hP hS dX12_about_44
  · by_cases c1_1 : k0.toInt = 1
    · refine lv_tableIn (off := 39) (tgt := 45) hx hb dX12_about_6 (by rw [c1_1]; decide +kernel) (by rw [c1_1]; decide +kernel) (by rw [c1_1]; decide +kernel) (by decide) ?_
      refine lv_aload_n hx hb dX12_about_45 rfl (lv_at hl 0 rfl) ?_
      refine rg_10 (v := (σ.1 10)) C hP rfl wm_162 dX12_about_46 ?_
      exact r_reti C (0 : Int32) (v_about_1  ) hP hS dX12_about_49
    · by_cases c1_2 : k0.toInt = 2
      · refine lv_tableIn (off := 44) (tgt := 50) hx hb dX12_about_6 (by rw [c1_2]; decide +kernel) (by rw [c1_2]; decide +kernel) (by rw [c1_2]; decide +kernel) (by decide) ?_
        refine lv_aload_n hx hb dX12_about_50 rfl (lv_at hl 0 rfl) ?_
        refine rg_35 (v := (σ.1 35)) C hP rfl wm_174 dX12_about_51 ?_
        exact r_reti C (0 : Int32) (v_about_1  ) hP hS dX12_about_54
      · by_cases c1_3 : k0.toInt = 3
        · refine lv_tableIn (off := 49) (tgt := 55) hx hb dX12_about_6 (by rw [c1_3]; decide +kernel) (by rw [c1_3]; decide +kernel) (by rw [c1_3]; decide +kernel) (by decide) ?_
          refine lv_aload_n hx hb dX12_about_55 rfl (lv_at hl 0 rfl) ?_
          refine rg_47 (v := (σ.1 47)) C hP rfl wm_186 dX12_about_56 ?_
          exact r_reti C (0 : Int32) (v_about_1  ) hP hS dX12_about_59
        · by_cases c1_4 : k0.toInt = 4
          · refine lv_tableIn (off := 54) (tgt := 60) hx hb dX12_about_6 (by rw [c1_4]; decide +kernel) (by rw [c1_4]; decide +kernel) (by rw [c1_4]; decide +kernel) (by decide) ?_
            refine lv_aload_n hx hb dX12_about_60 rfl (lv_at hl 0 rfl) ?_
            refine rg_49 (v := (σ.1 49)) C hP rfl wm_348 dX12_about_61 ?_
            exact r_reti C (0 : Int32) (v_about_1  ) hP hS dX12_about_64
          · refine lv_tableOut (tgt := 65) hx hb dX12_about_6 (by omega) (by decide) ?_
            refine lv_iconst (v := (-1)) hx hb dX12_about_65 (by decide +kernel) ?_
            exact r_reti C (0 : Int32) (v_about_1  ) hP hS dX12_about_66
