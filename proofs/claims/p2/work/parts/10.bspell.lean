-- post @29
theorem v_build_1 (σ : RS) (hpre_0 : 0 ≤ (σ.1 59).toInt) (hpre_1 : (σ.1 59).toInt ≤ 48) (c1 : 48 ≤ (σ.1 59).toInt) : 0 ≤ (σ.1 59).toInt ∧ (σ.1 59).toInt ≤ 48 := by
  refine ⟨?_, ?_⟩ <;> first | assumption | omega | (subst_vars; omega) | trivial
-- in@18 @18
theorem v_build_2 (σ : RS) (hpre_0 : 0 ≤ (σ.1 59).toInt) (hpre_1 : (σ.1 59).toInt ≤ 48) (c1 : (σ.1 59).toInt < 48) : vp_in (σ.1 59) 48 := by
  exact vp_in_iff.mpr ⟨by omega, by omega⟩
-- nw@25 @25
theorem v_build_3 (σ : RS) (x2 : Int32) (hpre_0 : 0 ≤ (σ.1 59).toInt) (hpre_1 : (σ.1 59).toInt ≤ 48) (c1 : (σ.1 59).toInt < 48) (ex2 : x2 = (σ.1 59) + (1 : Int32)) : x2.toInt = (σ.1 59).toInt + 1 := by
  have q1 : (1 : Int32).toInt = 1 := by decide +kernel
  have w1 : (1 : Int32).toInt = 1 := by decide +kernel
  rw [ex2, z_add (by omega) (by omega)]; first | done | omega
-- post @29
theorem v_build_4 (σ : RS) (x2 : Int32) (hpre_0 : 0 ≤ (σ.1 59).toInt) (hpre_1 : (σ.1 59).toInt ≤ 48) (c1 : (σ.1 59).toInt < 48) (ex2 : x2 = (σ.1 59) + (1 : Int32)) (tx2 : x2.toInt = (σ.1 59).toInt + 1) : 0 ≤ x2.toInt ∧ x2.toInt ≤ 48 := by
  have q1 : (1 : Int32).toInt = 1 := by decide +kernel
  refine ⟨?_, ?_⟩ <;> first | assumption | omega | (subst_vars; omega) | trivial
set_option maxHeartbeats 4000000 in
set_option maxRecDepth 100000 in
theorem M_build (l : Launch) (D : va_G) (cy : Nat → ClassId) (sz0 : Nat) (sa : Nat → Nat) (ad : Nat → Nat) (σ : RS) (sz : Nat) (k0 : Int32) (hpre : 0 ≤ (σ.1 59).toInt ∧ (σ.1 59).toInt ≤ 48) : Met l yX12_build (Cond.code yX12_build cX12_build 2 none :: GWm) ({ frames := 0, cells := 0, slots := 0, locals := 0 }) (PcR D cy sz0 sa ad [.ref (ad 0), .int k0] σ sz) (va_Qv (fun (u : (Nat → Int32) × Int32) => 0 ≤ u.2.toInt ∧ u.2.toInt ≤ 48) (fun (u : (Nat → Int32) × Int32) (t : State) => RP D cy ad (rS (rA σ 58 u.1) 59 u.2) t.heap) (AR cy ad sz)) 0 0 (AR cy ad sz) := by
  refine RM_of (loc0 := [(0, .ref (ad 0)), (1, .int k0)]) (by decide) rfl rfl (Nat.le_of_ble_eq_true rfl) ?_
  intro p e s m below meth c ls hsz C hP hS hl
  have hx := C.1
  have hb := C.2.1
  have hown := C.2.2.2.2.1
  have hw := C.2.2.2.2.2.1
  clear hsz
  obtain ⟨hpre_0, hpre_1⟩ := hpre
  refine lv_aload_n hx hb dX12_build_0 rfl (lv_at hl 0 rfl) ?_
  refine rg_59 (v := (σ.1 59)) C hP rfl wm_220 dX12_build_1 ?_
  refine lv_bipush (v := 48) hx hb dX12_build_4 (by decide +kernel) ?_
  refine lv_icmp_ge (tgt := 29) hx hb dX12_build_6 (by decide) (fun c1 => ?_) (fun c1 => ?_)
  · have c1 : 48 ≤ (σ.1 59).toInt := by have h := z_le c1; rw [show (48 : Int32).toInt = 48 from by decide +kernel] at h; exact h
    have hP : RP D cy ad (rS (rA σ 58 (σ.2.1 58)) 59 (σ.1 59)) s.heap := RP.cong hP (Eq.trans (b := (σ.1 0)) rfl rfl) (Eq.trans (b := (σ.1 1)) rfl rfl) (Eq.trans (b := (σ.2.1 2)) rfl rfl) (Eq.trans (b := (σ.1 3)) rfl rfl) (Eq.trans (b := (σ.2.1 4)) rfl rfl) (Eq.trans (b := (σ.2.1 5)) rfl rfl) (Eq.trans (b := (σ.2.2.1 6)) rfl rfl) (Eq.trans (b := (σ.2.1 7)) rfl rfl) (Eq.trans (b := (σ.1 8)) rfl rfl) (Eq.trans (b := (σ.1 9)) rfl rfl) (Eq.trans (b := (σ.1 10)) rfl rfl) (Eq.trans (b := (σ.2.1 11)) rfl rfl) (Eq.trans (b := (σ.2.2.1 12)) rfl rfl) (Eq.trans (b := (σ.2.1 13)) rfl rfl) (Eq.trans (b := (σ.1 14)) rfl rfl) (Eq.trans (b := (σ.1 15)) rfl rfl) (Eq.trans (b := (σ.1 16)) rfl rfl) (Eq.trans (b := (σ.1 17)) rfl rfl) (Eq.trans (b := (σ.1 18)) rfl rfl) (Eq.trans (b := (σ.1 19)) rfl rfl) (Eq.trans (b := (σ.2.1 20)) rfl rfl) (Eq.trans (b := (σ.2.1 21)) rfl rfl) (Eq.trans (b := (σ.2.1 22)) rfl rfl) (Eq.trans (b := (σ.2.1 23)) rfl rfl) (Eq.trans (b := (σ.2.1 24)) rfl rfl) (Eq.trans (b := (σ.2.1 25)) rfl rfl) (Eq.trans (b := (σ.2.1 26)) rfl rfl) (Eq.trans (b := (σ.2.1 27)) rfl rfl) (Eq.trans (b := (σ.2.1 28)) rfl rfl) (Eq.trans (b := (σ.1 29)) rfl rfl) (Eq.trans (b := (σ.2.1 30)) rfl rfl) (Eq.trans (b := (σ.2.1 31)) rfl rfl) (Eq.trans (b := (σ.2.1 32)) rfl rfl) (Eq.trans (b := (σ.1 33)) rfl rfl) (Eq.trans (b := (σ.1 34)) rfl rfl) (Eq.trans (b := (σ.1 35)) rfl rfl) (Eq.trans (b := (σ.2.1 36)) rfl rfl) (Eq.trans (b := (σ.2.1 37)) rfl rfl) (Eq.trans (b := (σ.2.1 38)) rfl rfl) (Eq.trans (b := (σ.2.1 39)) rfl rfl) (Eq.trans (b := (σ.2.1 40)) rfl rfl) (Eq.trans (b := (σ.2.1 41)) rfl rfl) (Eq.trans (b := (σ.2.1 42)) rfl rfl) (Eq.trans (b := (σ.2.1 43)) rfl rfl) (Eq.trans (b := (σ.2.1 44)) rfl rfl) (Eq.trans (b := (σ.2.1 45)) rfl rfl) (Eq.trans (b := (σ.2.1 46)) rfl rfl) (Eq.trans (b := (σ.1 47)) rfl rfl) (Eq.trans (b := (σ.2.1 48)) rfl rfl) (Eq.trans (b := (σ.1 49)) rfl rfl) (Eq.trans (b := (σ.2.1 50)) rfl rfl) (Eq.trans (b := (σ.2.1 51)) rfl rfl) (Eq.trans (b := (σ.2.2.1 52)) rfl rfl) (Eq.trans (b := (σ.2.2.1 53)) rfl rfl) (Eq.trans (b := (σ.2.2.2)) rfl rfl) (Eq.trans (b := (σ.1 55)) rfl rfl) (Eq.trans (b := (σ.1 56)) rfl rfl) (Eq.trans (b := (σ.1 57)) rfl rfl) (Eq.trans (b := (σ.2.1 58)) rfl rfl) (Eq.trans (b := (σ.1 59)) rfl rfl)
    exact r_retv C ⟨(σ.2.1 58), (σ.1 59)⟩ (v_build_1 σ hpre_0 hpre_1 c1) hP hS dX12_build_29
  · have c1 : (σ.1 59).toInt < 48 := by have h := z_nle c1; rw [show (48 : Int32).toInt = 48 from by decide +kernel] at h; exact h
    refine lv_aload_n hx hb dX12_build_9 rfl (lv_at hl 0 rfl) ?_
    refine rg_58 C hP wm_221 dX12_build_10 ?_
    refine lv_aload_n hx hb dX12_build_13 rfl (lv_at hl 0 rfl) ?_
    refine rg_59 (v := (σ.1 59)) C hP rfl wm_220 dX12_build_14 ?_
    refine lv_iload_n hx hb dX12_build_17 rfl (lv_at hl 1 rfl) ?_
    refine rw_58 (f := (σ.2.1 58)) C hP hS rfl (v_build_2 σ hpre_0 hpre_1 c1) dX12_build_18 (fun H locs hP hS => ?_)
    refine lv_aload_n hx hb dX12_build_19 rfl (lv_at hl 0 rfl) ?_
    refine lv_dup hx hb dX12_build_20 rfl ?_
    refine rg_59 (v := (σ.1 59)) C hP rfl wm_220 dX12_build_21 ?_
    refine lv_iconst (v := 1) hx hb dX12_build_24 (by decide +kernel) ?_
    refine lv_iadd hx hb dX12_build_25 ?_
    refine lv_topi (fun x2 ex2 => ?_)
    have tx2 : x2.toInt = (σ.1 59).toInt + 1 := (v_build_3 σ x2 hpre_0 hpre_1 c1 ex2)
    refine rp_59 C hP hS wm_220 dX12_build_26 (fun H locs hP hS => ?_)
    exact r_retv C ⟨(upd (σ.2.1 58) (σ.1 59).toNatClampNeg k0), x2⟩ (v_build_4 σ x2 hpre_0 hpre_1 c1 ex2 tx2) hP hS dX12_build_29

-- pre:build@2 @2
theorem v_buildWord_1 (σ : RS) (hpre_0 : 0 ≤ (σ.1 59).toInt) (hpre_1 : (σ.1 59).toInt ≤ 48) : 0 ≤ (σ.1 59).toInt ∧ (σ.1 59).toInt ≤ 48 := by
  refine ⟨?_, ?_⟩ <;> first | assumption | omega | (subst_vars; omega) | trivial
-- pre:build@7 @7
theorem v_buildWord_2 (n3 : Int32) (hr1_0 : 0 ≤ n3.toInt) (hr1_1 : n3.toInt ≤ 48) : 0 ≤ n3.toInt ∧ n3.toInt ≤ 48 := by
  refine ⟨?_, ?_⟩ <;> first | assumption | omega | (subst_vars; omega) | trivial
-- pre:build@12 @12
theorem v_buildWord_3 (n6 : Int32) (hr4_0 : 0 ≤ n6.toInt) (hr4_1 : n6.toInt ≤ 48) : 0 ≤ n6.toInt ∧ n6.toInt ≤ 48 := by
  refine ⟨?_, ?_⟩ <;> first | assumption | omega | (subst_vars; omega) | trivial
-- pre:build@18 @18
theorem v_buildWord_4 (n9 : Int32) (hr7_0 : 0 ≤ n9.toInt) (hr7_1 : n9.toInt ≤ 48) : 0 ≤ n9.toInt ∧ n9.toInt ≤ 48 := by
  refine ⟨?_, ?_⟩ <;> first | assumption | omega | (subst_vars; omega) | trivial
-- post @32
theorem v_buildWord_5 (n12 : Int32) (hr10_0 : 0 ≤ n12.toInt) (hr10_1 : n12.toInt ≤ 48) : 0 ≤ n12.toInt ∧ n12.toInt ≤ 48 := by
  refine ⟨?_, ?_⟩ <;> first | assumption | omega | (subst_vars; omega) | trivial
-- post @32
theorem v_buildWord_6 (n16 : Int32) (hr14_0 : 0 ≤ n16.toInt) (hr14_1 : n16.toInt ≤ 48) : 0 ≤ n16.toInt ∧ n16.toInt ≤ 48 := by
  refine ⟨?_, ?_⟩ <;> first | assumption | omega | (subst_vars; omega) | trivial
set_option maxHeartbeats 4000000 in
set_option maxRecDepth 100000 in
theorem M_buildWord (l : Launch) (D : va_G) (cy : Nat → ClassId) (sz0 : Nat) (sa : Nat → Nat) (ad : Nat → Nat) (σ : RS) (sz : Nat) (k0 : Int32) (k1 : Int32) (k2 : Int32) (k3 : Int32) (k4 : Int32) (hpre : 0 ≤ (σ.1 59).toInt ∧ (σ.1 59).toInt ≤ 48) : Met l yX12_buildWord (Cond.code yX12_buildWord cX12_buildWord 6 none :: GWm) ({ frames := 1, cells := 0, slots := 0, locals := 21 }) (PcR D cy sz0 sa ad [.ref (ad 0), .int k0, .int k1, .int k2, .int k3, .int k4] σ sz) (va_Qv (fun (u : (Nat → Int32) × Int32) => 0 ≤ u.2.toInt ∧ u.2.toInt ≤ 48) (fun (u : (Nat → Int32) × Int32) (t : State) => RP D cy ad (rS (rA σ 58 u.1) 59 u.2) t.heap) (AR cy ad sz)) 0 0 (AR cy ad sz) := by
  refine RM_of (loc0 := [(0, .ref (ad 0)), (1, .int k0), (2, .int k1), (3, .int k2), (4, .int k3), (5, .int k4)]) (by decide) rfl rfl (Nat.le_of_ble_eq_true rfl) ?_
  intro p e s m below meth c ls hsz C hP hS hl
  have hx := C.1
  have hb := C.2.1
  have hown := C.2.2.2.2.1
  have hw := C.2.2.2.2.2.1
  clear hsz
  obtain ⟨hpre_0, hpre_1⟩ := hpre
  refine lv_aload_n hx hb dX12_buildWord_0 rfl (lv_at hl 0 rfl) ?_
  refine lv_iload_n hx hb dX12_buildWord_1 rfl (lv_at hl 1 rfl) ?_
  refine r_callVv (As := [.int k0]) (rest := []) C hP hS hl.1 ⟨Nat.zero_le _, Nat.zero_le _⟩ (M_build l D cy sz0 sa ad σ s.heap.size k0 (v_buildWord_1 σ hpre_0 hpre_1)) (n := 1) ⟨wm_223, wm_219, by decide +kernel⟩ ⟨wm_224, wm_225, wm_10⟩ rfl rfl (lv_room (Nat.le_of_ble_eq_true rfl)) ⟨Nat.le_of_ble_eq_true rfl, Nat.le_of_ble_eq_true rfl⟩ dX12_buildWord_2 (fun u H locs hr1 hP hS => ?_)
  obtain ⟨F2, n3⟩ := u
  have hr1 : 0 ≤ n3.toInt ∧ n3.toInt ≤ 48 := hr1
  obtain ⟨hr1_0, hr1_1⟩ := hr1
  have hP : RP D cy ad (rS (rA σ 58 F2) 59 n3) H := hP
  refine lv_aload_n hx hb dX12_buildWord_5 rfl (lv_at hl 0 rfl) ?_
  refine lv_iload_n hx hb dX12_buildWord_6 rfl (lv_at hl 2 rfl) ?_
  refine r_callVv (As := [.int k1]) (rest := []) C hP hS hl.1 ⟨Nat.zero_le _, Nat.zero_le _⟩ (M_build l D cy sz0 sa ad (rS (rA σ 58 F2) 59 n3) H.size k1 (v_buildWord_2 n3 hr1_0 hr1_1)) (n := 1) ⟨wm_223, wm_219, by decide +kernel⟩ ⟨wm_224, wm_225, wm_10⟩ rfl rfl (lv_room (Nat.le_of_ble_eq_true rfl)) ⟨Nat.le_of_ble_eq_true rfl, Nat.le_of_ble_eq_true rfl⟩ dX12_buildWord_7 (fun u H locs hr4 hP hS => ?_)
  obtain ⟨F5, n6⟩ := u
  have hr4 : 0 ≤ n6.toInt ∧ n6.toInt ≤ 48 := hr4
  obtain ⟨hr4_0, hr4_1⟩ := hr4
  have hP : RP D cy ad (rS (rA (rS (rA σ 58 F2) 59 n3) 58 F5) 59 n6) H := hP
  refine lv_aload_n hx hb dX12_buildWord_10 rfl (lv_at hl 0 rfl) ?_
  refine lv_iload_n hx hb dX12_buildWord_11 rfl (lv_at hl 3 rfl) ?_
  refine r_callVv (As := [.int k2]) (rest := []) C hP hS hl.1 ⟨Nat.zero_le _, Nat.zero_le _⟩ (M_build l D cy sz0 sa ad (rS (rA (rS (rA σ 58 F2) 59 n3) 58 F5) 59 n6) H.size k2 (v_buildWord_3 n6 hr4_0 hr4_1)) (n := 1) ⟨wm_223, wm_219, by decide +kernel⟩ ⟨wm_224, wm_225, wm_10⟩ rfl rfl (lv_room (Nat.le_of_ble_eq_true rfl)) ⟨Nat.le_of_ble_eq_true rfl, Nat.le_of_ble_eq_true rfl⟩ dX12_buildWord_12 (fun u H locs hr7 hP hS => ?_)
  obtain ⟨F8, n9⟩ := u
  have hr7 : 0 ≤ n9.toInt ∧ n9.toInt ≤ 48 := hr7
  obtain ⟨hr7_0, hr7_1⟩ := hr7
  have hP : RP D cy ad (rS (rA (rS (rA (rS (rA σ 58 F2) 59 n3) 58 F5) 59 n6) 58 F8) 59 n9) H := hP
  refine lv_aload_n hx hb dX12_buildWord_15 rfl (lv_at hl 0 rfl) ?_
  refine lv_iload hx hb dX12_buildWord_16 (lv_at hl 4 rfl) ?_
  refine r_callVv (As := [.int k3]) (rest := []) C hP hS hl.1 ⟨Nat.zero_le _, Nat.zero_le _⟩ (M_build l D cy sz0 sa ad (rS (rA (rS (rA (rS (rA σ 58 F2) 59 n3) 58 F5) 59 n6) 58 F8) 59 n9) H.size k3 (v_buildWord_4 n9 hr7_0 hr7_1)) (n := 1) ⟨wm_223, wm_219, by decide +kernel⟩ ⟨wm_224, wm_225, wm_10⟩ rfl rfl (lv_room (Nat.le_of_ble_eq_true rfl)) ⟨Nat.le_of_ble_eq_true rfl, Nat.le_of_ble_eq_true rfl⟩ dX12_buildWord_18 (fun u H locs hr10 hP hS => ?_)
  obtain ⟨F11, n12⟩ := u
  have hr10 : 0 ≤ n12.toInt ∧ n12.toInt ≤ 48 := hr10
  obtain ⟨hr10_0, hr10_1⟩ := hr10
  have hP : RP D cy ad (rS (rA (rS (rA (rS (rA (rS (rA σ 58 F2) 59 n3) 58 F5) 59 n6) 58 F8) 59 n9) 58 F11) 59 n12) H := hP
  refine lv_iload hx hb dX12_buildWord_21 (lv_at hl 5 rfl) ?_
  refine lv_if_le (tgt := 32) hx hb dX12_buildWord_23 (by decide) (fun c13 => ?_) (fun c13 => ?_)
  · have c13 : k4.toInt ≤ 0 := by have h := z_le c13; rw [show (0 : Int32).toInt = 0 from by decide +kernel] at h; exact h
    have hP : RP D cy ad (rS (rA σ 58 F11) 59 n12) H := RP.cong hP (Eq.trans (b := (σ.1 0)) rfl rfl) (Eq.trans (b := (σ.1 1)) rfl rfl) (Eq.trans (b := (σ.2.1 2)) rfl rfl) (Eq.trans (b := (σ.1 3)) rfl rfl) (Eq.trans (b := (σ.2.1 4)) rfl rfl) (Eq.trans (b := (σ.2.1 5)) rfl rfl) (Eq.trans (b := (σ.2.2.1 6)) rfl rfl) (Eq.trans (b := (σ.2.1 7)) rfl rfl) (Eq.trans (b := (σ.1 8)) rfl rfl) (Eq.trans (b := (σ.1 9)) rfl rfl) (Eq.trans (b := (σ.1 10)) rfl rfl) (Eq.trans (b := (σ.2.1 11)) rfl rfl) (Eq.trans (b := (σ.2.2.1 12)) rfl rfl) (Eq.trans (b := (σ.2.1 13)) rfl rfl) (Eq.trans (b := (σ.1 14)) rfl rfl) (Eq.trans (b := (σ.1 15)) rfl rfl) (Eq.trans (b := (σ.1 16)) rfl rfl) (Eq.trans (b := (σ.1 17)) rfl rfl) (Eq.trans (b := (σ.1 18)) rfl rfl) (Eq.trans (b := (σ.1 19)) rfl rfl) (Eq.trans (b := (σ.2.1 20)) rfl rfl) (Eq.trans (b := (σ.2.1 21)) rfl rfl) (Eq.trans (b := (σ.2.1 22)) rfl rfl) (Eq.trans (b := (σ.2.1 23)) rfl rfl) (Eq.trans (b := (σ.2.1 24)) rfl rfl) (Eq.trans (b := (σ.2.1 25)) rfl rfl) (Eq.trans (b := (σ.2.1 26)) rfl rfl) (Eq.trans (b := (σ.2.1 27)) rfl rfl) (Eq.trans (b := (σ.2.1 28)) rfl rfl) (Eq.trans (b := (σ.1 29)) rfl rfl) (Eq.trans (b := (σ.2.1 30)) rfl rfl) (Eq.trans (b := (σ.2.1 31)) rfl rfl) (Eq.trans (b := (σ.2.1 32)) rfl rfl) (Eq.trans (b := (σ.1 33)) rfl rfl) (Eq.trans (b := (σ.1 34)) rfl rfl) (Eq.trans (b := (σ.1 35)) rfl rfl) (Eq.trans (b := (σ.2.1 36)) rfl rfl) (Eq.trans (b := (σ.2.1 37)) rfl rfl) (Eq.trans (b := (σ.2.1 38)) rfl rfl) (Eq.trans (b := (σ.2.1 39)) rfl rfl) (Eq.trans (b := (σ.2.1 40)) rfl rfl) (Eq.trans (b := (σ.2.1 41)) rfl rfl) (Eq.trans (b := (σ.2.1 42)) rfl rfl) (Eq.trans (b := (σ.2.1 43)) rfl rfl) (Eq.trans (b := (σ.2.1 44)) rfl rfl) (Eq.trans (b := (σ.2.1 45)) rfl rfl) (Eq.trans (b := (σ.2.1 46)) rfl rfl) (Eq.trans (b := (σ.1 47)) rfl rfl) (Eq.trans (b := (σ.2.1 48)) rfl rfl) (Eq.trans (b := (σ.1 49)) rfl rfl) (Eq.trans (b := (σ.2.1 50)) rfl rfl) (Eq.trans (b := (σ.2.1 51)) rfl rfl) (Eq.trans (b := (σ.2.2.1 52)) rfl rfl) (Eq.trans (b := (σ.2.2.1 53)) rfl rfl) (Eq.trans (b := (σ.2.2.2)) rfl rfl) (Eq.trans (b := (σ.1 55)) rfl rfl) (Eq.trans (b := (σ.1 56)) rfl rfl) (Eq.trans (b := (σ.1 57)) rfl rfl) (Eq.trans (b := F11) rfl rfl) (Eq.trans (b := n12) rfl rfl)
    exact r_retv C ⟨F11, n12⟩ (v_buildWord_5 n12 hr10_0 hr10_1) hP hS dX12_buildWord_32
  · have c13 : 0 < k4.toInt := by have h := z_nle c13; rw [show (0 : Int32).toInt = 0 from by decide +kernel] at h; exact h
    refine lv_aload_n hx hb dX12_buildWord_26 rfl (lv_at hl 0 rfl) ?_
    refine lv_iload hx hb dX12_buildWord_27 (lv_at hl 5 rfl) ?_
    refine r_callVv (As := [.int k4]) (rest := []) C hP hS hl.1 ⟨Nat.zero_le _, Nat.zero_le _⟩ (M_build l D cy sz0 sa ad (rS (rA (rS (rA (rS (rA (rS (rA σ 58 F2) 59 n3) 58 F5) 59 n6) 58 F8) 59 n9) 58 F11) 59 n12) H.size k4 (v_buildWord_5 n12 hr10_0 hr10_1)) (n := 1) ⟨wm_223, wm_219, by decide +kernel⟩ ⟨wm_224, wm_225, wm_10⟩ rfl rfl (lv_room (Nat.le_of_ble_eq_true rfl)) ⟨Nat.le_of_ble_eq_true rfl, Nat.le_of_ble_eq_true rfl⟩ dX12_buildWord_29 (fun u H locs hr14 hP hS => ?_)
    obtain ⟨F15, n16⟩ := u
    have hr14 : 0 ≤ n16.toInt ∧ n16.toInt ≤ 48 := hr14
    obtain ⟨hr14_0, hr14_1⟩ := hr14
    have hP : RP D cy ad (rS (rA (rS (rA (rS (rA (rS (rA (rS (rA σ 58 F2) 59 n3) 58 F5) 59 n6) 58 F8) 59 n9) 58 F11) 59 n12) 58 F15) 59 n16) H := hP
    have hP : RP D cy ad (rS (rA σ 58 F15) 59 n16) H := RP.cong hP (Eq.trans (b := (σ.1 0)) rfl rfl) (Eq.trans (b := (σ.1 1)) rfl rfl) (Eq.trans (b := (σ.2.1 2)) rfl rfl) (Eq.trans (b := (σ.1 3)) rfl rfl) (Eq.trans (b := (σ.2.1 4)) rfl rfl) (Eq.trans (b := (σ.2.1 5)) rfl rfl) (Eq.trans (b := (σ.2.2.1 6)) rfl rfl) (Eq.trans (b := (σ.2.1 7)) rfl rfl) (Eq.trans (b := (σ.1 8)) rfl rfl) (Eq.trans (b := (σ.1 9)) rfl rfl) (Eq.trans (b := (σ.1 10)) rfl rfl) (Eq.trans (b := (σ.2.1 11)) rfl rfl) (Eq.trans (b := (σ.2.2.1 12)) rfl rfl) (Eq.trans (b := (σ.2.1 13)) rfl rfl) (Eq.trans (b := (σ.1 14)) rfl rfl) (Eq.trans (b := (σ.1 15)) rfl rfl) (Eq.trans (b := (σ.1 16)) rfl rfl) (Eq.trans (b := (σ.1 17)) rfl rfl) (Eq.trans (b := (σ.1 18)) rfl rfl) (Eq.trans (b := (σ.1 19)) rfl rfl) (Eq.trans (b := (σ.2.1 20)) rfl rfl) (Eq.trans (b := (σ.2.1 21)) rfl rfl) (Eq.trans (b := (σ.2.1 22)) rfl rfl) (Eq.trans (b := (σ.2.1 23)) rfl rfl) (Eq.trans (b := (σ.2.1 24)) rfl rfl) (Eq.trans (b := (σ.2.1 25)) rfl rfl) (Eq.trans (b := (σ.2.1 26)) rfl rfl) (Eq.trans (b := (σ.2.1 27)) rfl rfl) (Eq.trans (b := (σ.2.1 28)) rfl rfl) (Eq.trans (b := (σ.1 29)) rfl rfl) (Eq.trans (b := (σ.2.1 30)) rfl rfl) (Eq.trans (b := (σ.2.1 31)) rfl rfl) (Eq.trans (b := (σ.2.1 32)) rfl rfl) (Eq.trans (b := (σ.1 33)) rfl rfl) (Eq.trans (b := (σ.1 34)) rfl rfl) (Eq.trans (b := (σ.1 35)) rfl rfl) (Eq.trans (b := (σ.2.1 36)) rfl rfl) (Eq.trans (b := (σ.2.1 37)) rfl rfl) (Eq.trans (b := (σ.2.1 38)) rfl rfl) (Eq.trans (b := (σ.2.1 39)) rfl rfl) (Eq.trans (b := (σ.2.1 40)) rfl rfl) (Eq.trans (b := (σ.2.1 41)) rfl rfl) (Eq.trans (b := (σ.2.1 42)) rfl rfl) (Eq.trans (b := (σ.2.1 43)) rfl rfl) (Eq.trans (b := (σ.2.1 44)) rfl rfl) (Eq.trans (b := (σ.2.1 45)) rfl rfl) (Eq.trans (b := (σ.2.1 46)) rfl rfl) (Eq.trans (b := (σ.1 47)) rfl rfl) (Eq.trans (b := (σ.2.1 48)) rfl rfl) (Eq.trans (b := (σ.1 49)) rfl rfl) (Eq.trans (b := (σ.2.1 50)) rfl rfl) (Eq.trans (b := (σ.2.1 51)) rfl rfl) (Eq.trans (b := (σ.2.2.1 52)) rfl rfl) (Eq.trans (b := (σ.2.2.1 53)) rfl rfl) (Eq.trans (b := (σ.2.2.2)) rfl rfl) (Eq.trans (b := (σ.1 55)) rfl rfl) (Eq.trans (b := (σ.1 56)) rfl rfl) (Eq.trans (b := (σ.1 57)) rfl rfl) (Eq.trans (b := F15) rfl rfl) (Eq.trans (b := n16) rfl rfl)
    exact r_retv C ⟨F15, n16⟩ (v_buildWord_6 n16 hr14_0 hr14_1) hP hS dX12_buildWord_32

-- init@29 @29
theorem v_buildNumber_1   : 0 ≤ (0 : Int32).toInt ∧ (0 : Int32).toInt ≤ 10 := by
  have q0 : (0 : Int32).toInt = 0 := by decide +kernel
  refine ⟨?_, ?_⟩ <;> first | assumption | omega | (subst_vars; omega) | trivial
-- init@64 @64
theorem v_buildNumber_2 (σ : RS) (hpre_0 : 0 ≤ (σ.1 59).toInt) (hpre_1 : (σ.1 59).toInt ≤ 48) : 0 ≤ (σ.1 59).toInt ∧ (σ.1 59).toInt ≤ 48 ∧ 0 ≤ (0 : Int32).toInt ∧ (0 : Int32).toInt ≤ 11 := by
  have q0 : (0 : Int32).toInt = 0 := by decide +kernel
  refine ⟨?_, ?_, ?_, ?_⟩ <;> first | assumption | omega | (subst_vars; omega) | trivial
-- post @109
theorem v_buildNumber_3 (n10 : Int32) (hi64_0 : 0 ≤ n10.toInt) (hi64_1 : n10.toInt ≤ 48) : 0 ≤ n10.toInt ∧ n10.toInt ≤ 48 := by
  refine ⟨?_, ?_⟩ <;> first | assumption | omega | (subst_vars; omega) | trivial
-- div@85 @85
theorem v_buildNumber_4 (y8 : Int64) (x12 : Int32) (tx12 : (x12.toInt = 0 ↔ y8.toInt = 0) ∧ (x12.toInt < 0 ↔ y8.toInt < 0)) (c13 : 0 < x12.toInt) : ¬ y8 = 0 := by
  intro h
  first
  | (have h := congrArg Int64.toInt h; have z9 : (0 : Int64).toInt = 0 := (by decide +kernel); omega)
  | (subst h; first | omega | simp_all)
-- nw@103 @103
theorem v_buildNumber_5 (y7 : Int32) (x22 : Int32) (hi64_2 : 0 ≤ y7.toInt) (hi64_3 : y7.toInt ≤ 11) (c11 : y7.toInt < 11) (ex22 : x22 = y7 + (1 : Int32)) : x22.toInt = y7.toInt + 1 := by
  have q1 : (1 : Int32).toInt = 1 := by decide +kernel
  have z9 : (1 : Int32).toInt = 1 := by decide +kernel
  rw [ex22, z_add (by omega) (by omega)]; first | done | omega
-- inv@64 @64
theorem v_buildNumber_6 (y7 : Int32) (n20 : Int32) (x22 : Int32) (hi64_2 : 0 ≤ y7.toInt) (hi64_3 : y7.toInt ≤ 11) (c11 : y7.toInt < 11) (hr18_0 : 0 ≤ n20.toInt) (hr18_1 : n20.toInt ≤ 48) (ex22 : x22 = y7 + (1 : Int32)) (tx22 : x22.toInt = y7.toInt + 1) : 0 ≤ n20.toInt ∧ n20.toInt ≤ 48 ∧ 0 ≤ x22.toInt ∧ x22.toInt ≤ 11 := by
  have q1 : (1 : Int32).toInt = 1 := by decide +kernel
  refine ⟨?_, ?_, ?_, ?_⟩ <;> first | assumption | omega | (subst_vars; omega) | trivial
-- meas@64 @64
theorem v_buildNumber_7 (y7 : Int32) (x22 : Int32) (hi64_2 : 0 ≤ y7.toInt) (hi64_3 : y7.toInt ≤ 11) (c11 : y7.toInt < 11) (ex22 : x22 = y7 + (1 : Int32)) (tx22 : x22.toInt = y7.toInt + 1) : (11 - x22.toInt).toNat < (11 - y7.toInt).toNat := by
  have q1 : (1 : Int32).toInt = 1 := by decide +kernel
  first | assumption | omega | (subst_vars; omega) | trivial
-- post @109
theorem v_buildNumber_8 (n29 : Int32) (hi64_0 : 0 ≤ n29.toInt) (hi64_1 : n29.toInt ≤ 48) : 0 ≤ n29.toInt ∧ n29.toInt ≤ 48 := by
  refine ⟨?_, ?_⟩ <;> first | assumption | omega | (subst_vars; omega) | trivial
-- div@85 @85
theorem v_buildNumber_9 (y27 : Int64) (x31 : Int32) (tx31 : (x31.toInt = 0 ↔ y27.toInt = 0) ∧ (x31.toInt < 0 ↔ y27.toInt < 0)) (c32 : 0 < x31.toInt) : ¬ y27 = 0 := by
  intro h
  first
  | (have h := congrArg Int64.toInt h; have z9 : (0 : Int64).toInt = 0 := (by decide +kernel); omega)
  | (subst h; first | omega | simp_all)
-- nw@103 @103
theorem v_buildNumber_10 (y26 : Int32) (x41 : Int32) (hi64_2 : 0 ≤ y26.toInt) (hi64_3 : y26.toInt ≤ 11) (c30 : y26.toInt < 11) (ex41 : x41 = y26 + (1 : Int32)) : x41.toInt = y26.toInt + 1 := by
  have q1 : (1 : Int32).toInt = 1 := by decide +kernel
  have z9 : (1 : Int32).toInt = 1 := by decide +kernel
  rw [ex41, z_add (by omega) (by omega)]; first | done | omega
-- inv@64 @64
theorem v_buildNumber_11 (y26 : Int32) (n39 : Int32) (x41 : Int32) (hi64_2 : 0 ≤ y26.toInt) (hi64_3 : y26.toInt ≤ 11) (c30 : y26.toInt < 11) (hr37_0 : 0 ≤ n39.toInt) (hr37_1 : n39.toInt ≤ 48) (ex41 : x41 = y26 + (1 : Int32)) (tx41 : x41.toInt = y26.toInt + 1) : 0 ≤ n39.toInt ∧ n39.toInt ≤ 48 ∧ 0 ≤ x41.toInt ∧ x41.toInt ≤ 11 := by
  have q1 : (1 : Int32).toInt = 1 := by decide +kernel
  refine ⟨?_, ?_, ?_, ?_⟩ <;> first | assumption | omega | (subst_vars; omega) | trivial
-- meas@64 @64
theorem v_buildNumber_12 (y26 : Int32) (x41 : Int32) (hi64_2 : 0 ≤ y26.toInt) (hi64_3 : y26.toInt ≤ 11) (c30 : y26.toInt < 11) (ex41 : x41 = y26 + (1 : Int32)) (tx41 : x41.toInt = y26.toInt + 1) : (11 - x41.toInt).toNat < (11 - y26.toInt).toNat := by
  have q1 : (1 : Int32).toInt = 1 := by decide +kernel
  first | assumption | omega | (subst_vars; omega) | trivial
-- nw@55 @55
theorem v_buildNumber_13 (y4 : Int32) (x43 : Int32) (hi29_0 : 0 ≤ y4.toInt) (hi29_1 : y4.toInt ≤ 10) (c6 : y4.toInt < 10) (ex43 : x43 = y4 + (1 : Int32)) : x43.toInt = y4.toInt + 1 := by
  have q1 : (1 : Int32).toInt = 1 := by decide +kernel
  have z9 : (1 : Int32).toInt = 1 := by decide +kernel
  rw [ex43, z_add (by omega) (by omega)]; first | done | omega
-- inv@29 @29
theorem v_buildNumber_14 (y4 : Int32) (x43 : Int32) (hi29_0 : 0 ≤ y4.toInt) (hi29_1 : y4.toInt ≤ 10) (c6 : y4.toInt < 10) (ex43 : x43 = y4 + (1 : Int32)) (tx43 : x43.toInt = y4.toInt + 1) : 0 ≤ x43.toInt ∧ x43.toInt ≤ 10 := by
  have q1 : (1 : Int32).toInt = 1 := by decide +kernel
  refine ⟨?_, ?_⟩ <;> first | assumption | omega | (subst_vars; omega) | trivial
-- meas@29 @29
theorem v_buildNumber_15 (y4 : Int32) (x43 : Int32) (hi29_0 : 0 ≤ y4.toInt) (hi29_1 : y4.toInt ≤ 10) (c6 : y4.toInt < 10) (ex43 : x43 = y4 + (1 : Int32)) (tx43 : x43.toInt = y4.toInt + 1) : (10 - x43.toInt).toNat < (10 - y4.toInt).toNat := by
  have q1 : (1 : Int32).toInt = 1 := by decide +kernel
  first | assumption | omega | (subst_vars; omega) | trivial
-- dead@14 @17
theorem v_buildNumber_16 (k0 : Int32) (x2 : Int64) (c1 : 0 ≤ k0.toInt) (ex2 : x2 = Int32.toInt64 k0) (tx2 : x2.toInt = k0.toInt) (c3 : k0.toInt < 0) : False := by
  first | assumption | omega | (subst_vars; omega) | trivial
-- dead@14 @23
theorem v_buildNumber_17 (k0 : Int32) (x44 : Int64) (c1 : k0.toInt < 0) (ex44 : x44 = Int32.toInt64 k0) (tx44 : x44.toInt = k0.toInt) (c46 : 0 ≤ k0.toInt) : False := by
  first | assumption | omega | (subst_vars; omega) | trivial
-- pre:build@20 @20
theorem v_buildNumber_18 (σ : RS) (hpre_0 : 0 ≤ (σ.1 59).toInt) (hpre_1 : (σ.1 59).toInt ≤ 48) : 0 ≤ (σ.1 59).toInt ∧ (σ.1 59).toInt ≤ 48 := by
  refine ⟨?_, ?_⟩ <;> first | assumption | omega | (subst_vars; omega) | trivial
-- init@64 @64
theorem v_buildNumber_19 (n49 : Int32) (hr47_0 : 0 ≤ n49.toInt) (hr47_1 : n49.toInt ≤ 48) : 0 ≤ n49.toInt ∧ n49.toInt ≤ 48 ∧ 0 ≤ (0 : Int32).toInt ∧ (0 : Int32).toInt ≤ 11 := by
  have q0 : (0 : Int32).toInt = 0 := by decide +kernel
  refine ⟨?_, ?_, ?_, ?_⟩ <;> first | assumption | omega | (subst_vars; omega) | trivial
-- post @109
theorem v_buildNumber_20 (n56 : Int32) (hi64_0 : 0 ≤ n56.toInt) (hi64_1 : n56.toInt ≤ 48) : 0 ≤ n56.toInt ∧ n56.toInt ≤ 48 := by
  refine ⟨?_, ?_⟩ <;> first | assumption | omega | (subst_vars; omega) | trivial
-- div@85 @85
theorem v_buildNumber_21 (y54 : Int64) (x58 : Int32) (tx58 : (x58.toInt = 0 ↔ y54.toInt = 0) ∧ (x58.toInt < 0 ↔ y54.toInt < 0)) (c59 : 0 < x58.toInt) : ¬ y54 = 0 := by
  intro h
  first
  | (have h := congrArg Int64.toInt h; have z9 : (0 : Int64).toInt = 0 := (by decide +kernel); omega)
  | (subst h; first | omega | simp_all)
-- nw@103 @103
theorem v_buildNumber_22 (y53 : Int32) (x68 : Int32) (hi64_2 : 0 ≤ y53.toInt) (hi64_3 : y53.toInt ≤ 11) (c57 : y53.toInt < 11) (ex68 : x68 = y53 + (1 : Int32)) : x68.toInt = y53.toInt + 1 := by
  have q1 : (1 : Int32).toInt = 1 := by decide +kernel
  have z9 : (1 : Int32).toInt = 1 := by decide +kernel
  rw [ex68, z_add (by omega) (by omega)]; first | done | omega
-- inv@64 @64
theorem v_buildNumber_23 (y53 : Int32) (n66 : Int32) (x68 : Int32) (hi64_2 : 0 ≤ y53.toInt) (hi64_3 : y53.toInt ≤ 11) (c57 : y53.toInt < 11) (hr64_0 : 0 ≤ n66.toInt) (hr64_1 : n66.toInt ≤ 48) (ex68 : x68 = y53 + (1 : Int32)) (tx68 : x68.toInt = y53.toInt + 1) : 0 ≤ n66.toInt ∧ n66.toInt ≤ 48 ∧ 0 ≤ x68.toInt ∧ x68.toInt ≤ 11 := by
  have q1 : (1 : Int32).toInt = 1 := by decide +kernel
  refine ⟨?_, ?_, ?_, ?_⟩ <;> first | assumption | omega | (subst_vars; omega) | trivial
-- meas@64 @64
theorem v_buildNumber_24 (y53 : Int32) (x68 : Int32) (hi64_2 : 0 ≤ y53.toInt) (hi64_3 : y53.toInt ≤ 11) (c57 : y53.toInt < 11) (ex68 : x68 = y53 + (1 : Int32)) (tx68 : x68.toInt = y53.toInt + 1) : (11 - x68.toInt).toNat < (11 - y53.toInt).toNat := by
  have q1 : (1 : Int32).toInt = 1 := by decide +kernel
  first | assumption | omega | (subst_vars; omega) | trivial
-- post @109
theorem v_buildNumber_25 (n75 : Int32) (hi64_0 : 0 ≤ n75.toInt) (hi64_1 : n75.toInt ≤ 48) : 0 ≤ n75.toInt ∧ n75.toInt ≤ 48 := by
  refine ⟨?_, ?_⟩ <;> first | assumption | omega | (subst_vars; omega) | trivial
-- div@85 @85
theorem v_buildNumber_26 (y73 : Int64) (x77 : Int32) (tx77 : (x77.toInt = 0 ↔ y73.toInt = 0) ∧ (x77.toInt < 0 ↔ y73.toInt < 0)) (c78 : 0 < x77.toInt) : ¬ y73 = 0 := by
  intro h
  first
  | (have h := congrArg Int64.toInt h; have z9 : (0 : Int64).toInt = 0 := (by decide +kernel); omega)
  | (subst h; first | omega | simp_all)
-- nw@103 @103
theorem v_buildNumber_27 (y72 : Int32) (x87 : Int32) (hi64_2 : 0 ≤ y72.toInt) (hi64_3 : y72.toInt ≤ 11) (c76 : y72.toInt < 11) (ex87 : x87 = y72 + (1 : Int32)) : x87.toInt = y72.toInt + 1 := by
  have q1 : (1 : Int32).toInt = 1 := by decide +kernel
  have z9 : (1 : Int32).toInt = 1 := by decide +kernel
  rw [ex87, z_add (by omega) (by omega)]; first | done | omega
-- inv@64 @64
theorem v_buildNumber_28 (y72 : Int32) (n85 : Int32) (x87 : Int32) (hi64_2 : 0 ≤ y72.toInt) (hi64_3 : y72.toInt ≤ 11) (c76 : y72.toInt < 11) (hr83_0 : 0 ≤ n85.toInt) (hr83_1 : n85.toInt ≤ 48) (ex87 : x87 = y72 + (1 : Int32)) (tx87 : x87.toInt = y72.toInt + 1) : 0 ≤ n85.toInt ∧ n85.toInt ≤ 48 ∧ 0 ≤ x87.toInt ∧ x87.toInt ≤ 11 := by
  have q1 : (1 : Int32).toInt = 1 := by decide +kernel
  refine ⟨?_, ?_, ?_, ?_⟩ <;> first | assumption | omega | (subst_vars; omega) | trivial
-- meas@64 @64
theorem v_buildNumber_29 (y72 : Int32) (x87 : Int32) (hi64_2 : 0 ≤ y72.toInt) (hi64_3 : y72.toInt ≤ 11) (c76 : y72.toInt < 11) (ex87 : x87 = y72 + (1 : Int32)) (tx87 : x87.toInt = y72.toInt + 1) : (11 - x87.toInt).toNat < (11 - y72.toInt).toNat := by
  have q1 : (1 : Int32).toInt = 1 := by decide +kernel
  first | assumption | omega | (subst_vars; omega) | trivial
-- nw@55 @55
theorem v_buildNumber_30 (y50 : Int32) (x89 : Int32) (hi29_0 : 0 ≤ y50.toInt) (hi29_1 : y50.toInt ≤ 10) (c52 : y50.toInt < 10) (ex89 : x89 = y50 + (1 : Int32)) : x89.toInt = y50.toInt + 1 := by
  have q1 : (1 : Int32).toInt = 1 := by decide +kernel
  have z9 : (1 : Int32).toInt = 1 := by decide +kernel
  rw [ex89, z_add (by omega) (by omega)]; first | done | omega
-- inv@29 @29
theorem v_buildNumber_31 (y50 : Int32) (x89 : Int32) (hi29_0 : 0 ≤ y50.toInt) (hi29_1 : y50.toInt ≤ 10) (c52 : y50.toInt < 10) (ex89 : x89 = y50 + (1 : Int32)) (tx89 : x89.toInt = y50.toInt + 1) : 0 ≤ x89.toInt ∧ x89.toInt ≤ 10 := by
  have q1 : (1 : Int32).toInt = 1 := by decide +kernel
  refine ⟨?_, ?_⟩ <;> first | assumption | omega | (subst_vars; omega) | trivial
-- meas@29 @29
theorem v_buildNumber_32 (y50 : Int32) (x89 : Int32) (hi29_0 : 0 ≤ y50.toInt) (hi29_1 : y50.toInt ≤ 10) (c52 : y50.toInt < 10) (ex89 : x89 = y50 + (1 : Int32)) (tx89 : x89.toInt = y50.toInt + 1) : (10 - x89.toInt).toNat < (10 - y50.toInt).toNat := by
  have q1 : (1 : Int32).toInt = 1 := by decide +kernel
  first | assumption | omega | (subst_vars; omega) | trivial
set_option maxHeartbeats 4000000 in
set_option maxRecDepth 100000 in
theorem L_buildNumber_64_2 {p : Program} {e : Env} {s : State} {m : MethodId} {below : List Frame} {meth : Method} {c : Code} (l : Launch) (D : va_G) (cy : Nat → ClassId) (sz0 : Nat) (sa : Nat → Nat) (ad : Nat → Nat) (sz : Nat) (σ : RS) (k0 : Int32) (x2 : Int64) (y4 : Int32) (y5 : Int64) (C : RC p s m #[.ref (ad 0), .int k0] meth c cX12_buildNumber 7 none D cy sz0 sa ad (AR cy ad sz)) (hpre_0 : 0 ≤ (σ.1 59).toInt) (hpre_1 : (σ.1 59).toInt ≤ 48) (c1 : 0 ≤ k0.toInt) (ex2 : x2 = Int32.toInt64 k0) (tx2 : x2.toInt = k0.toInt) (c3 : 0 ≤ k0.toInt) (hi29_0 : 0 ≤ y4.toInt) (hi29_1 : y4.toInt ≤ 10) (c6 : 10 ≤ y4.toInt) : ∀ (n : Nat) (y7 : Int32) (y8 : Int64) (F9 : (Nat → Int32)) (n10 : Int32) (H : Heap) (locs : List Loc) (ls : Array Slot), (11 - y7.toInt).toNat < n → (0 ≤ n10.toInt ∧ n10.toInt ≤ 48 ∧ 0 ≤ y7.toInt ∧ y7.toInt ≤ 11) → RP D cy ad (rS (rA σ 58 F9) 59 n10) H → va_S (AR cy ad sz) s.heap H locs → lv_has ls 7 [(6, .int y7), (4, .long y8), (2, .long x2), (0, .ref (ad 0)), (1, .int k0)] → W p l e (headSpec (Cond.code yX12_buildNumber cX12_buildNumber 7 none :: GWm) ({ frames := 1, cells := 0, slots := 0, locals := 21 })).room s m #[.ref (ad 0), .int k0] below meth c H locs 0 0 (MQ below (va_Qv (fun (u : (Nat → Int32) × Int32) => 0 ≤ u.2.toInt ∧ u.2.toInt ≤ 48) (fun (u : (Nat → Int32) × Int32) (t : State) => RP D cy ad (rS (rA σ 58 u.1) 59 u.2) t.heap) (AR cy ad sz)) #[.ref (ad 0), .int k0] s 0 0 (AR cy ad sz)) (F0 m 64 ls []) := by
  have hx := C.1
  have hb := C.2.1
  have hown := C.2.2.2.2.1
  have hw := C.2.2.2.2.2.1
  intro n
  induction n with
  | zero => intro y7 y8 F9 n10 H locs ls hn; exact absurd hn (Nat.not_lt_zero _)
  | succ n ih64 =>
    intro y7 y8 F9 n10 H locs ls hn64 hi64 hP hS hl
    obtain ⟨hi64_0, hi64_1, hi64_2, hi64_3⟩ := hi64
    refine lv_iload hx hb dX12_buildNumber_64 (lv_at hl 0 rfl) ?_
    refine lv_bipush (v := 11) hx hb dX12_buildNumber_66 (by decide +kernel) ?_
    refine lv_icmp_ge (tgt := 109) hx hb dX12_buildNumber_68 (by decide) (fun c11 => ?_) (fun c11 => ?_)
    · have c11 : 11 ≤ y7.toInt := by have h := z_le c11; rw [show (11 : Int32).toInt = 11 from by decide +kernel] at h; exact h
      exact r_retv C ⟨F9, n10⟩ (v_buildNumber_3 n10 hi64_0 hi64_1) hP hS dX12_buildNumber_109
    · have c11 : y7.toInt < 11 := by have h := z_nle c11; rw [show (11 : Int32).toInt = 11 from by decide +kernel] at h; exact h
      refine lv_lload hx hb dX12_buildNumber_71 (lv_at hl 1 rfl) ?_
      refine lv_lconst (v := 0) hx hb dX12_buildNumber_73 rfl ?_
      refine W.lcmp hx hb dX12_buildNumber_74 ?_
      refine lv_topi (fun x12 ex12 => ?_)
      have tx12 : (x12.toInt = 0 ↔ y8.toInt = 0) ∧ (x12.toInt < 0 ↔ y8.toInt < 0) := z_lcmp ex12 rfl (by decide +kernel)
      refine lv_if_le (tgt := 109) hx hb dX12_buildNumber_75 (by decide) (fun c13 => ?_) (fun c13 => ?_)
      · have c13 : x12.toInt ≤ 0 := by have h := z_le c13; rw [show (0 : Int32).toInt = 0 from by decide +kernel] at h; exact h
        exact r_retv C ⟨F9, n10⟩ (v_buildNumber_3 n10 hi64_0 hi64_1) hP hS dX12_buildNumber_109
      · have c13 : 0 < x12.toInt := by have h := z_nle c13; rw [show (0 : Int32).toInt = 0 from by decide +kernel] at h; exact h
        refine lv_aload_n hx hb dX12_buildNumber_78 rfl (lv_at hl 3 rfl) ?_
        refine lv_ldc2 (v := 48) hx hb hown (hw _ wm_23) dX12_buildNumber_79 ?_
        refine lv_lload_n hx hb dX12_buildNumber_82 rfl (lv_at hl 2 rfl) ?_
        refine lv_lload hx hb dX12_buildNumber_83 (lv_at hl 1 rfl) ?_
        refine lv_ldiv hx hb dX12_buildNumber_85 (v_buildNumber_4 y8 x12 tx12 c13) ?_
        refine lv_topl (fun x14 ex14 => ?_)
        refine lv_ldc2 (v := 10) hx hb hown (hw _ wm_22) dX12_buildNumber_86 ?_
        refine lv_lrem hx hb dX12_buildNumber_89 (by decide +kernel) ?_
        refine lv_topl (fun x15 ex15 => ?_)
        refine lv_ladd hx hb dX12_buildNumber_90 ?_
        refine lv_topl (fun x16 ex16 => ?_)
        refine lv_l2i hx hb dX12_buildNumber_91 rfl ?_
        refine lv_topi (fun x17 ex17 => ?_)
        have tx17 : -2147483648 ≤ x16.toInt → x16.toInt < 2147483648 → x17.toInt = x16.toInt := z_l2i ex17
        refine r_callVv (As := [.int x17]) (rest := []) C hP hS hl.1 ⟨Nat.zero_le _, Nat.zero_le _⟩ (M_build l D cy sz0 sa ad (rS (rA σ 58 F9) 59 n10) H.size x17 (v_buildNumber_3 n10 hi64_0 hi64_1)) (n := 1) ⟨wm_223, wm_219, by decide +kernel⟩ ⟨wm_224, wm_225, wm_10⟩ rfl rfl (lv_room (Nat.le_of_ble_eq_true rfl)) ⟨Nat.le_of_ble_eq_true rfl, Nat.le_of_ble_eq_true rfl⟩ dX12_buildNumber_92 (fun u H locs hr18 hP hS => ?_)
        obtain ⟨F19, n20⟩ := u
        have hr18 : 0 ≤ n20.toInt ∧ n20.toInt ≤ 48 := hr18
        obtain ⟨hr18_0, hr18_1⟩ := hr18
        have hP : RP D cy ad (rS (rA (rS (rA σ 58 F9) 59 n10) 58 F19) 59 n20) H := hP
        refine lv_lload hx hb dX12_buildNumber_95 (lv_at hl 1 rfl) ?_
        refine lv_ldc2 (v := 10) hx hb hown (hw _ wm_22) dX12_buildNumber_97 ?_
        refine lv_ldiv hx hb dX12_buildNumber_100 (by decide +kernel) ?_
        refine lv_topl (fun x21 ex21 => ?_)
        refine lv_lstore (lv' := [(4, .long x21), (6, .int y7), (2, .long x2), (0, .ref (ad 0)), (1, .int k0)]) hx hb dX12_buildNumber_101 hl (by decide) rfl (fun ls hl => ?_)
        obtain ⟨x22, ex22⟩ : ∃ y : Int32, y = y7 + (1 : Int32) := ⟨_, rfl⟩
        have tx22 : x22.toInt = y7.toInt + 1 := (v_buildNumber_5 y7 x22 hi64_2 hi64_3 c11 ex22)
        refine lv_iinc (v := x22) (lv' := [(6, .int x22), (4, .long x21), (2, .long x2), (0, .ref (ad 0)), (1, .int k0)]) hx hb dX12_buildNumber_103 hl (k := 1) rfl (by rw [ex22]; rfl) (by decide) rfl (fun ls hl => ?_)
        refine lv_goto (tgt := 64) hx hb dX12_buildNumber_106 (by decide) ?_
        have hP : RP D cy ad (rS (rA σ 58 F19) 59 n20) H := RP.cong hP (Eq.trans (b := (σ.1 0)) rfl rfl) (Eq.trans (b := (σ.1 1)) rfl rfl) (Eq.trans (b := (σ.2.1 2)) rfl rfl) (Eq.trans (b := (σ.1 3)) rfl rfl) (Eq.trans (b := (σ.2.1 4)) rfl rfl) (Eq.trans (b := (σ.2.1 5)) rfl rfl) (Eq.trans (b := (σ.2.2.1 6)) rfl rfl) (Eq.trans (b := (σ.2.1 7)) rfl rfl) (Eq.trans (b := (σ.1 8)) rfl rfl) (Eq.trans (b := (σ.1 9)) rfl rfl) (Eq.trans (b := (σ.1 10)) rfl rfl) (Eq.trans (b := (σ.2.1 11)) rfl rfl) (Eq.trans (b := (σ.2.2.1 12)) rfl rfl) (Eq.trans (b := (σ.2.1 13)) rfl rfl) (Eq.trans (b := (σ.1 14)) rfl rfl) (Eq.trans (b := (σ.1 15)) rfl rfl) (Eq.trans (b := (σ.1 16)) rfl rfl) (Eq.trans (b := (σ.1 17)) rfl rfl) (Eq.trans (b := (σ.1 18)) rfl rfl) (Eq.trans (b := (σ.1 19)) rfl rfl) (Eq.trans (b := (σ.2.1 20)) rfl rfl) (Eq.trans (b := (σ.2.1 21)) rfl rfl) (Eq.trans (b := (σ.2.1 22)) rfl rfl) (Eq.trans (b := (σ.2.1 23)) rfl rfl) (Eq.trans (b := (σ.2.1 24)) rfl rfl) (Eq.trans (b := (σ.2.1 25)) rfl rfl) (Eq.trans (b := (σ.2.1 26)) rfl rfl) (Eq.trans (b := (σ.2.1 27)) rfl rfl) (Eq.trans (b := (σ.2.1 28)) rfl rfl) (Eq.trans (b := (σ.1 29)) rfl rfl) (Eq.trans (b := (σ.2.1 30)) rfl rfl) (Eq.trans (b := (σ.2.1 31)) rfl rfl) (Eq.trans (b := (σ.2.1 32)) rfl rfl) (Eq.trans (b := (σ.1 33)) rfl rfl) (Eq.trans (b := (σ.1 34)) rfl rfl) (Eq.trans (b := (σ.1 35)) rfl rfl) (Eq.trans (b := (σ.2.1 36)) rfl rfl) (Eq.trans (b := (σ.2.1 37)) rfl rfl) (Eq.trans (b := (σ.2.1 38)) rfl rfl) (Eq.trans (b := (σ.2.1 39)) rfl rfl) (Eq.trans (b := (σ.2.1 40)) rfl rfl) (Eq.trans (b := (σ.2.1 41)) rfl rfl) (Eq.trans (b := (σ.2.1 42)) rfl rfl) (Eq.trans (b := (σ.2.1 43)) rfl rfl) (Eq.trans (b := (σ.2.1 44)) rfl rfl) (Eq.trans (b := (σ.2.1 45)) rfl rfl) (Eq.trans (b := (σ.2.1 46)) rfl rfl) (Eq.trans (b := (σ.1 47)) rfl rfl) (Eq.trans (b := (σ.2.1 48)) rfl rfl) (Eq.trans (b := (σ.1 49)) rfl rfl) (Eq.trans (b := (σ.2.1 50)) rfl rfl) (Eq.trans (b := (σ.2.1 51)) rfl rfl) (Eq.trans (b := (σ.2.2.1 52)) rfl rfl) (Eq.trans (b := (σ.2.2.1 53)) rfl rfl) (Eq.trans (b := (σ.2.2.2)) rfl rfl) (Eq.trans (b := (σ.1 55)) rfl rfl) (Eq.trans (b := (σ.1 56)) rfl rfl) (Eq.trans (b := (σ.1 57)) rfl rfl) (Eq.trans (b := F19) rfl rfl) (Eq.trans (b := n20) rfl rfl)
        exact ih64 x22 x21 F19 n20 _ _ _ (Nat.lt_of_lt_of_le (v_buildNumber_7 y7 x22 hi64_2 hi64_3 c11 ex22 tx22) (Nat.le_of_lt_succ hn64)) (v_buildNumber_6 y7 n20 x22 hi64_2 hi64_3 c11 hr18_0 hr18_1 ex22 tx22) hP hS (lv_sub hl [0, 1, 2, 3, 4] rfl)
set_option maxHeartbeats 4000000 in
set_option maxRecDepth 100000 in
theorem L_buildNumber_64_3 {p : Program} {e : Env} {s : State} {m : MethodId} {below : List Frame} {meth : Method} {c : Code} (l : Launch) (D : va_G) (cy : Nat → ClassId) (sz0 : Nat) (sa : Nat → Nat) (ad : Nat → Nat) (sz : Nat) (σ : RS) (k0 : Int32) (x2 : Int64) (y4 : Int32) (y5 : Int64) (x23 : Int64) (x24 : Int32) (C : RC p s m #[.ref (ad 0), .int k0] meth c cX12_buildNumber 7 none D cy sz0 sa ad (AR cy ad sz)) (hpre_0 : 0 ≤ (σ.1 59).toInt) (hpre_1 : (σ.1 59).toInt ≤ 48) (c1 : 0 ≤ k0.toInt) (ex2 : x2 = Int32.toInt64 k0) (tx2 : x2.toInt = k0.toInt) (c3 : 0 ≤ k0.toInt) (hi29_0 : 0 ≤ y4.toInt) (hi29_1 : y4.toInt ≤ 10) (c6 : y4.toInt < 10) (ex23 : x23 = y5 * (10 : Int64)) (tx24 : (x24.toInt = 0 ↔ x23.toInt = x2.toInt) ∧ (x24.toInt < 0 ↔ x23.toInt < x2.toInt)) (c25 : 0 < x24.toInt) : ∀ (n : Nat) (y26 : Int32) (y27 : Int64) (F28 : (Nat → Int32)) (n29 : Int32) (H : Heap) (locs : List Loc) (ls : Array Slot), (11 - y26.toInt).toNat < n → (0 ≤ n29.toInt ∧ n29.toInt ≤ 48 ∧ 0 ≤ y26.toInt ∧ y26.toInt ≤ 11) → RP D cy ad (rS (rA σ 58 F28) 59 n29) H → va_S (AR cy ad sz) s.heap H locs → lv_has ls 7 [(6, .int y26), (4, .long y27), (2, .long x2), (0, .ref (ad 0)), (1, .int k0)] → W p l e (headSpec (Cond.code yX12_buildNumber cX12_buildNumber 7 none :: GWm) ({ frames := 1, cells := 0, slots := 0, locals := 21 })).room s m #[.ref (ad 0), .int k0] below meth c H locs 0 0 (MQ below (va_Qv (fun (u : (Nat → Int32) × Int32) => 0 ≤ u.2.toInt ∧ u.2.toInt ≤ 48) (fun (u : (Nat → Int32) × Int32) (t : State) => RP D cy ad (rS (rA σ 58 u.1) 59 u.2) t.heap) (AR cy ad sz)) #[.ref (ad 0), .int k0] s 0 0 (AR cy ad sz)) (F0 m 64 ls []) := by
  have hx := C.1
  have hb := C.2.1
  have hown := C.2.2.2.2.1
  have hw := C.2.2.2.2.2.1
  intro n
  induction n with
  | zero => intro y26 y27 F28 n29 H locs ls hn; exact absurd hn (Nat.not_lt_zero _)
  | succ n ih64 =>
    intro y26 y27 F28 n29 H locs ls hn64 hi64 hP hS hl
    obtain ⟨hi64_0, hi64_1, hi64_2, hi64_3⟩ := hi64
    refine lv_iload hx hb dX12_buildNumber_64 (lv_at hl 0 rfl) ?_
    refine lv_bipush (v := 11) hx hb dX12_buildNumber_66 (by decide +kernel) ?_
    refine lv_icmp_ge (tgt := 109) hx hb dX12_buildNumber_68 (by decide) (fun c30 => ?_) (fun c30 => ?_)
    · have c30 : 11 ≤ y26.toInt := by have h := z_le c30; rw [show (11 : Int32).toInt = 11 from by decide +kernel] at h; exact h
      exact r_retv C ⟨F28, n29⟩ (v_buildNumber_8 n29 hi64_0 hi64_1) hP hS dX12_buildNumber_109
    · have c30 : y26.toInt < 11 := by have h := z_nle c30; rw [show (11 : Int32).toInt = 11 from by decide +kernel] at h; exact h
      refine lv_lload hx hb dX12_buildNumber_71 (lv_at hl 1 rfl) ?_
      refine lv_lconst (v := 0) hx hb dX12_buildNumber_73 rfl ?_
      refine W.lcmp hx hb dX12_buildNumber_74 ?_
      refine lv_topi (fun x31 ex31 => ?_)
      have tx31 : (x31.toInt = 0 ↔ y27.toInt = 0) ∧ (x31.toInt < 0 ↔ y27.toInt < 0) := z_lcmp ex31 rfl (by decide +kernel)
      refine lv_if_le (tgt := 109) hx hb dX12_buildNumber_75 (by decide) (fun c32 => ?_) (fun c32 => ?_)
      · have c32 : x31.toInt ≤ 0 := by have h := z_le c32; rw [show (0 : Int32).toInt = 0 from by decide +kernel] at h; exact h
        exact r_retv C ⟨F28, n29⟩ (v_buildNumber_8 n29 hi64_0 hi64_1) hP hS dX12_buildNumber_109
      · have c32 : 0 < x31.toInt := by have h := z_nle c32; rw [show (0 : Int32).toInt = 0 from by decide +kernel] at h; exact h
        refine lv_aload_n hx hb dX12_buildNumber_78 rfl (lv_at hl 3 rfl) ?_
        refine lv_ldc2 (v := 48) hx hb hown (hw _ wm_23) dX12_buildNumber_79 ?_
        refine lv_lload_n hx hb dX12_buildNumber_82 rfl (lv_at hl 2 rfl) ?_
        refine lv_lload hx hb dX12_buildNumber_83 (lv_at hl 1 rfl) ?_
        refine lv_ldiv hx hb dX12_buildNumber_85 (v_buildNumber_9 y27 x31 tx31 c32) ?_
        refine lv_topl (fun x33 ex33 => ?_)
        refine lv_ldc2 (v := 10) hx hb hown (hw _ wm_22) dX12_buildNumber_86 ?_
        refine lv_lrem hx hb dX12_buildNumber_89 (by decide +kernel) ?_
        refine lv_topl (fun x34 ex34 => ?_)
        refine lv_ladd hx hb dX12_buildNumber_90 ?_
        refine lv_topl (fun x35 ex35 => ?_)
        refine lv_l2i hx hb dX12_buildNumber_91 rfl ?_
        refine lv_topi (fun x36 ex36 => ?_)
        have tx36 : -2147483648 ≤ x35.toInt → x35.toInt < 2147483648 → x36.toInt = x35.toInt := z_l2i ex36
        refine r_callVv (As := [.int x36]) (rest := []) C hP hS hl.1 ⟨Nat.zero_le _, Nat.zero_le _⟩ (M_build l D cy sz0 sa ad (rS (rA σ 58 F28) 59 n29) H.size x36 (v_buildNumber_8 n29 hi64_0 hi64_1)) (n := 1) ⟨wm_223, wm_219, by decide +kernel⟩ ⟨wm_224, wm_225, wm_10⟩ rfl rfl (lv_room (Nat.le_of_ble_eq_true rfl)) ⟨Nat.le_of_ble_eq_true rfl, Nat.le_of_ble_eq_true rfl⟩ dX12_buildNumber_92 (fun u H locs hr37 hP hS => ?_)
        obtain ⟨F38, n39⟩ := u
        have hr37 : 0 ≤ n39.toInt ∧ n39.toInt ≤ 48 := hr37
        obtain ⟨hr37_0, hr37_1⟩ := hr37
        have hP : RP D cy ad (rS (rA (rS (rA σ 58 F28) 59 n29) 58 F38) 59 n39) H := hP
        refine lv_lload hx hb dX12_buildNumber_95 (lv_at hl 1 rfl) ?_
        refine lv_ldc2 (v := 10) hx hb hown (hw _ wm_22) dX12_buildNumber_97 ?_
        refine lv_ldiv hx hb dX12_buildNumber_100 (by decide +kernel) ?_
        refine lv_topl (fun x40 ex40 => ?_)
        refine lv_lstore (lv' := [(4, .long x40), (6, .int y26), (2, .long x2), (0, .ref (ad 0)), (1, .int k0)]) hx hb dX12_buildNumber_101 hl (by decide) rfl (fun ls hl => ?_)
        obtain ⟨x41, ex41⟩ : ∃ y : Int32, y = y26 + (1 : Int32) := ⟨_, rfl⟩
        have tx41 : x41.toInt = y26.toInt + 1 := (v_buildNumber_10 y26 x41 hi64_2 hi64_3 c30 ex41)
        refine lv_iinc (v := x41) (lv' := [(6, .int x41), (4, .long x40), (2, .long x2), (0, .ref (ad 0)), (1, .int k0)]) hx hb dX12_buildNumber_103 hl (k := 1) rfl (by rw [ex41]; rfl) (by decide) rfl (fun ls hl => ?_)
        refine lv_goto (tgt := 64) hx hb dX12_buildNumber_106 (by decide) ?_
        have hP : RP D cy ad (rS (rA σ 58 F38) 59 n39) H := RP.cong hP (Eq.trans (b := (σ.1 0)) rfl rfl) (Eq.trans (b := (σ.1 1)) rfl rfl) (Eq.trans (b := (σ.2.1 2)) rfl rfl) (Eq.trans (b := (σ.1 3)) rfl rfl) (Eq.trans (b := (σ.2.1 4)) rfl rfl) (Eq.trans (b := (σ.2.1 5)) rfl rfl) (Eq.trans (b := (σ.2.2.1 6)) rfl rfl) (Eq.trans (b := (σ.2.1 7)) rfl rfl) (Eq.trans (b := (σ.1 8)) rfl rfl) (Eq.trans (b := (σ.1 9)) rfl rfl) (Eq.trans (b := (σ.1 10)) rfl rfl) (Eq.trans (b := (σ.2.1 11)) rfl rfl) (Eq.trans (b := (σ.2.2.1 12)) rfl rfl) (Eq.trans (b := (σ.2.1 13)) rfl rfl) (Eq.trans (b := (σ.1 14)) rfl rfl) (Eq.trans (b := (σ.1 15)) rfl rfl) (Eq.trans (b := (σ.1 16)) rfl rfl) (Eq.trans (b := (σ.1 17)) rfl rfl) (Eq.trans (b := (σ.1 18)) rfl rfl) (Eq.trans (b := (σ.1 19)) rfl rfl) (Eq.trans (b := (σ.2.1 20)) rfl rfl) (Eq.trans (b := (σ.2.1 21)) rfl rfl) (Eq.trans (b := (σ.2.1 22)) rfl rfl) (Eq.trans (b := (σ.2.1 23)) rfl rfl) (Eq.trans (b := (σ.2.1 24)) rfl rfl) (Eq.trans (b := (σ.2.1 25)) rfl rfl) (Eq.trans (b := (σ.2.1 26)) rfl rfl) (Eq.trans (b := (σ.2.1 27)) rfl rfl) (Eq.trans (b := (σ.2.1 28)) rfl rfl) (Eq.trans (b := (σ.1 29)) rfl rfl) (Eq.trans (b := (σ.2.1 30)) rfl rfl) (Eq.trans (b := (σ.2.1 31)) rfl rfl) (Eq.trans (b := (σ.2.1 32)) rfl rfl) (Eq.trans (b := (σ.1 33)) rfl rfl) (Eq.trans (b := (σ.1 34)) rfl rfl) (Eq.trans (b := (σ.1 35)) rfl rfl) (Eq.trans (b := (σ.2.1 36)) rfl rfl) (Eq.trans (b := (σ.2.1 37)) rfl rfl) (Eq.trans (b := (σ.2.1 38)) rfl rfl) (Eq.trans (b := (σ.2.1 39)) rfl rfl) (Eq.trans (b := (σ.2.1 40)) rfl rfl) (Eq.trans (b := (σ.2.1 41)) rfl rfl) (Eq.trans (b := (σ.2.1 42)) rfl rfl) (Eq.trans (b := (σ.2.1 43)) rfl rfl) (Eq.trans (b := (σ.2.1 44)) rfl rfl) (Eq.trans (b := (σ.2.1 45)) rfl rfl) (Eq.trans (b := (σ.2.1 46)) rfl rfl) (Eq.trans (b := (σ.1 47)) rfl rfl) (Eq.trans (b := (σ.2.1 48)) rfl rfl) (Eq.trans (b := (σ.1 49)) rfl rfl) (Eq.trans (b := (σ.2.1 50)) rfl rfl) (Eq.trans (b := (σ.2.1 51)) rfl rfl) (Eq.trans (b := (σ.2.2.1 52)) rfl rfl) (Eq.trans (b := (σ.2.2.1 53)) rfl rfl) (Eq.trans (b := (σ.2.2.2)) rfl rfl) (Eq.trans (b := (σ.1 55)) rfl rfl) (Eq.trans (b := (σ.1 56)) rfl rfl) (Eq.trans (b := (σ.1 57)) rfl rfl) (Eq.trans (b := F38) rfl rfl) (Eq.trans (b := n39) rfl rfl)
        exact ih64 x41 x40 F38 n39 _ _ _ (Nat.lt_of_lt_of_le (v_buildNumber_12 y26 x41 hi64_2 hi64_3 c30 ex41 tx41) (Nat.le_of_lt_succ hn64)) (v_buildNumber_11 y26 n39 x41 hi64_2 hi64_3 c30 hr37_0 hr37_1 ex41 tx41) hP hS (lv_sub hl [0, 1, 2, 3, 4] rfl)
set_option maxHeartbeats 4000000 in
set_option maxRecDepth 100000 in
theorem L_buildNumber_29_1 {p : Program} {e : Env} {s : State} {m : MethodId} {below : List Frame} {meth : Method} {c : Code} (l : Launch) (D : va_G) (cy : Nat → ClassId) (sz0 : Nat) (sa : Nat → Nat) (ad : Nat → Nat) (sz : Nat) (σ : RS) (k0 : Int32) (x2 : Int64) (C : RC p s m #[.ref (ad 0), .int k0] meth c cX12_buildNumber 7 none D cy sz0 sa ad (AR cy ad sz)) (hpre_0 : 0 ≤ (σ.1 59).toInt) (hpre_1 : (σ.1 59).toInt ≤ 48) (c1 : 0 ≤ k0.toInt) (ex2 : x2 = Int32.toInt64 k0) (tx2 : x2.toInt = k0.toInt) (c3 : 0 ≤ k0.toInt) : ∀ (n : Nat) (y4 : Int32) (y5 : Int64) (H : Heap) (locs : List Loc) (ls : Array Slot), (10 - y4.toInt).toNat < n → (0 ≤ y4.toInt ∧ y4.toInt ≤ 10) → RP D cy ad σ H → va_S (AR cy ad sz) s.heap H locs → lv_has ls 7 [(6, .int y4), (4, .long y5), (2, .long x2), (0, .ref (ad 0)), (1, .int k0)] → W p l e (headSpec (Cond.code yX12_buildNumber cX12_buildNumber 7 none :: GWm) ({ frames := 1, cells := 0, slots := 0, locals := 21 })).room s m #[.ref (ad 0), .int k0] below meth c H locs 0 0 (MQ below (va_Qv (fun (u : (Nat → Int32) × Int32) => 0 ≤ u.2.toInt ∧ u.2.toInt ≤ 48) (fun (u : (Nat → Int32) × Int32) (t : State) => RP D cy ad (rS (rA σ 58 u.1) 59 u.2) t.heap) (AR cy ad sz)) #[.ref (ad 0), .int k0] s 0 0 (AR cy ad sz)) (F0 m 29 ls []) := by
  have hx := C.1
  have hb := C.2.1
  have hown := C.2.2.2.2.1
  have hw := C.2.2.2.2.2.1
  intro n
  induction n with
  | zero => intro y4 y5 H locs ls hn; exact absurd hn (Nat.not_lt_zero _)
  | succ n ih29 =>
    intro y4 y5 H locs ls hn29 hi29 hP hS hl
    obtain ⟨hi29_0, hi29_1⟩ := hi29
    refine lv_iload hx hb dX12_buildNumber_29 (lv_at hl 0 rfl) ?_
    refine lv_bipush (v := 10) hx hb dX12_buildNumber_31 (by decide +kernel) ?_
    refine lv_icmp_ge (tgt := 61) hx hb dX12_buildNumber_33 (by decide) (fun c6 => ?_) (fun c6 => ?_)
    · have c6 : 10 ≤ y4.toInt := by have h := z_le c6; rw [show (10 : Int32).toInt = 10 from by decide +kernel] at h; exact h
      refine lv_iconst (v := 0) hx hb dX12_buildNumber_61 (by decide +kernel) ?_
      refine lv_istore (lv' := [(6, .int 0), (4, .long y5), (2, .long x2), (0, .ref (ad 0)), (1, .int k0)]) hx hb dX12_buildNumber_62 hl (by decide) rfl (fun ls hl => ?_)
      have hP : RP D cy ad (rS (rA σ 58 (σ.2.1 58)) 59 (σ.1 59)) H := RP.cong hP (Eq.trans (b := (σ.1 0)) rfl rfl) (Eq.trans (b := (σ.1 1)) rfl rfl) (Eq.trans (b := (σ.2.1 2)) rfl rfl) (Eq.trans (b := (σ.1 3)) rfl rfl) (Eq.trans (b := (σ.2.1 4)) rfl rfl) (Eq.trans (b := (σ.2.1 5)) rfl rfl) (Eq.trans (b := (σ.2.2.1 6)) rfl rfl) (Eq.trans (b := (σ.2.1 7)) rfl rfl) (Eq.trans (b := (σ.1 8)) rfl rfl) (Eq.trans (b := (σ.1 9)) rfl rfl) (Eq.trans (b := (σ.1 10)) rfl rfl) (Eq.trans (b := (σ.2.1 11)) rfl rfl) (Eq.trans (b := (σ.2.2.1 12)) rfl rfl) (Eq.trans (b := (σ.2.1 13)) rfl rfl) (Eq.trans (b := (σ.1 14)) rfl rfl) (Eq.trans (b := (σ.1 15)) rfl rfl) (Eq.trans (b := (σ.1 16)) rfl rfl) (Eq.trans (b := (σ.1 17)) rfl rfl) (Eq.trans (b := (σ.1 18)) rfl rfl) (Eq.trans (b := (σ.1 19)) rfl rfl) (Eq.trans (b := (σ.2.1 20)) rfl rfl) (Eq.trans (b := (σ.2.1 21)) rfl rfl) (Eq.trans (b := (σ.2.1 22)) rfl rfl) (Eq.trans (b := (σ.2.1 23)) rfl rfl) (Eq.trans (b := (σ.2.1 24)) rfl rfl) (Eq.trans (b := (σ.2.1 25)) rfl rfl) (Eq.trans (b := (σ.2.1 26)) rfl rfl) (Eq.trans (b := (σ.2.1 27)) rfl rfl) (Eq.trans (b := (σ.2.1 28)) rfl rfl) (Eq.trans (b := (σ.1 29)) rfl rfl) (Eq.trans (b := (σ.2.1 30)) rfl rfl) (Eq.trans (b := (σ.2.1 31)) rfl rfl) (Eq.trans (b := (σ.2.1 32)) rfl rfl) (Eq.trans (b := (σ.1 33)) rfl rfl) (Eq.trans (b := (σ.1 34)) rfl rfl) (Eq.trans (b := (σ.1 35)) rfl rfl) (Eq.trans (b := (σ.2.1 36)) rfl rfl) (Eq.trans (b := (σ.2.1 37)) rfl rfl) (Eq.trans (b := (σ.2.1 38)) rfl rfl) (Eq.trans (b := (σ.2.1 39)) rfl rfl) (Eq.trans (b := (σ.2.1 40)) rfl rfl) (Eq.trans (b := (σ.2.1 41)) rfl rfl) (Eq.trans (b := (σ.2.1 42)) rfl rfl) (Eq.trans (b := (σ.2.1 43)) rfl rfl) (Eq.trans (b := (σ.2.1 44)) rfl rfl) (Eq.trans (b := (σ.2.1 45)) rfl rfl) (Eq.trans (b := (σ.2.1 46)) rfl rfl) (Eq.trans (b := (σ.1 47)) rfl rfl) (Eq.trans (b := (σ.2.1 48)) rfl rfl) (Eq.trans (b := (σ.1 49)) rfl rfl) (Eq.trans (b := (σ.2.1 50)) rfl rfl) (Eq.trans (b := (σ.2.1 51)) rfl rfl) (Eq.trans (b := (σ.2.2.1 52)) rfl rfl) (Eq.trans (b := (σ.2.2.1 53)) rfl rfl) (Eq.trans (b := (σ.2.2.2)) rfl rfl) (Eq.trans (b := (σ.1 55)) rfl rfl) (Eq.trans (b := (σ.1 56)) rfl rfl) (Eq.trans (b := (σ.1 57)) rfl rfl) (Eq.trans (b := (σ.2.1 58)) rfl rfl) (Eq.trans (b := (σ.1 59)) rfl rfl)
      exact L_buildNumber_64_2 l D cy sz0 sa ad sz σ k0 x2 y4 y5 C hpre_0 hpre_1 c1 ex2 tx2 c3 hi29_0 hi29_1 c6 ((11 - (0 : Int32).toInt).toNat + 1) (0 : Int32) y5 (σ.2.1 58) (σ.1 59) _ _ _ (Nat.lt_succ_self _) (v_buildNumber_2 σ hpre_0 hpre_1) hP hS (lv_sub hl [0, 1, 2, 3, 4] rfl)
    · have c6 : y4.toInt < 10 := by have h := z_nle c6; rw [show (10 : Int32).toInt = 10 from by decide +kernel] at h; exact h
      refine lv_lload hx hb dX12_buildNumber_36 (lv_at hl 1 rfl) ?_
      refine lv_ldc2 (v := 10) hx hb hown (hw _ wm_22) dX12_buildNumber_38 ?_
      refine lv_lmul hx hb dX12_buildNumber_41 ?_
      refine lv_topl (fun x23 ex23 => ?_)
      refine lv_lload_n hx hb dX12_buildNumber_42 rfl (lv_at hl 2 rfl) ?_
      refine W.lcmp hx hb dX12_buildNumber_43 ?_
      refine lv_topi (fun x24 ex24 => ?_)
      have tx24 : (x24.toInt = 0 ↔ x23.toInt = x2.toInt) ∧ (x24.toInt < 0 ↔ x23.toInt < x2.toInt) := z_lcmp ex24 rfl rfl
      refine lv_if_gt (tgt := 61) hx hb dX12_buildNumber_44 (by decide) (fun c25 => ?_) (fun c25 => ?_)
      · have c25 : 0 < x24.toInt := by have h := z_lt c25; rw [show (0 : Int32).toInt = 0 from by decide +kernel] at h; exact h
        refine lv_iconst (v := 0) hx hb dX12_buildNumber_61 (by decide +kernel) ?_
        refine lv_istore (lv' := [(6, .int 0), (4, .long y5), (2, .long x2), (0, .ref (ad 0)), (1, .int k0)]) hx hb dX12_buildNumber_62 hl (by decide) rfl (fun ls hl => ?_)
        have hP : RP D cy ad (rS (rA σ 58 (σ.2.1 58)) 59 (σ.1 59)) H := RP.cong hP (Eq.trans (b := (σ.1 0)) rfl rfl) (Eq.trans (b := (σ.1 1)) rfl rfl) (Eq.trans (b := (σ.2.1 2)) rfl rfl) (Eq.trans (b := (σ.1 3)) rfl rfl) (Eq.trans (b := (σ.2.1 4)) rfl rfl) (Eq.trans (b := (σ.2.1 5)) rfl rfl) (Eq.trans (b := (σ.2.2.1 6)) rfl rfl) (Eq.trans (b := (σ.2.1 7)) rfl rfl) (Eq.trans (b := (σ.1 8)) rfl rfl) (Eq.trans (b := (σ.1 9)) rfl rfl) (Eq.trans (b := (σ.1 10)) rfl rfl) (Eq.trans (b := (σ.2.1 11)) rfl rfl) (Eq.trans (b := (σ.2.2.1 12)) rfl rfl) (Eq.trans (b := (σ.2.1 13)) rfl rfl) (Eq.trans (b := (σ.1 14)) rfl rfl) (Eq.trans (b := (σ.1 15)) rfl rfl) (Eq.trans (b := (σ.1 16)) rfl rfl) (Eq.trans (b := (σ.1 17)) rfl rfl) (Eq.trans (b := (σ.1 18)) rfl rfl) (Eq.trans (b := (σ.1 19)) rfl rfl) (Eq.trans (b := (σ.2.1 20)) rfl rfl) (Eq.trans (b := (σ.2.1 21)) rfl rfl) (Eq.trans (b := (σ.2.1 22)) rfl rfl) (Eq.trans (b := (σ.2.1 23)) rfl rfl) (Eq.trans (b := (σ.2.1 24)) rfl rfl) (Eq.trans (b := (σ.2.1 25)) rfl rfl) (Eq.trans (b := (σ.2.1 26)) rfl rfl) (Eq.trans (b := (σ.2.1 27)) rfl rfl) (Eq.trans (b := (σ.2.1 28)) rfl rfl) (Eq.trans (b := (σ.1 29)) rfl rfl) (Eq.trans (b := (σ.2.1 30)) rfl rfl) (Eq.trans (b := (σ.2.1 31)) rfl rfl) (Eq.trans (b := (σ.2.1 32)) rfl rfl) (Eq.trans (b := (σ.1 33)) rfl rfl) (Eq.trans (b := (σ.1 34)) rfl rfl) (Eq.trans (b := (σ.1 35)) rfl rfl) (Eq.trans (b := (σ.2.1 36)) rfl rfl) (Eq.trans (b := (σ.2.1 37)) rfl rfl) (Eq.trans (b := (σ.2.1 38)) rfl rfl) (Eq.trans (b := (σ.2.1 39)) rfl rfl) (Eq.trans (b := (σ.2.1 40)) rfl rfl) (Eq.trans (b := (σ.2.1 41)) rfl rfl) (Eq.trans (b := (σ.2.1 42)) rfl rfl) (Eq.trans (b := (σ.2.1 43)) rfl rfl) (Eq.trans (b := (σ.2.1 44)) rfl rfl) (Eq.trans (b := (σ.2.1 45)) rfl rfl) (Eq.trans (b := (σ.2.1 46)) rfl rfl) (Eq.trans (b := (σ.1 47)) rfl rfl) (Eq.trans (b := (σ.2.1 48)) rfl rfl) (Eq.trans (b := (σ.1 49)) rfl rfl) (Eq.trans (b := (σ.2.1 50)) rfl rfl) (Eq.trans (b := (σ.2.1 51)) rfl rfl) (Eq.trans (b := (σ.2.2.1 52)) rfl rfl) (Eq.trans (b := (σ.2.2.1 53)) rfl rfl) (Eq.trans (b := (σ.2.2.2)) rfl rfl) (Eq.trans (b := (σ.1 55)) rfl rfl) (Eq.trans (b := (σ.1 56)) rfl rfl) (Eq.trans (b := (σ.1 57)) rfl rfl) (Eq.trans (b := (σ.2.1 58)) rfl rfl) (Eq.trans (b := (σ.1 59)) rfl rfl)
        exact L_buildNumber_64_3 l D cy sz0 sa ad sz σ k0 x2 y4 y5 x23 x24 C hpre_0 hpre_1 c1 ex2 tx2 c3 hi29_0 hi29_1 c6 ex23 tx24 c25 ((11 - (0 : Int32).toInt).toNat + 1) (0 : Int32) y5 (σ.2.1 58) (σ.1 59) _ _ _ (Nat.lt_succ_self _) (v_buildNumber_2 σ hpre_0 hpre_1) hP hS (lv_sub hl [0, 1, 2, 3, 4] rfl)
      · have c25 : x24.toInt ≤ 0 := by have h := z_nlt c25; rw [show (0 : Int32).toInt = 0 from by decide +kernel] at h; exact h
        refine lv_lload hx hb dX12_buildNumber_47 (lv_at hl 1 rfl) ?_
        refine lv_ldc2 (v := 10) hx hb hown (hw _ wm_22) dX12_buildNumber_49 ?_
        refine lv_lmul hx hb dX12_buildNumber_52 ?_
        refine lv_topl (fun x42 ex42 => ?_)
        refine lv_lstore (lv' := [(4, .long x42), (6, .int y4), (2, .long x2), (0, .ref (ad 0)), (1, .int k0)]) hx hb dX12_buildNumber_53 hl (by decide) rfl (fun ls hl => ?_)
        obtain ⟨x43, ex43⟩ : ∃ y : Int32, y = y4 + (1 : Int32) := ⟨_, rfl⟩
        have tx43 : x43.toInt = y4.toInt + 1 := (v_buildNumber_13 y4 x43 hi29_0 hi29_1 c6 ex43)
        refine lv_iinc (v := x43) (lv' := [(6, .int x43), (4, .long x42), (2, .long x2), (0, .ref (ad 0)), (1, .int k0)]) hx hb dX12_buildNumber_55 hl (k := 1) rfl (by rw [ex43]; rfl) (by decide) rfl (fun ls hl => ?_)
        refine lv_goto (tgt := 29) hx hb dX12_buildNumber_58 (by decide) ?_
        exact ih29 x43 x42 _ _ _ (Nat.lt_of_lt_of_le (v_buildNumber_15 y4 x43 hi29_0 hi29_1 c6 ex43 tx43) (Nat.le_of_lt_succ hn29)) (v_buildNumber_14 y4 x43 hi29_0 hi29_1 c6 ex43 tx43) hP hS (lv_sub hl [0, 1, 2, 3, 4] rfl)
set_option maxHeartbeats 4000000 in
set_option maxRecDepth 100000 in
theorem L_buildNumber_64_5 {p : Program} {e : Env} {s : State} {m : MethodId} {below : List Frame} {meth : Method} {c : Code} (l : Launch) (D : va_G) (cy : Nat → ClassId) (sz0 : Nat) (sa : Nat → Nat) (ad : Nat → Nat) (sz : Nat) (σ : RS) (k0 : Int32) (x44 : Int64) (x45 : Int64) (F48 : (Nat → Int32)) (n49 : Int32) (y50 : Int32) (y51 : Int64) (C : RC p s m #[.ref (ad 0), .int k0] meth c cX12_buildNumber 7 none D cy sz0 sa ad (AR cy ad sz)) (hpre_0 : 0 ≤ (σ.1 59).toInt) (hpre_1 : (σ.1 59).toInt ≤ 48) (c1 : k0.toInt < 0) (ex44 : x44 = Int32.toInt64 k0) (tx44 : x44.toInt = k0.toInt) (ex45 : x45 = -x44) (c46 : k0.toInt < 0) (hr47_0 : 0 ≤ n49.toInt) (hr47_1 : n49.toInt ≤ 48) (hi29_0 : 0 ≤ y50.toInt) (hi29_1 : y50.toInt ≤ 10) (c52 : 10 ≤ y50.toInt) : ∀ (n : Nat) (y53 : Int32) (y54 : Int64) (F55 : (Nat → Int32)) (n56 : Int32) (H : Heap) (locs : List Loc) (ls : Array Slot), (11 - y53.toInt).toNat < n → (0 ≤ n56.toInt ∧ n56.toInt ≤ 48 ∧ 0 ≤ y53.toInt ∧ y53.toInt ≤ 11) → RP D cy ad (rS (rA (rS (rA σ 58 F48) 59 n49) 58 F55) 59 n56) H → va_S (AR cy ad sz) s.heap H locs → lv_has ls 7 [(6, .int y53), (4, .long y54), (2, .long x45), (0, .ref (ad 0)), (1, .int k0)] → W p l e (headSpec (Cond.code yX12_buildNumber cX12_buildNumber 7 none :: GWm) ({ frames := 1, cells := 0, slots := 0, locals := 21 })).room s m #[.ref (ad 0), .int k0] below meth c H locs 0 0 (MQ below (va_Qv (fun (u : (Nat → Int32) × Int32) => 0 ≤ u.2.toInt ∧ u.2.toInt ≤ 48) (fun (u : (Nat → Int32) × Int32) (t : State) => RP D cy ad (rS (rA σ 58 u.1) 59 u.2) t.heap) (AR cy ad sz)) #[.ref (ad 0), .int k0] s 0 0 (AR cy ad sz)) (F0 m 64 ls []) := by
  have hx := C.1
  have hb := C.2.1
  have hown := C.2.2.2.2.1
  have hw := C.2.2.2.2.2.1
  intro n
  induction n with
  | zero => intro y53 y54 F55 n56 H locs ls hn; exact absurd hn (Nat.not_lt_zero _)
  | succ n ih64 =>
    intro y53 y54 F55 n56 H locs ls hn64 hi64 hP hS hl
    obtain ⟨hi64_0, hi64_1, hi64_2, hi64_3⟩ := hi64
    refine lv_iload hx hb dX12_buildNumber_64 (lv_at hl 0 rfl) ?_
    refine lv_bipush (v := 11) hx hb dX12_buildNumber_66 (by decide +kernel) ?_
    refine lv_icmp_ge (tgt := 109) hx hb dX12_buildNumber_68 (by decide) (fun c57 => ?_) (fun c57 => ?_)
    · have c57 : 11 ≤ y53.toInt := by have h := z_le c57; rw [show (11 : Int32).toInt = 11 from by decide +kernel] at h; exact h
      have hP : RP D cy ad (rS (rA σ 58 F55) 59 n56) H := RP.cong hP (Eq.trans (b := (σ.1 0)) rfl rfl) (Eq.trans (b := (σ.1 1)) rfl rfl) (Eq.trans (b := (σ.2.1 2)) rfl rfl) (Eq.trans (b := (σ.1 3)) rfl rfl) (Eq.trans (b := (σ.2.1 4)) rfl rfl) (Eq.trans (b := (σ.2.1 5)) rfl rfl) (Eq.trans (b := (σ.2.2.1 6)) rfl rfl) (Eq.trans (b := (σ.2.1 7)) rfl rfl) (Eq.trans (b := (σ.1 8)) rfl rfl) (Eq.trans (b := (σ.1 9)) rfl rfl) (Eq.trans (b := (σ.1 10)) rfl rfl) (Eq.trans (b := (σ.2.1 11)) rfl rfl) (Eq.trans (b := (σ.2.2.1 12)) rfl rfl) (Eq.trans (b := (σ.2.1 13)) rfl rfl) (Eq.trans (b := (σ.1 14)) rfl rfl) (Eq.trans (b := (σ.1 15)) rfl rfl) (Eq.trans (b := (σ.1 16)) rfl rfl) (Eq.trans (b := (σ.1 17)) rfl rfl) (Eq.trans (b := (σ.1 18)) rfl rfl) (Eq.trans (b := (σ.1 19)) rfl rfl) (Eq.trans (b := (σ.2.1 20)) rfl rfl) (Eq.trans (b := (σ.2.1 21)) rfl rfl) (Eq.trans (b := (σ.2.1 22)) rfl rfl) (Eq.trans (b := (σ.2.1 23)) rfl rfl) (Eq.trans (b := (σ.2.1 24)) rfl rfl) (Eq.trans (b := (σ.2.1 25)) rfl rfl) (Eq.trans (b := (σ.2.1 26)) rfl rfl) (Eq.trans (b := (σ.2.1 27)) rfl rfl) (Eq.trans (b := (σ.2.1 28)) rfl rfl) (Eq.trans (b := (σ.1 29)) rfl rfl) (Eq.trans (b := (σ.2.1 30)) rfl rfl) (Eq.trans (b := (σ.2.1 31)) rfl rfl) (Eq.trans (b := (σ.2.1 32)) rfl rfl) (Eq.trans (b := (σ.1 33)) rfl rfl) (Eq.trans (b := (σ.1 34)) rfl rfl) (Eq.trans (b := (σ.1 35)) rfl rfl) (Eq.trans (b := (σ.2.1 36)) rfl rfl) (Eq.trans (b := (σ.2.1 37)) rfl rfl) (Eq.trans (b := (σ.2.1 38)) rfl rfl) (Eq.trans (b := (σ.2.1 39)) rfl rfl) (Eq.trans (b := (σ.2.1 40)) rfl rfl) (Eq.trans (b := (σ.2.1 41)) rfl rfl) (Eq.trans (b := (σ.2.1 42)) rfl rfl) (Eq.trans (b := (σ.2.1 43)) rfl rfl) (Eq.trans (b := (σ.2.1 44)) rfl rfl) (Eq.trans (b := (σ.2.1 45)) rfl rfl) (Eq.trans (b := (σ.2.1 46)) rfl rfl) (Eq.trans (b := (σ.1 47)) rfl rfl) (Eq.trans (b := (σ.2.1 48)) rfl rfl) (Eq.trans (b := (σ.1 49)) rfl rfl) (Eq.trans (b := (σ.2.1 50)) rfl rfl) (Eq.trans (b := (σ.2.1 51)) rfl rfl) (Eq.trans (b := (σ.2.2.1 52)) rfl rfl) (Eq.trans (b := (σ.2.2.1 53)) rfl rfl) (Eq.trans (b := (σ.2.2.2)) rfl rfl) (Eq.trans (b := (σ.1 55)) rfl rfl) (Eq.trans (b := (σ.1 56)) rfl rfl) (Eq.trans (b := (σ.1 57)) rfl rfl) (Eq.trans (b := F55) rfl rfl) (Eq.trans (b := n56) rfl rfl)
      exact r_retv C ⟨F55, n56⟩ (v_buildNumber_20 n56 hi64_0 hi64_1) hP hS dX12_buildNumber_109
    · have c57 : y53.toInt < 11 := by have h := z_nle c57; rw [show (11 : Int32).toInt = 11 from by decide +kernel] at h; exact h
      refine lv_lload hx hb dX12_buildNumber_71 (lv_at hl 1 rfl) ?_
      refine lv_lconst (v := 0) hx hb dX12_buildNumber_73 rfl ?_
      refine W.lcmp hx hb dX12_buildNumber_74 ?_
      refine lv_topi (fun x58 ex58 => ?_)
      have tx58 : (x58.toInt = 0 ↔ y54.toInt = 0) ∧ (x58.toInt < 0 ↔ y54.toInt < 0) := z_lcmp ex58 rfl (by decide +kernel)
      refine lv_if_le (tgt := 109) hx hb dX12_buildNumber_75 (by decide) (fun c59 => ?_) (fun c59 => ?_)
      · have c59 : x58.toInt ≤ 0 := by have h := z_le c59; rw [show (0 : Int32).toInt = 0 from by decide +kernel] at h; exact h
        have hP : RP D cy ad (rS (rA σ 58 F55) 59 n56) H := RP.cong hP (Eq.trans (b := (σ.1 0)) rfl rfl) (Eq.trans (b := (σ.1 1)) rfl rfl) (Eq.trans (b := (σ.2.1 2)) rfl rfl) (Eq.trans (b := (σ.1 3)) rfl rfl) (Eq.trans (b := (σ.2.1 4)) rfl rfl) (Eq.trans (b := (σ.2.1 5)) rfl rfl) (Eq.trans (b := (σ.2.2.1 6)) rfl rfl) (Eq.trans (b := (σ.2.1 7)) rfl rfl) (Eq.trans (b := (σ.1 8)) rfl rfl) (Eq.trans (b := (σ.1 9)) rfl rfl) (Eq.trans (b := (σ.1 10)) rfl rfl) (Eq.trans (b := (σ.2.1 11)) rfl rfl) (Eq.trans (b := (σ.2.2.1 12)) rfl rfl) (Eq.trans (b := (σ.2.1 13)) rfl rfl) (Eq.trans (b := (σ.1 14)) rfl rfl) (Eq.trans (b := (σ.1 15)) rfl rfl) (Eq.trans (b := (σ.1 16)) rfl rfl) (Eq.trans (b := (σ.1 17)) rfl rfl) (Eq.trans (b := (σ.1 18)) rfl rfl) (Eq.trans (b := (σ.1 19)) rfl rfl) (Eq.trans (b := (σ.2.1 20)) rfl rfl) (Eq.trans (b := (σ.2.1 21)) rfl rfl) (Eq.trans (b := (σ.2.1 22)) rfl rfl) (Eq.trans (b := (σ.2.1 23)) rfl rfl) (Eq.trans (b := (σ.2.1 24)) rfl rfl) (Eq.trans (b := (σ.2.1 25)) rfl rfl) (Eq.trans (b := (σ.2.1 26)) rfl rfl) (Eq.trans (b := (σ.2.1 27)) rfl rfl) (Eq.trans (b := (σ.2.1 28)) rfl rfl) (Eq.trans (b := (σ.1 29)) rfl rfl) (Eq.trans (b := (σ.2.1 30)) rfl rfl) (Eq.trans (b := (σ.2.1 31)) rfl rfl) (Eq.trans (b := (σ.2.1 32)) rfl rfl) (Eq.trans (b := (σ.1 33)) rfl rfl) (Eq.trans (b := (σ.1 34)) rfl rfl) (Eq.trans (b := (σ.1 35)) rfl rfl) (Eq.trans (b := (σ.2.1 36)) rfl rfl) (Eq.trans (b := (σ.2.1 37)) rfl rfl) (Eq.trans (b := (σ.2.1 38)) rfl rfl) (Eq.trans (b := (σ.2.1 39)) rfl rfl) (Eq.trans (b := (σ.2.1 40)) rfl rfl) (Eq.trans (b := (σ.2.1 41)) rfl rfl) (Eq.trans (b := (σ.2.1 42)) rfl rfl) (Eq.trans (b := (σ.2.1 43)) rfl rfl) (Eq.trans (b := (σ.2.1 44)) rfl rfl) (Eq.trans (b := (σ.2.1 45)) rfl rfl) (Eq.trans (b := (σ.2.1 46)) rfl rfl) (Eq.trans (b := (σ.1 47)) rfl rfl) (Eq.trans (b := (σ.2.1 48)) rfl rfl) (Eq.trans (b := (σ.1 49)) rfl rfl) (Eq.trans (b := (σ.2.1 50)) rfl rfl) (Eq.trans (b := (σ.2.1 51)) rfl rfl) (Eq.trans (b := (σ.2.2.1 52)) rfl rfl) (Eq.trans (b := (σ.2.2.1 53)) rfl rfl) (Eq.trans (b := (σ.2.2.2)) rfl rfl) (Eq.trans (b := (σ.1 55)) rfl rfl) (Eq.trans (b := (σ.1 56)) rfl rfl) (Eq.trans (b := (σ.1 57)) rfl rfl) (Eq.trans (b := F55) rfl rfl) (Eq.trans (b := n56) rfl rfl)
        exact r_retv C ⟨F55, n56⟩ (v_buildNumber_20 n56 hi64_0 hi64_1) hP hS dX12_buildNumber_109
      · have c59 : 0 < x58.toInt := by have h := z_nle c59; rw [show (0 : Int32).toInt = 0 from by decide +kernel] at h; exact h
        refine lv_aload_n hx hb dX12_buildNumber_78 rfl (lv_at hl 3 rfl) ?_
        refine lv_ldc2 (v := 48) hx hb hown (hw _ wm_23) dX12_buildNumber_79 ?_
        refine lv_lload_n hx hb dX12_buildNumber_82 rfl (lv_at hl 2 rfl) ?_
        refine lv_lload hx hb dX12_buildNumber_83 (lv_at hl 1 rfl) ?_
        refine lv_ldiv hx hb dX12_buildNumber_85 (v_buildNumber_21 y54 x58 tx58 c59) ?_
        refine lv_topl (fun x60 ex60 => ?_)
        refine lv_ldc2 (v := 10) hx hb hown (hw _ wm_22) dX12_buildNumber_86 ?_
        refine lv_lrem hx hb dX12_buildNumber_89 (by decide +kernel) ?_
        refine lv_topl (fun x61 ex61 => ?_)
        refine lv_ladd hx hb dX12_buildNumber_90 ?_
        refine lv_topl (fun x62 ex62 => ?_)
        refine lv_l2i hx hb dX12_buildNumber_91 rfl ?_
        refine lv_topi (fun x63 ex63 => ?_)
        have tx63 : -2147483648 ≤ x62.toInt → x62.toInt < 2147483648 → x63.toInt = x62.toInt := z_l2i ex63
        refine r_callVv (As := [.int x63]) (rest := []) C hP hS hl.1 ⟨Nat.zero_le _, Nat.zero_le _⟩ (M_build l D cy sz0 sa ad (rS (rA (rS (rA σ 58 F48) 59 n49) 58 F55) 59 n56) H.size x63 (v_buildNumber_20 n56 hi64_0 hi64_1)) (n := 1) ⟨wm_223, wm_219, by decide +kernel⟩ ⟨wm_224, wm_225, wm_10⟩ rfl rfl (lv_room (Nat.le_of_ble_eq_true rfl)) ⟨Nat.le_of_ble_eq_true rfl, Nat.le_of_ble_eq_true rfl⟩ dX12_buildNumber_92 (fun u H locs hr64 hP hS => ?_)
        obtain ⟨F65, n66⟩ := u
        have hr64 : 0 ≤ n66.toInt ∧ n66.toInt ≤ 48 := hr64
        obtain ⟨hr64_0, hr64_1⟩ := hr64
        have hP : RP D cy ad (rS (rA (rS (rA (rS (rA σ 58 F48) 59 n49) 58 F55) 59 n56) 58 F65) 59 n66) H := hP
        refine lv_lload hx hb dX12_buildNumber_95 (lv_at hl 1 rfl) ?_
        refine lv_ldc2 (v := 10) hx hb hown (hw _ wm_22) dX12_buildNumber_97 ?_
        refine lv_ldiv hx hb dX12_buildNumber_100 (by decide +kernel) ?_
        refine lv_topl (fun x67 ex67 => ?_)
        refine lv_lstore (lv' := [(4, .long x67), (6, .int y53), (2, .long x45), (0, .ref (ad 0)), (1, .int k0)]) hx hb dX12_buildNumber_101 hl (by decide) rfl (fun ls hl => ?_)
        obtain ⟨x68, ex68⟩ : ∃ y : Int32, y = y53 + (1 : Int32) := ⟨_, rfl⟩
        have tx68 : x68.toInt = y53.toInt + 1 := (v_buildNumber_22 y53 x68 hi64_2 hi64_3 c57 ex68)
        refine lv_iinc (v := x68) (lv' := [(6, .int x68), (4, .long x67), (2, .long x45), (0, .ref (ad 0)), (1, .int k0)]) hx hb dX12_buildNumber_103 hl (k := 1) rfl (by rw [ex68]; rfl) (by decide) rfl (fun ls hl => ?_)
        refine lv_goto (tgt := 64) hx hb dX12_buildNumber_106 (by decide) ?_
        have hP : RP D cy ad (rS (rA (rS (rA σ 58 F48) 59 n49) 58 F65) 59 n66) H := RP.cong hP (Eq.trans (b := (σ.1 0)) rfl rfl) (Eq.trans (b := (σ.1 1)) rfl rfl) (Eq.trans (b := (σ.2.1 2)) rfl rfl) (Eq.trans (b := (σ.1 3)) rfl rfl) (Eq.trans (b := (σ.2.1 4)) rfl rfl) (Eq.trans (b := (σ.2.1 5)) rfl rfl) (Eq.trans (b := (σ.2.2.1 6)) rfl rfl) (Eq.trans (b := (σ.2.1 7)) rfl rfl) (Eq.trans (b := (σ.1 8)) rfl rfl) (Eq.trans (b := (σ.1 9)) rfl rfl) (Eq.trans (b := (σ.1 10)) rfl rfl) (Eq.trans (b := (σ.2.1 11)) rfl rfl) (Eq.trans (b := (σ.2.2.1 12)) rfl rfl) (Eq.trans (b := (σ.2.1 13)) rfl rfl) (Eq.trans (b := (σ.1 14)) rfl rfl) (Eq.trans (b := (σ.1 15)) rfl rfl) (Eq.trans (b := (σ.1 16)) rfl rfl) (Eq.trans (b := (σ.1 17)) rfl rfl) (Eq.trans (b := (σ.1 18)) rfl rfl) (Eq.trans (b := (σ.1 19)) rfl rfl) (Eq.trans (b := (σ.2.1 20)) rfl rfl) (Eq.trans (b := (σ.2.1 21)) rfl rfl) (Eq.trans (b := (σ.2.1 22)) rfl rfl) (Eq.trans (b := (σ.2.1 23)) rfl rfl) (Eq.trans (b := (σ.2.1 24)) rfl rfl) (Eq.trans (b := (σ.2.1 25)) rfl rfl) (Eq.trans (b := (σ.2.1 26)) rfl rfl) (Eq.trans (b := (σ.2.1 27)) rfl rfl) (Eq.trans (b := (σ.2.1 28)) rfl rfl) (Eq.trans (b := (σ.1 29)) rfl rfl) (Eq.trans (b := (σ.2.1 30)) rfl rfl) (Eq.trans (b := (σ.2.1 31)) rfl rfl) (Eq.trans (b := (σ.2.1 32)) rfl rfl) (Eq.trans (b := (σ.1 33)) rfl rfl) (Eq.trans (b := (σ.1 34)) rfl rfl) (Eq.trans (b := (σ.1 35)) rfl rfl) (Eq.trans (b := (σ.2.1 36)) rfl rfl) (Eq.trans (b := (σ.2.1 37)) rfl rfl) (Eq.trans (b := (σ.2.1 38)) rfl rfl) (Eq.trans (b := (σ.2.1 39)) rfl rfl) (Eq.trans (b := (σ.2.1 40)) rfl rfl) (Eq.trans (b := (σ.2.1 41)) rfl rfl) (Eq.trans (b := (σ.2.1 42)) rfl rfl) (Eq.trans (b := (σ.2.1 43)) rfl rfl) (Eq.trans (b := (σ.2.1 44)) rfl rfl) (Eq.trans (b := (σ.2.1 45)) rfl rfl) (Eq.trans (b := (σ.2.1 46)) rfl rfl) (Eq.trans (b := (σ.1 47)) rfl rfl) (Eq.trans (b := (σ.2.1 48)) rfl rfl) (Eq.trans (b := (σ.1 49)) rfl rfl) (Eq.trans (b := (σ.2.1 50)) rfl rfl) (Eq.trans (b := (σ.2.1 51)) rfl rfl) (Eq.trans (b := (σ.2.2.1 52)) rfl rfl) (Eq.trans (b := (σ.2.2.1 53)) rfl rfl) (Eq.trans (b := (σ.2.2.2)) rfl rfl) (Eq.trans (b := (σ.1 55)) rfl rfl) (Eq.trans (b := (σ.1 56)) rfl rfl) (Eq.trans (b := (σ.1 57)) rfl rfl) (Eq.trans (b := F65) rfl rfl) (Eq.trans (b := n66) rfl rfl)
        exact ih64 x68 x67 F65 n66 _ _ _ (Nat.lt_of_lt_of_le (v_buildNumber_24 y53 x68 hi64_2 hi64_3 c57 ex68 tx68) (Nat.le_of_lt_succ hn64)) (v_buildNumber_23 y53 n66 x68 hi64_2 hi64_3 c57 hr64_0 hr64_1 ex68 tx68) hP hS (lv_sub hl [0, 1, 2, 3, 4] rfl)
set_option maxHeartbeats 4000000 in
set_option maxRecDepth 100000 in
theorem L_buildNumber_64_6 {p : Program} {e : Env} {s : State} {m : MethodId} {below : List Frame} {meth : Method} {c : Code} (l : Launch) (D : va_G) (cy : Nat → ClassId) (sz0 : Nat) (sa : Nat → Nat) (ad : Nat → Nat) (sz : Nat) (σ : RS) (k0 : Int32) (x44 : Int64) (x45 : Int64) (F48 : (Nat → Int32)) (n49 : Int32) (y50 : Int32) (y51 : Int64) (x69 : Int64) (x70 : Int32) (C : RC p s m #[.ref (ad 0), .int k0] meth c cX12_buildNumber 7 none D cy sz0 sa ad (AR cy ad sz)) (hpre_0 : 0 ≤ (σ.1 59).toInt) (hpre_1 : (σ.1 59).toInt ≤ 48) (c1 : k0.toInt < 0) (ex44 : x44 = Int32.toInt64 k0) (tx44 : x44.toInt = k0.toInt) (ex45 : x45 = -x44) (c46 : k0.toInt < 0) (hr47_0 : 0 ≤ n49.toInt) (hr47_1 : n49.toInt ≤ 48) (hi29_0 : 0 ≤ y50.toInt) (hi29_1 : y50.toInt ≤ 10) (c52 : y50.toInt < 10) (ex69 : x69 = y51 * (10 : Int64)) (tx70 : (x70.toInt = 0 ↔ x69.toInt = x45.toInt) ∧ (x70.toInt < 0 ↔ x69.toInt < x45.toInt)) (c71 : 0 < x70.toInt) : ∀ (n : Nat) (y72 : Int32) (y73 : Int64) (F74 : (Nat → Int32)) (n75 : Int32) (H : Heap) (locs : List Loc) (ls : Array Slot), (11 - y72.toInt).toNat < n → (0 ≤ n75.toInt ∧ n75.toInt ≤ 48 ∧ 0 ≤ y72.toInt ∧ y72.toInt ≤ 11) → RP D cy ad (rS (rA (rS (rA σ 58 F48) 59 n49) 58 F74) 59 n75) H → va_S (AR cy ad sz) s.heap H locs → lv_has ls 7 [(6, .int y72), (4, .long y73), (2, .long x45), (0, .ref (ad 0)), (1, .int k0)] → W p l e (headSpec (Cond.code yX12_buildNumber cX12_buildNumber 7 none :: GWm) ({ frames := 1, cells := 0, slots := 0, locals := 21 })).room s m #[.ref (ad 0), .int k0] below meth c H locs 0 0 (MQ below (va_Qv (fun (u : (Nat → Int32) × Int32) => 0 ≤ u.2.toInt ∧ u.2.toInt ≤ 48) (fun (u : (Nat → Int32) × Int32) (t : State) => RP D cy ad (rS (rA σ 58 u.1) 59 u.2) t.heap) (AR cy ad sz)) #[.ref (ad 0), .int k0] s 0 0 (AR cy ad sz)) (F0 m 64 ls []) := by
  have hx := C.1
  have hb := C.2.1
  have hown := C.2.2.2.2.1
  have hw := C.2.2.2.2.2.1
  intro n
  induction n with
  | zero => intro y72 y73 F74 n75 H locs ls hn; exact absurd hn (Nat.not_lt_zero _)
  | succ n ih64 =>
    intro y72 y73 F74 n75 H locs ls hn64 hi64 hP hS hl
    obtain ⟨hi64_0, hi64_1, hi64_2, hi64_3⟩ := hi64
    refine lv_iload hx hb dX12_buildNumber_64 (lv_at hl 0 rfl) ?_
    refine lv_bipush (v := 11) hx hb dX12_buildNumber_66 (by decide +kernel) ?_
    refine lv_icmp_ge (tgt := 109) hx hb dX12_buildNumber_68 (by decide) (fun c76 => ?_) (fun c76 => ?_)
    · have c76 : 11 ≤ y72.toInt := by have h := z_le c76; rw [show (11 : Int32).toInt = 11 from by decide +kernel] at h; exact h
      have hP : RP D cy ad (rS (rA σ 58 F74) 59 n75) H := RP.cong hP (Eq.trans (b := (σ.1 0)) rfl rfl) (Eq.trans (b := (σ.1 1)) rfl rfl) (Eq.trans (b := (σ.2.1 2)) rfl rfl) (Eq.trans (b := (σ.1 3)) rfl rfl) (Eq.trans (b := (σ.2.1 4)) rfl rfl) (Eq.trans (b := (σ.2.1 5)) rfl rfl) (Eq.trans (b := (σ.2.2.1 6)) rfl rfl) (Eq.trans (b := (σ.2.1 7)) rfl rfl) (Eq.trans (b := (σ.1 8)) rfl rfl) (Eq.trans (b := (σ.1 9)) rfl rfl) (Eq.trans (b := (σ.1 10)) rfl rfl) (Eq.trans (b := (σ.2.1 11)) rfl rfl) (Eq.trans (b := (σ.2.2.1 12)) rfl rfl) (Eq.trans (b := (σ.2.1 13)) rfl rfl) (Eq.trans (b := (σ.1 14)) rfl rfl) (Eq.trans (b := (σ.1 15)) rfl rfl) (Eq.trans (b := (σ.1 16)) rfl rfl) (Eq.trans (b := (σ.1 17)) rfl rfl) (Eq.trans (b := (σ.1 18)) rfl rfl) (Eq.trans (b := (σ.1 19)) rfl rfl) (Eq.trans (b := (σ.2.1 20)) rfl rfl) (Eq.trans (b := (σ.2.1 21)) rfl rfl) (Eq.trans (b := (σ.2.1 22)) rfl rfl) (Eq.trans (b := (σ.2.1 23)) rfl rfl) (Eq.trans (b := (σ.2.1 24)) rfl rfl) (Eq.trans (b := (σ.2.1 25)) rfl rfl) (Eq.trans (b := (σ.2.1 26)) rfl rfl) (Eq.trans (b := (σ.2.1 27)) rfl rfl) (Eq.trans (b := (σ.2.1 28)) rfl rfl) (Eq.trans (b := (σ.1 29)) rfl rfl) (Eq.trans (b := (σ.2.1 30)) rfl rfl) (Eq.trans (b := (σ.2.1 31)) rfl rfl) (Eq.trans (b := (σ.2.1 32)) rfl rfl) (Eq.trans (b := (σ.1 33)) rfl rfl) (Eq.trans (b := (σ.1 34)) rfl rfl) (Eq.trans (b := (σ.1 35)) rfl rfl) (Eq.trans (b := (σ.2.1 36)) rfl rfl) (Eq.trans (b := (σ.2.1 37)) rfl rfl) (Eq.trans (b := (σ.2.1 38)) rfl rfl) (Eq.trans (b := (σ.2.1 39)) rfl rfl) (Eq.trans (b := (σ.2.1 40)) rfl rfl) (Eq.trans (b := (σ.2.1 41)) rfl rfl) (Eq.trans (b := (σ.2.1 42)) rfl rfl) (Eq.trans (b := (σ.2.1 43)) rfl rfl) (Eq.trans (b := (σ.2.1 44)) rfl rfl) (Eq.trans (b := (σ.2.1 45)) rfl rfl) (Eq.trans (b := (σ.2.1 46)) rfl rfl) (Eq.trans (b := (σ.1 47)) rfl rfl) (Eq.trans (b := (σ.2.1 48)) rfl rfl) (Eq.trans (b := (σ.1 49)) rfl rfl) (Eq.trans (b := (σ.2.1 50)) rfl rfl) (Eq.trans (b := (σ.2.1 51)) rfl rfl) (Eq.trans (b := (σ.2.2.1 52)) rfl rfl) (Eq.trans (b := (σ.2.2.1 53)) rfl rfl) (Eq.trans (b := (σ.2.2.2)) rfl rfl) (Eq.trans (b := (σ.1 55)) rfl rfl) (Eq.trans (b := (σ.1 56)) rfl rfl) (Eq.trans (b := (σ.1 57)) rfl rfl) (Eq.trans (b := F74) rfl rfl) (Eq.trans (b := n75) rfl rfl)
      exact r_retv C ⟨F74, n75⟩ (v_buildNumber_25 n75 hi64_0 hi64_1) hP hS dX12_buildNumber_109
    · have c76 : y72.toInt < 11 := by have h := z_nle c76; rw [show (11 : Int32).toInt = 11 from by decide +kernel] at h; exact h
      refine lv_lload hx hb dX12_buildNumber_71 (lv_at hl 1 rfl) ?_
      refine lv_lconst (v := 0) hx hb dX12_buildNumber_73 rfl ?_
      refine W.lcmp hx hb dX12_buildNumber_74 ?_
      refine lv_topi (fun x77 ex77 => ?_)
      have tx77 : (x77.toInt = 0 ↔ y73.toInt = 0) ∧ (x77.toInt < 0 ↔ y73.toInt < 0) := z_lcmp ex77 rfl (by decide +kernel)
      refine lv_if_le (tgt := 109) hx hb dX12_buildNumber_75 (by decide) (fun c78 => ?_) (fun c78 => ?_)
      · have c78 : x77.toInt ≤ 0 := by have h := z_le c78; rw [show (0 : Int32).toInt = 0 from by decide +kernel] at h; exact h
        have hP : RP D cy ad (rS (rA σ 58 F74) 59 n75) H := RP.cong hP (Eq.trans (b := (σ.1 0)) rfl rfl) (Eq.trans (b := (σ.1 1)) rfl rfl) (Eq.trans (b := (σ.2.1 2)) rfl rfl) (Eq.trans (b := (σ.1 3)) rfl rfl) (Eq.trans (b := (σ.2.1 4)) rfl rfl) (Eq.trans (b := (σ.2.1 5)) rfl rfl) (Eq.trans (b := (σ.2.2.1 6)) rfl rfl) (Eq.trans (b := (σ.2.1 7)) rfl rfl) (Eq.trans (b := (σ.1 8)) rfl rfl) (Eq.trans (b := (σ.1 9)) rfl rfl) (Eq.trans (b := (σ.1 10)) rfl rfl) (Eq.trans (b := (σ.2.1 11)) rfl rfl) (Eq.trans (b := (σ.2.2.1 12)) rfl rfl) (Eq.trans (b := (σ.2.1 13)) rfl rfl) (Eq.trans (b := (σ.1 14)) rfl rfl) (Eq.trans (b := (σ.1 15)) rfl rfl) (Eq.trans (b := (σ.1 16)) rfl rfl) (Eq.trans (b := (σ.1 17)) rfl rfl) (Eq.trans (b := (σ.1 18)) rfl rfl) (Eq.trans (b := (σ.1 19)) rfl rfl) (Eq.trans (b := (σ.2.1 20)) rfl rfl) (Eq.trans (b := (σ.2.1 21)) rfl rfl) (Eq.trans (b := (σ.2.1 22)) rfl rfl) (Eq.trans (b := (σ.2.1 23)) rfl rfl) (Eq.trans (b := (σ.2.1 24)) rfl rfl) (Eq.trans (b := (σ.2.1 25)) rfl rfl) (Eq.trans (b := (σ.2.1 26)) rfl rfl) (Eq.trans (b := (σ.2.1 27)) rfl rfl) (Eq.trans (b := (σ.2.1 28)) rfl rfl) (Eq.trans (b := (σ.1 29)) rfl rfl) (Eq.trans (b := (σ.2.1 30)) rfl rfl) (Eq.trans (b := (σ.2.1 31)) rfl rfl) (Eq.trans (b := (σ.2.1 32)) rfl rfl) (Eq.trans (b := (σ.1 33)) rfl rfl) (Eq.trans (b := (σ.1 34)) rfl rfl) (Eq.trans (b := (σ.1 35)) rfl rfl) (Eq.trans (b := (σ.2.1 36)) rfl rfl) (Eq.trans (b := (σ.2.1 37)) rfl rfl) (Eq.trans (b := (σ.2.1 38)) rfl rfl) (Eq.trans (b := (σ.2.1 39)) rfl rfl) (Eq.trans (b := (σ.2.1 40)) rfl rfl) (Eq.trans (b := (σ.2.1 41)) rfl rfl) (Eq.trans (b := (σ.2.1 42)) rfl rfl) (Eq.trans (b := (σ.2.1 43)) rfl rfl) (Eq.trans (b := (σ.2.1 44)) rfl rfl) (Eq.trans (b := (σ.2.1 45)) rfl rfl) (Eq.trans (b := (σ.2.1 46)) rfl rfl) (Eq.trans (b := (σ.1 47)) rfl rfl) (Eq.trans (b := (σ.2.1 48)) rfl rfl) (Eq.trans (b := (σ.1 49)) rfl rfl) (Eq.trans (b := (σ.2.1 50)) rfl rfl) (Eq.trans (b := (σ.2.1 51)) rfl rfl) (Eq.trans (b := (σ.2.2.1 52)) rfl rfl) (Eq.trans (b := (σ.2.2.1 53)) rfl rfl) (Eq.trans (b := (σ.2.2.2)) rfl rfl) (Eq.trans (b := (σ.1 55)) rfl rfl) (Eq.trans (b := (σ.1 56)) rfl rfl) (Eq.trans (b := (σ.1 57)) rfl rfl) (Eq.trans (b := F74) rfl rfl) (Eq.trans (b := n75) rfl rfl)
        exact r_retv C ⟨F74, n75⟩ (v_buildNumber_25 n75 hi64_0 hi64_1) hP hS dX12_buildNumber_109
      · have c78 : 0 < x77.toInt := by have h := z_nle c78; rw [show (0 : Int32).toInt = 0 from by decide +kernel] at h; exact h
        refine lv_aload_n hx hb dX12_buildNumber_78 rfl (lv_at hl 3 rfl) ?_
        refine lv_ldc2 (v := 48) hx hb hown (hw _ wm_23) dX12_buildNumber_79 ?_
        refine lv_lload_n hx hb dX12_buildNumber_82 rfl (lv_at hl 2 rfl) ?_
        refine lv_lload hx hb dX12_buildNumber_83 (lv_at hl 1 rfl) ?_
        refine lv_ldiv hx hb dX12_buildNumber_85 (v_buildNumber_26 y73 x77 tx77 c78) ?_
        refine lv_topl (fun x79 ex79 => ?_)
        refine lv_ldc2 (v := 10) hx hb hown (hw _ wm_22) dX12_buildNumber_86 ?_
        refine lv_lrem hx hb dX12_buildNumber_89 (by decide +kernel) ?_
        refine lv_topl (fun x80 ex80 => ?_)
        refine lv_ladd hx hb dX12_buildNumber_90 ?_
        refine lv_topl (fun x81 ex81 => ?_)
        refine lv_l2i hx hb dX12_buildNumber_91 rfl ?_
        refine lv_topi (fun x82 ex82 => ?_)
        have tx82 : -2147483648 ≤ x81.toInt → x81.toInt < 2147483648 → x82.toInt = x81.toInt := z_l2i ex82
        refine r_callVv (As := [.int x82]) (rest := []) C hP hS hl.1 ⟨Nat.zero_le _, Nat.zero_le _⟩ (M_build l D cy sz0 sa ad (rS (rA (rS (rA σ 58 F48) 59 n49) 58 F74) 59 n75) H.size x82 (v_buildNumber_25 n75 hi64_0 hi64_1)) (n := 1) ⟨wm_223, wm_219, by decide +kernel⟩ ⟨wm_224, wm_225, wm_10⟩ rfl rfl (lv_room (Nat.le_of_ble_eq_true rfl)) ⟨Nat.le_of_ble_eq_true rfl, Nat.le_of_ble_eq_true rfl⟩ dX12_buildNumber_92 (fun u H locs hr83 hP hS => ?_)
        obtain ⟨F84, n85⟩ := u
        have hr83 : 0 ≤ n85.toInt ∧ n85.toInt ≤ 48 := hr83
        obtain ⟨hr83_0, hr83_1⟩ := hr83
        have hP : RP D cy ad (rS (rA (rS (rA (rS (rA σ 58 F48) 59 n49) 58 F74) 59 n75) 58 F84) 59 n85) H := hP
        refine lv_lload hx hb dX12_buildNumber_95 (lv_at hl 1 rfl) ?_
        refine lv_ldc2 (v := 10) hx hb hown (hw _ wm_22) dX12_buildNumber_97 ?_
        refine lv_ldiv hx hb dX12_buildNumber_100 (by decide +kernel) ?_
        refine lv_topl (fun x86 ex86 => ?_)
        refine lv_lstore (lv' := [(4, .long x86), (6, .int y72), (2, .long x45), (0, .ref (ad 0)), (1, .int k0)]) hx hb dX12_buildNumber_101 hl (by decide) rfl (fun ls hl => ?_)
        obtain ⟨x87, ex87⟩ : ∃ y : Int32, y = y72 + (1 : Int32) := ⟨_, rfl⟩
        have tx87 : x87.toInt = y72.toInt + 1 := (v_buildNumber_27 y72 x87 hi64_2 hi64_3 c76 ex87)
        refine lv_iinc (v := x87) (lv' := [(6, .int x87), (4, .long x86), (2, .long x45), (0, .ref (ad 0)), (1, .int k0)]) hx hb dX12_buildNumber_103 hl (k := 1) rfl (by rw [ex87]; rfl) (by decide) rfl (fun ls hl => ?_)
        refine lv_goto (tgt := 64) hx hb dX12_buildNumber_106 (by decide) ?_
        have hP : RP D cy ad (rS (rA (rS (rA σ 58 F48) 59 n49) 58 F84) 59 n85) H := RP.cong hP (Eq.trans (b := (σ.1 0)) rfl rfl) (Eq.trans (b := (σ.1 1)) rfl rfl) (Eq.trans (b := (σ.2.1 2)) rfl rfl) (Eq.trans (b := (σ.1 3)) rfl rfl) (Eq.trans (b := (σ.2.1 4)) rfl rfl) (Eq.trans (b := (σ.2.1 5)) rfl rfl) (Eq.trans (b := (σ.2.2.1 6)) rfl rfl) (Eq.trans (b := (σ.2.1 7)) rfl rfl) (Eq.trans (b := (σ.1 8)) rfl rfl) (Eq.trans (b := (σ.1 9)) rfl rfl) (Eq.trans (b := (σ.1 10)) rfl rfl) (Eq.trans (b := (σ.2.1 11)) rfl rfl) (Eq.trans (b := (σ.2.2.1 12)) rfl rfl) (Eq.trans (b := (σ.2.1 13)) rfl rfl) (Eq.trans (b := (σ.1 14)) rfl rfl) (Eq.trans (b := (σ.1 15)) rfl rfl) (Eq.trans (b := (σ.1 16)) rfl rfl) (Eq.trans (b := (σ.1 17)) rfl rfl) (Eq.trans (b := (σ.1 18)) rfl rfl) (Eq.trans (b := (σ.1 19)) rfl rfl) (Eq.trans (b := (σ.2.1 20)) rfl rfl) (Eq.trans (b := (σ.2.1 21)) rfl rfl) (Eq.trans (b := (σ.2.1 22)) rfl rfl) (Eq.trans (b := (σ.2.1 23)) rfl rfl) (Eq.trans (b := (σ.2.1 24)) rfl rfl) (Eq.trans (b := (σ.2.1 25)) rfl rfl) (Eq.trans (b := (σ.2.1 26)) rfl rfl) (Eq.trans (b := (σ.2.1 27)) rfl rfl) (Eq.trans (b := (σ.2.1 28)) rfl rfl) (Eq.trans (b := (σ.1 29)) rfl rfl) (Eq.trans (b := (σ.2.1 30)) rfl rfl) (Eq.trans (b := (σ.2.1 31)) rfl rfl) (Eq.trans (b := (σ.2.1 32)) rfl rfl) (Eq.trans (b := (σ.1 33)) rfl rfl) (Eq.trans (b := (σ.1 34)) rfl rfl) (Eq.trans (b := (σ.1 35)) rfl rfl) (Eq.trans (b := (σ.2.1 36)) rfl rfl) (Eq.trans (b := (σ.2.1 37)) rfl rfl) (Eq.trans (b := (σ.2.1 38)) rfl rfl) (Eq.trans (b := (σ.2.1 39)) rfl rfl) (Eq.trans (b := (σ.2.1 40)) rfl rfl) (Eq.trans (b := (σ.2.1 41)) rfl rfl) (Eq.trans (b := (σ.2.1 42)) rfl rfl) (Eq.trans (b := (σ.2.1 43)) rfl rfl) (Eq.trans (b := (σ.2.1 44)) rfl rfl) (Eq.trans (b := (σ.2.1 45)) rfl rfl) (Eq.trans (b := (σ.2.1 46)) rfl rfl) (Eq.trans (b := (σ.1 47)) rfl rfl) (Eq.trans (b := (σ.2.1 48)) rfl rfl) (Eq.trans (b := (σ.1 49)) rfl rfl) (Eq.trans (b := (σ.2.1 50)) rfl rfl) (Eq.trans (b := (σ.2.1 51)) rfl rfl) (Eq.trans (b := (σ.2.2.1 52)) rfl rfl) (Eq.trans (b := (σ.2.2.1 53)) rfl rfl) (Eq.trans (b := (σ.2.2.2)) rfl rfl) (Eq.trans (b := (σ.1 55)) rfl rfl) (Eq.trans (b := (σ.1 56)) rfl rfl) (Eq.trans (b := (σ.1 57)) rfl rfl) (Eq.trans (b := F84) rfl rfl) (Eq.trans (b := n85) rfl rfl)
        exact ih64 x87 x86 F84 n85 _ _ _ (Nat.lt_of_lt_of_le (v_buildNumber_29 y72 x87 hi64_2 hi64_3 c76 ex87 tx87) (Nat.le_of_lt_succ hn64)) (v_buildNumber_28 y72 n85 x87 hi64_2 hi64_3 c76 hr83_0 hr83_1 ex87 tx87) hP hS (lv_sub hl [0, 1, 2, 3, 4] rfl)
set_option maxHeartbeats 4000000 in
set_option maxRecDepth 100000 in
theorem L_buildNumber_29_4 {p : Program} {e : Env} {s : State} {m : MethodId} {below : List Frame} {meth : Method} {c : Code} (l : Launch) (D : va_G) (cy : Nat → ClassId) (sz0 : Nat) (sa : Nat → Nat) (ad : Nat → Nat) (sz : Nat) (σ : RS) (k0 : Int32) (x44 : Int64) (x45 : Int64) (F48 : (Nat → Int32)) (n49 : Int32) (C : RC p s m #[.ref (ad 0), .int k0] meth c cX12_buildNumber 7 none D cy sz0 sa ad (AR cy ad sz)) (hpre_0 : 0 ≤ (σ.1 59).toInt) (hpre_1 : (σ.1 59).toInt ≤ 48) (c1 : k0.toInt < 0) (ex44 : x44 = Int32.toInt64 k0) (tx44 : x44.toInt = k0.toInt) (ex45 : x45 = -x44) (c46 : k0.toInt < 0) (hr47_0 : 0 ≤ n49.toInt) (hr47_1 : n49.toInt ≤ 48) : ∀ (n : Nat) (y50 : Int32) (y51 : Int64) (H : Heap) (locs : List Loc) (ls : Array Slot), (10 - y50.toInt).toNat < n → (0 ≤ y50.toInt ∧ y50.toInt ≤ 10) → RP D cy ad (rS (rA σ 58 F48) 59 n49) H → va_S (AR cy ad sz) s.heap H locs → lv_has ls 7 [(6, .int y50), (4, .long y51), (2, .long x45), (0, .ref (ad 0)), (1, .int k0)] → W p l e (headSpec (Cond.code yX12_buildNumber cX12_buildNumber 7 none :: GWm) ({ frames := 1, cells := 0, slots := 0, locals := 21 })).room s m #[.ref (ad 0), .int k0] below meth c H locs 0 0 (MQ below (va_Qv (fun (u : (Nat → Int32) × Int32) => 0 ≤ u.2.toInt ∧ u.2.toInt ≤ 48) (fun (u : (Nat → Int32) × Int32) (t : State) => RP D cy ad (rS (rA σ 58 u.1) 59 u.2) t.heap) (AR cy ad sz)) #[.ref (ad 0), .int k0] s 0 0 (AR cy ad sz)) (F0 m 29 ls []) := by
  have hx := C.1
  have hb := C.2.1
  have hown := C.2.2.2.2.1
  have hw := C.2.2.2.2.2.1
  intro n
  induction n with
  | zero => intro y50 y51 H locs ls hn; exact absurd hn (Nat.not_lt_zero _)
  | succ n ih29 =>
    intro y50 y51 H locs ls hn29 hi29 hP hS hl
    obtain ⟨hi29_0, hi29_1⟩ := hi29
    refine lv_iload hx hb dX12_buildNumber_29 (lv_at hl 0 rfl) ?_
    refine lv_bipush (v := 10) hx hb dX12_buildNumber_31 (by decide +kernel) ?_
    refine lv_icmp_ge (tgt := 61) hx hb dX12_buildNumber_33 (by decide) (fun c52 => ?_) (fun c52 => ?_)
    · have c52 : 10 ≤ y50.toInt := by have h := z_le c52; rw [show (10 : Int32).toInt = 10 from by decide +kernel] at h; exact h
      refine lv_iconst (v := 0) hx hb dX12_buildNumber_61 (by decide +kernel) ?_
      refine lv_istore (lv' := [(6, .int 0), (4, .long y51), (2, .long x45), (0, .ref (ad 0)), (1, .int k0)]) hx hb dX12_buildNumber_62 hl (by decide) rfl (fun ls hl => ?_)
      have hP : RP D cy ad (rS (rA (rS (rA σ 58 F48) 59 n49) 58 F48) 59 n49) H := RP.cong hP (Eq.trans (b := (σ.1 0)) rfl rfl) (Eq.trans (b := (σ.1 1)) rfl rfl) (Eq.trans (b := (σ.2.1 2)) rfl rfl) (Eq.trans (b := (σ.1 3)) rfl rfl) (Eq.trans (b := (σ.2.1 4)) rfl rfl) (Eq.trans (b := (σ.2.1 5)) rfl rfl) (Eq.trans (b := (σ.2.2.1 6)) rfl rfl) (Eq.trans (b := (σ.2.1 7)) rfl rfl) (Eq.trans (b := (σ.1 8)) rfl rfl) (Eq.trans (b := (σ.1 9)) rfl rfl) (Eq.trans (b := (σ.1 10)) rfl rfl) (Eq.trans (b := (σ.2.1 11)) rfl rfl) (Eq.trans (b := (σ.2.2.1 12)) rfl rfl) (Eq.trans (b := (σ.2.1 13)) rfl rfl) (Eq.trans (b := (σ.1 14)) rfl rfl) (Eq.trans (b := (σ.1 15)) rfl rfl) (Eq.trans (b := (σ.1 16)) rfl rfl) (Eq.trans (b := (σ.1 17)) rfl rfl) (Eq.trans (b := (σ.1 18)) rfl rfl) (Eq.trans (b := (σ.1 19)) rfl rfl) (Eq.trans (b := (σ.2.1 20)) rfl rfl) (Eq.trans (b := (σ.2.1 21)) rfl rfl) (Eq.trans (b := (σ.2.1 22)) rfl rfl) (Eq.trans (b := (σ.2.1 23)) rfl rfl) (Eq.trans (b := (σ.2.1 24)) rfl rfl) (Eq.trans (b := (σ.2.1 25)) rfl rfl) (Eq.trans (b := (σ.2.1 26)) rfl rfl) (Eq.trans (b := (σ.2.1 27)) rfl rfl) (Eq.trans (b := (σ.2.1 28)) rfl rfl) (Eq.trans (b := (σ.1 29)) rfl rfl) (Eq.trans (b := (σ.2.1 30)) rfl rfl) (Eq.trans (b := (σ.2.1 31)) rfl rfl) (Eq.trans (b := (σ.2.1 32)) rfl rfl) (Eq.trans (b := (σ.1 33)) rfl rfl) (Eq.trans (b := (σ.1 34)) rfl rfl) (Eq.trans (b := (σ.1 35)) rfl rfl) (Eq.trans (b := (σ.2.1 36)) rfl rfl) (Eq.trans (b := (σ.2.1 37)) rfl rfl) (Eq.trans (b := (σ.2.1 38)) rfl rfl) (Eq.trans (b := (σ.2.1 39)) rfl rfl) (Eq.trans (b := (σ.2.1 40)) rfl rfl) (Eq.trans (b := (σ.2.1 41)) rfl rfl) (Eq.trans (b := (σ.2.1 42)) rfl rfl) (Eq.trans (b := (σ.2.1 43)) rfl rfl) (Eq.trans (b := (σ.2.1 44)) rfl rfl) (Eq.trans (b := (σ.2.1 45)) rfl rfl) (Eq.trans (b := (σ.2.1 46)) rfl rfl) (Eq.trans (b := (σ.1 47)) rfl rfl) (Eq.trans (b := (σ.2.1 48)) rfl rfl) (Eq.trans (b := (σ.1 49)) rfl rfl) (Eq.trans (b := (σ.2.1 50)) rfl rfl) (Eq.trans (b := (σ.2.1 51)) rfl rfl) (Eq.trans (b := (σ.2.2.1 52)) rfl rfl) (Eq.trans (b := (σ.2.2.1 53)) rfl rfl) (Eq.trans (b := (σ.2.2.2)) rfl rfl) (Eq.trans (b := (σ.1 55)) rfl rfl) (Eq.trans (b := (σ.1 56)) rfl rfl) (Eq.trans (b := (σ.1 57)) rfl rfl) (Eq.trans (b := F48) rfl rfl) (Eq.trans (b := n49) rfl rfl)
      exact L_buildNumber_64_5 l D cy sz0 sa ad sz σ k0 x44 x45 F48 n49 y50 y51 C hpre_0 hpre_1 c1 ex44 tx44 ex45 c46 hr47_0 hr47_1 hi29_0 hi29_1 c52 ((11 - (0 : Int32).toInt).toNat + 1) (0 : Int32) y51 F48 n49 _ _ _ (Nat.lt_succ_self _) (v_buildNumber_19 n49 hr47_0 hr47_1) hP hS (lv_sub hl [0, 1, 2, 3, 4] rfl)
    · have c52 : y50.toInt < 10 := by have h := z_nle c52; rw [show (10 : Int32).toInt = 10 from by decide +kernel] at h; exact h
      refine lv_lload hx hb dX12_buildNumber_36 (lv_at hl 1 rfl) ?_
      refine lv_ldc2 (v := 10) hx hb hown (hw _ wm_22) dX12_buildNumber_38 ?_
      refine lv_lmul hx hb dX12_buildNumber_41 ?_
      refine lv_topl (fun x69 ex69 => ?_)
      refine lv_lload_n hx hb dX12_buildNumber_42 rfl (lv_at hl 2 rfl) ?_
      refine W.lcmp hx hb dX12_buildNumber_43 ?_
      refine lv_topi (fun x70 ex70 => ?_)
      have tx70 : (x70.toInt = 0 ↔ x69.toInt = x45.toInt) ∧ (x70.toInt < 0 ↔ x69.toInt < x45.toInt) := z_lcmp ex70 rfl rfl
      refine lv_if_gt (tgt := 61) hx hb dX12_buildNumber_44 (by decide) (fun c71 => ?_) (fun c71 => ?_)
      · have c71 : 0 < x70.toInt := by have h := z_lt c71; rw [show (0 : Int32).toInt = 0 from by decide +kernel] at h; exact h
        refine lv_iconst (v := 0) hx hb dX12_buildNumber_61 (by decide +kernel) ?_
        refine lv_istore (lv' := [(6, .int 0), (4, .long y51), (2, .long x45), (0, .ref (ad 0)), (1, .int k0)]) hx hb dX12_buildNumber_62 hl (by decide) rfl (fun ls hl => ?_)
        have hP : RP D cy ad (rS (rA (rS (rA σ 58 F48) 59 n49) 58 F48) 59 n49) H := RP.cong hP (Eq.trans (b := (σ.1 0)) rfl rfl) (Eq.trans (b := (σ.1 1)) rfl rfl) (Eq.trans (b := (σ.2.1 2)) rfl rfl) (Eq.trans (b := (σ.1 3)) rfl rfl) (Eq.trans (b := (σ.2.1 4)) rfl rfl) (Eq.trans (b := (σ.2.1 5)) rfl rfl) (Eq.trans (b := (σ.2.2.1 6)) rfl rfl) (Eq.trans (b := (σ.2.1 7)) rfl rfl) (Eq.trans (b := (σ.1 8)) rfl rfl) (Eq.trans (b := (σ.1 9)) rfl rfl) (Eq.trans (b := (σ.1 10)) rfl rfl) (Eq.trans (b := (σ.2.1 11)) rfl rfl) (Eq.trans (b := (σ.2.2.1 12)) rfl rfl) (Eq.trans (b := (σ.2.1 13)) rfl rfl) (Eq.trans (b := (σ.1 14)) rfl rfl) (Eq.trans (b := (σ.1 15)) rfl rfl) (Eq.trans (b := (σ.1 16)) rfl rfl) (Eq.trans (b := (σ.1 17)) rfl rfl) (Eq.trans (b := (σ.1 18)) rfl rfl) (Eq.trans (b := (σ.1 19)) rfl rfl) (Eq.trans (b := (σ.2.1 20)) rfl rfl) (Eq.trans (b := (σ.2.1 21)) rfl rfl) (Eq.trans (b := (σ.2.1 22)) rfl rfl) (Eq.trans (b := (σ.2.1 23)) rfl rfl) (Eq.trans (b := (σ.2.1 24)) rfl rfl) (Eq.trans (b := (σ.2.1 25)) rfl rfl) (Eq.trans (b := (σ.2.1 26)) rfl rfl) (Eq.trans (b := (σ.2.1 27)) rfl rfl) (Eq.trans (b := (σ.2.1 28)) rfl rfl) (Eq.trans (b := (σ.1 29)) rfl rfl) (Eq.trans (b := (σ.2.1 30)) rfl rfl) (Eq.trans (b := (σ.2.1 31)) rfl rfl) (Eq.trans (b := (σ.2.1 32)) rfl rfl) (Eq.trans (b := (σ.1 33)) rfl rfl) (Eq.trans (b := (σ.1 34)) rfl rfl) (Eq.trans (b := (σ.1 35)) rfl rfl) (Eq.trans (b := (σ.2.1 36)) rfl rfl) (Eq.trans (b := (σ.2.1 37)) rfl rfl) (Eq.trans (b := (σ.2.1 38)) rfl rfl) (Eq.trans (b := (σ.2.1 39)) rfl rfl) (Eq.trans (b := (σ.2.1 40)) rfl rfl) (Eq.trans (b := (σ.2.1 41)) rfl rfl) (Eq.trans (b := (σ.2.1 42)) rfl rfl) (Eq.trans (b := (σ.2.1 43)) rfl rfl) (Eq.trans (b := (σ.2.1 44)) rfl rfl) (Eq.trans (b := (σ.2.1 45)) rfl rfl) (Eq.trans (b := (σ.2.1 46)) rfl rfl) (Eq.trans (b := (σ.1 47)) rfl rfl) (Eq.trans (b := (σ.2.1 48)) rfl rfl) (Eq.trans (b := (σ.1 49)) rfl rfl) (Eq.trans (b := (σ.2.1 50)) rfl rfl) (Eq.trans (b := (σ.2.1 51)) rfl rfl) (Eq.trans (b := (σ.2.2.1 52)) rfl rfl) (Eq.trans (b := (σ.2.2.1 53)) rfl rfl) (Eq.trans (b := (σ.2.2.2)) rfl rfl) (Eq.trans (b := (σ.1 55)) rfl rfl) (Eq.trans (b := (σ.1 56)) rfl rfl) (Eq.trans (b := (σ.1 57)) rfl rfl) (Eq.trans (b := F48) rfl rfl) (Eq.trans (b := n49) rfl rfl)
        exact L_buildNumber_64_6 l D cy sz0 sa ad sz σ k0 x44 x45 F48 n49 y50 y51 x69 x70 C hpre_0 hpre_1 c1 ex44 tx44 ex45 c46 hr47_0 hr47_1 hi29_0 hi29_1 c52 ex69 tx70 c71 ((11 - (0 : Int32).toInt).toNat + 1) (0 : Int32) y51 F48 n49 _ _ _ (Nat.lt_succ_self _) (v_buildNumber_19 n49 hr47_0 hr47_1) hP hS (lv_sub hl [0, 1, 2, 3, 4] rfl)
      · have c71 : x70.toInt ≤ 0 := by have h := z_nlt c71; rw [show (0 : Int32).toInt = 0 from by decide +kernel] at h; exact h
        refine lv_lload hx hb dX12_buildNumber_47 (lv_at hl 1 rfl) ?_
        refine lv_ldc2 (v := 10) hx hb hown (hw _ wm_22) dX12_buildNumber_49 ?_
        refine lv_lmul hx hb dX12_buildNumber_52 ?_
        refine lv_topl (fun x88 ex88 => ?_)
        refine lv_lstore (lv' := [(4, .long x88), (6, .int y50), (2, .long x45), (0, .ref (ad 0)), (1, .int k0)]) hx hb dX12_buildNumber_53 hl (by decide) rfl (fun ls hl => ?_)
        obtain ⟨x89, ex89⟩ : ∃ y : Int32, y = y50 + (1 : Int32) := ⟨_, rfl⟩
        have tx89 : x89.toInt = y50.toInt + 1 := (v_buildNumber_30 y50 x89 hi29_0 hi29_1 c52 ex89)
        refine lv_iinc (v := x89) (lv' := [(6, .int x89), (4, .long x88), (2, .long x45), (0, .ref (ad 0)), (1, .int k0)]) hx hb dX12_buildNumber_55 hl (k := 1) rfl (by rw [ex89]; rfl) (by decide) rfl (fun ls hl => ?_)
        refine lv_goto (tgt := 29) hx hb dX12_buildNumber_58 (by decide) ?_
        exact ih29 x89 x88 _ _ _ (Nat.lt_of_lt_of_le (v_buildNumber_32 y50 x89 hi29_0 hi29_1 c52 ex89 tx89) (Nat.le_of_lt_succ hn29)) (v_buildNumber_31 y50 x89 hi29_0 hi29_1 c52 ex89 tx89) hP hS (lv_sub hl [0, 1, 2, 3, 4] rfl)
set_option maxHeartbeats 4000000 in
set_option maxRecDepth 100000 in
theorem M_buildNumber (l : Launch) (D : va_G) (cy : Nat → ClassId) (sz0 : Nat) (sa : Nat → Nat) (ad : Nat → Nat) (σ : RS) (sz : Nat) (k0 : Int32) (hpre : 0 ≤ (σ.1 59).toInt ∧ (σ.1 59).toInt ≤ 48) : Met l yX12_buildNumber (Cond.code yX12_buildNumber cX12_buildNumber 7 none :: GWm) ({ frames := 1, cells := 0, slots := 0, locals := 21 }) (PcR D cy sz0 sa ad [.ref (ad 0), .int k0] σ sz) (va_Qv (fun (u : (Nat → Int32) × Int32) => 0 ≤ u.2.toInt ∧ u.2.toInt ≤ 48) (fun (u : (Nat → Int32) × Int32) (t : State) => RP D cy ad (rS (rA σ 58 u.1) 59 u.2) t.heap) (AR cy ad sz)) 0 0 (AR cy ad sz) := by
  refine RM_of (loc0 := [(0, .ref (ad 0)), (1, .int k0)]) (by decide) rfl rfl (Nat.le_of_ble_eq_true rfl) ?_
  intro p e s m below meth c ls hsz C hP hS hl
  have hx := C.1
  have hb := C.2.1
  have hown := C.2.2.2.2.1
  have hw := C.2.2.2.2.2.1
  clear hsz
  obtain ⟨hpre_0, hpre_1⟩ := hpre
  refine lv_iload_n hx hb dX12_buildNumber_0 rfl (lv_at hl 1 rfl) ?_
  refine lv_if_ge (tgt := 10) hx hb dX12_buildNumber_1 (by decide) (fun c1 => ?_) (fun c1 => ?_)
  · have c1 : 0 ≤ k0.toInt := by have h := z_le c1; rw [show (0 : Int32).toInt = 0 from by decide +kernel] at h; exact h
    refine lv_iload_n hx hb dX12_buildNumber_10 rfl (lv_at hl 1 rfl) ?_
    refine lv_i2l hx hb dX12_buildNumber_11 rfl ?_
    refine lv_topl (fun x2 ex2 => ?_)
    have tx2 : x2.toInt = k0.toInt := by rw [ex2]; exact Int32.toInt_toInt64 _
    refine lv_lstore_n (lv' := [(2, .long x2), (0, .ref (ad 0)), (1, .int k0)]) hx hb dX12_buildNumber_12 rfl hl (by decide) rfl (fun ls hl => ?_)
    refine lv_iload_n hx hb dX12_buildNumber_13 rfl (lv_at hl 2 rfl) ?_
    refine lv_if_ge (tgt := 23) hx hb dX12_buildNumber_14 (by decide) (fun c3 => ?_) (fun c3 => ?_)
    · have c3 : 0 ≤ k0.toInt := by have h := z_le c3; rw [show (0 : Int32).toInt = 0 from by decide +kernel] at h; exact h
      refine lv_lconst (v := 1) hx hb dX12_buildNumber_23 rfl ?_
      refine lv_lstore (lv' := [(4, .long 1), (2, .long x2), (0, .ref (ad 0)), (1, .int k0)]) hx hb dX12_buildNumber_24 hl (by decide) rfl (fun ls hl => ?_)
      refine lv_iconst (v := 0) hx hb dX12_buildNumber_26 (by decide +kernel) ?_
      refine lv_istore (lv' := [(6, .int 0), (4, .long 1), (2, .long x2), (0, .ref (ad 0)), (1, .int k0)]) hx hb dX12_buildNumber_27 hl (by decide) rfl (fun ls hl => ?_)
      exact L_buildNumber_29_1 l D cy sz0 sa ad sz σ k0 x2 C hpre_0 hpre_1 c1 ex2 tx2 c3 ((10 - (0 : Int32).toInt).toNat + 1) (0 : Int32) (1 : Int64) _ _ _ (Nat.lt_succ_self _) (v_buildNumber_1  ) hP hS (lv_sub hl [0, 1, 2, 3, 4] rfl)
    · have c3 : k0.toInt < 0 := by have h := z_nle c3; rw [show (0 : Int32).toInt = 0 from by decide +kernel] at h; exact h
      exact absurd (v_buildNumber_16 k0 x2 c1 ex2 tx2 c3) id
  · have c1 : k0.toInt < 0 := by have h := z_nle c1; rw [show (0 : Int32).toInt = 0 from by decide +kernel] at h; exact h
    refine lv_iload_n hx hb dX12_buildNumber_4 rfl (lv_at hl 1 rfl) ?_
    refine lv_i2l hx hb dX12_buildNumber_5 rfl ?_
    refine lv_topl (fun x44 ex44 => ?_)
    have tx44 : x44.toInt = k0.toInt := by rw [ex44]; exact Int32.toInt_toInt64 _
    refine lv_lneg hx hb dX12_buildNumber_6 ?_
    refine lv_topl (fun x45 ex45 => ?_)
    refine lv_goto (tgt := 12) hx hb dX12_buildNumber_7 (by decide) ?_
    refine lv_lstore_n (lv' := [(2, .long x45), (0, .ref (ad 0)), (1, .int k0)]) hx hb dX12_buildNumber_12 rfl hl (by decide) rfl (fun ls hl => ?_)
    refine lv_iload_n hx hb dX12_buildNumber_13 rfl (lv_at hl 2 rfl) ?_
    refine lv_if_ge (tgt := 23) hx hb dX12_buildNumber_14 (by decide) (fun c46 => ?_) (fun c46 => ?_)
    · have c46 : 0 ≤ k0.toInt := by have h := z_le c46; rw [show (0 : Int32).toInt = 0 from by decide +kernel] at h; exact h
      exact absurd (v_buildNumber_17 k0 x44 c1 ex44 tx44 c46) id
    · have c46 : k0.toInt < 0 := by have h := z_nle c46; rw [show (0 : Int32).toInt = 0 from by decide +kernel] at h; exact h
      refine lv_aload_n hx hb dX12_buildNumber_17 rfl (lv_at hl 1 rfl) ?_
      refine lv_bipush (v := 45) hx hb dX12_buildNumber_18 (by decide +kernel) ?_
      refine r_callVv (As := [.int 45]) (rest := []) C hP hS hl.1 ⟨Nat.zero_le _, Nat.zero_le _⟩ (M_build l D cy sz0 sa ad σ s.heap.size (45 : Int32) (v_buildNumber_18 σ hpre_0 hpre_1)) (n := 1) ⟨wm_223, wm_219, by decide +kernel⟩ ⟨wm_224, wm_225, wm_10⟩ rfl rfl (lv_room (Nat.le_of_ble_eq_true rfl)) ⟨Nat.le_of_ble_eq_true rfl, Nat.le_of_ble_eq_true rfl⟩ dX12_buildNumber_20 (fun u H locs hr47 hP hS => ?_)
      obtain ⟨F48, n49⟩ := u
      have hr47 : 0 ≤ n49.toInt ∧ n49.toInt ≤ 48 := hr47
      obtain ⟨hr47_0, hr47_1⟩ := hr47
      have hP : RP D cy ad (rS (rA σ 58 F48) 59 n49) H := hP
      refine lv_lconst (v := 1) hx hb dX12_buildNumber_23 rfl ?_
      refine lv_lstore (lv' := [(4, .long 1), (2, .long x45), (0, .ref (ad 0)), (1, .int k0)]) hx hb dX12_buildNumber_24 hl (by decide) rfl (fun ls hl => ?_)
      refine lv_iconst (v := 0) hx hb dX12_buildNumber_26 (by decide +kernel) ?_
      refine lv_istore (lv' := [(6, .int 0), (4, .long 1), (2, .long x45), (0, .ref (ad 0)), (1, .int k0)]) hx hb dX12_buildNumber_27 hl (by decide) rfl (fun ls hl => ?_)
      exact L_buildNumber_29_4 l D cy sz0 sa ad sz σ k0 x44 x45 F48 n49 C hpre_0 hpre_1 c1 ex44 tx44 ex45 c46 hr47_0 hr47_1 ((10 - (0 : Int32).toInt).toNat + 1) (0 : Int32) (1 : Int64) _ _ _ (Nat.lt_succ_self _) (v_buildNumber_1  ) hP hS (lv_sub hl [0, 1, 2, 3, 4] rfl)

-- in@5 @5
theorem v_spell_1 (k0 : Int32) (hpre_0 : 0 ≤ k0.toInt) (hpre_1 : k0.toInt < 980) : vp_in k0 980 := by
  exact vp_in_iff.mpr ⟨by omega, by omega⟩
-- in@45 @45
theorem v_spell_2 (σ : RS) (k0 : Int32) (x1 : Int32) (hpre_0 : 0 ≤ k0.toInt) (hpre_1 : k0.toInt < 980) (ex1 : x1 = (σ.2.1 51) k0.toNatClampNeg) (tx1 : x1.toInt = ((σ.2.1 51) k0.toNatClampNeg).toInt) (c2 : ¬ x1.toInt = 4) : vp_in k0 980 := by
  exact vp_in_iff.mpr ⟨by omega, by omega⟩
-- in@69 @69
theorem v_spell_3 (σ : RS) (k0 : Int32) (x1 : Int32) (x3 : Int32) (hpre_0 : 0 ≤ k0.toInt) (hpre_1 : k0.toInt < 980) (ex1 : x1 = (σ.2.1 51) k0.toNatClampNeg) (tx1 : x1.toInt = ((σ.2.1 51) k0.toNatClampNeg).toInt) (c2 : ¬ x1.toInt = 4) (ex3 : x3 = (σ.2.1 51) k0.toNatClampNeg) (tx3 : x3.toInt = ((σ.2.1 51) k0.toNatClampNeg).toInt) (c4 : ¬ x3.toInt = 2) : vp_in k0 980 := by
  exact vp_in_iff.mpr ⟨by omega, by omega⟩
-- in@93 @93
theorem v_spell_4 (σ : RS) (k0 : Int32) (x1 : Int32) (x3 : Int32) (x5 : Int32) (hpre_0 : 0 ≤ k0.toInt) (hpre_1 : k0.toInt < 980) (ex1 : x1 = (σ.2.1 51) k0.toNatClampNeg) (tx1 : x1.toInt = ((σ.2.1 51) k0.toNatClampNeg).toInt) (c2 : ¬ x1.toInt = 4) (ex3 : x3 = (σ.2.1 51) k0.toNatClampNeg) (tx3 : x3.toInt = ((σ.2.1 51) k0.toNatClampNeg).toInt) (c4 : ¬ x3.toInt = 2) (ex5 : x5 = (σ.2.1 51) k0.toNatClampNeg) (tx5 : x5.toInt = ((σ.2.1 51) k0.toNatClampNeg).toInt) (c6 : ¬ x5.toInt = 3) : vp_in k0 980 := by
  exact vp_in_iff.mpr ⟨by omega, by omega⟩
-- in@130 @130
theorem v_spell_5 (σ : RS) (k0 : Int32) (x1 : Int32) (x3 : Int32) (x5 : Int32) (x7 : Int32) (hpre_0 : 0 ≤ k0.toInt) (hpre_1 : k0.toInt < 980) (ex1 : x1 = (σ.2.1 51) k0.toNatClampNeg) (tx1 : x1.toInt = ((σ.2.1 51) k0.toNatClampNeg).toInt) (c2 : ¬ x1.toInt = 4) (ex3 : x3 = (σ.2.1 51) k0.toNatClampNeg) (tx3 : x3.toInt = ((σ.2.1 51) k0.toNatClampNeg).toInt) (c4 : ¬ x3.toInt = 2) (ex5 : x5 = (σ.2.1 51) k0.toNatClampNeg) (tx5 : x5.toInt = ((σ.2.1 51) k0.toNatClampNeg).toInt) (c6 : ¬ x5.toInt = 3) (ex7 : x7 = (σ.2.1 51) k0.toNatClampNeg) (tx7 : x7.toInt = ((σ.2.1 51) k0.toNatClampNeg).toInt) (c8 : ¬ x7.toInt = 1) : vp_in k0 980 := by
  exact vp_in_iff.mpr ⟨by omega, by omega⟩
-- in@157 @157
theorem v_spell_6 (σ : RS) (k0 : Int32) (x1 : Int32) (x3 : Int32) (x5 : Int32) (x7 : Int32) (x9 : Int32) (hpre_0 : 0 ≤ k0.toInt) (hpre_1 : k0.toInt < 980) (ex1 : x1 = (σ.2.1 51) k0.toNatClampNeg) (tx1 : x1.toInt = ((σ.2.1 51) k0.toNatClampNeg).toInt) (c2 : ¬ x1.toInt = 4) (ex3 : x3 = (σ.2.1 51) k0.toNatClampNeg) (tx3 : x3.toInt = ((σ.2.1 51) k0.toNatClampNeg).toInt) (c4 : ¬ x3.toInt = 2) (ex5 : x5 = (σ.2.1 51) k0.toNatClampNeg) (tx5 : x5.toInt = ((σ.2.1 51) k0.toNatClampNeg).toInt) (c6 : ¬ x5.toInt = 3) (ex7 : x7 = (σ.2.1 51) k0.toNatClampNeg) (tx7 : x7.toInt = ((σ.2.1 51) k0.toNatClampNeg).toInt) (c8 : ¬ x7.toInt = 1) (ex9 : x9 = (σ.2.1 51) k0.toNatClampNeg) (tx9 : x9.toInt = ((σ.2.1 51) k0.toNatClampNeg).toInt) (c10 : ¬ x9.toInt = 1) : vp_in k0 980 := by
  exact vp_in_iff.mpr ⟨by omega, by omega⟩
-- pre:build@180 @180
theorem v_spell_7 (σ : RS) (hpre_2 : 0 ≤ (σ.1 59).toInt) (hpre_3 : (σ.1 59).toInt ≤ 48) : 0 ≤ (σ.1 59).toInt ∧ (σ.1 59).toInt ≤ 48 := by
  refine ⟨?_, ?_⟩ <;> first | assumption | omega | (subst_vars; omega) | trivial
-- in@189 @189
theorem v_spell_8 (σ : RS) (k0 : Int32) (x1 : Int32) (x3 : Int32) (x5 : Int32) (x7 : Int32) (x9 : Int32) (x11 : Int32) (hpre_0 : 0 ≤ k0.toInt) (hpre_1 : k0.toInt < 980) (ex1 : x1 = (σ.2.1 51) k0.toNatClampNeg) (tx1 : x1.toInt = ((σ.2.1 51) k0.toNatClampNeg).toInt) (c2 : ¬ x1.toInt = 4) (ex3 : x3 = (σ.2.1 51) k0.toNatClampNeg) (tx3 : x3.toInt = ((σ.2.1 51) k0.toNatClampNeg).toInt) (c4 : ¬ x3.toInt = 2) (ex5 : x5 = (σ.2.1 51) k0.toNatClampNeg) (tx5 : x5.toInt = ((σ.2.1 51) k0.toNatClampNeg).toInt) (c6 : ¬ x5.toInt = 3) (ex7 : x7 = (σ.2.1 51) k0.toNatClampNeg) (tx7 : x7.toInt = ((σ.2.1 51) k0.toNatClampNeg).toInt) (c8 : ¬ x7.toInt = 1) (ex9 : x9 = (σ.2.1 51) k0.toNatClampNeg) (tx9 : x9.toInt = ((σ.2.1 51) k0.toNatClampNeg).toInt) (c10 : ¬ x9.toInt = 1) (ex11 : x11 = (σ.2.1 51) k0.toNatClampNeg) (tx11 : x11.toInt = ((σ.2.1 51) k0.toNatClampNeg).toInt) (c12 : ¬ x11.toInt = 0) : vp_in k0 980 := by
  exact vp_in_iff.mpr ⟨by omega, by omega⟩
-- pre:buildNumber@191 @191
theorem v_spell_9 (n15 : Int32) (hr13_0 : 0 ≤ n15.toInt) (hr13_1 : n15.toInt ≤ 48) : 0 ≤ n15.toInt ∧ n15.toInt ≤ 48 := by
  refine ⟨?_, ?_⟩ <;> first | assumption | omega | (subst_vars; omega) | trivial
-- post @194
theorem v_spell_10 (n20 : Int32) (hr18_0 : 0 ≤ n20.toInt) (hr18_1 : n20.toInt ≤ 48) : 0 ≤ n20.toInt ∧ n20.toInt ≤ 48 := by
  refine ⟨?_, ?_⟩ <;> first | assumption | omega | (subst_vars; omega) | trivial
-- post @194
theorem v_spell_11 (n23 : Int32) (hr21_0 : 0 ≤ n23.toInt) (hr21_1 : n23.toInt ≤ 48) : 0 ≤ n23.toInt ∧ n23.toInt ≤ 48 := by
  refine ⟨?_, ?_⟩ <;> first | assumption | omega | (subst_vars; omega) | trivial
-- post @194
theorem v_spell_12 (n26 : Int32) (hr24_0 : 0 ≤ n26.toInt) (hr24_1 : n26.toInt ≤ 48) : 0 ≤ n26.toInt ∧ n26.toInt ≤ 48 := by
  refine ⟨?_, ?_⟩ <;> first | assumption | omega | (subst_vars; omega) | trivial
-- in@103 @103
theorem v_spell_13 (σ : RS) (k0 : Int32) (x1 : Int32) (x3 : Int32) (x5 : Int32) (x7 : Int32) (hpre_0 : 0 ≤ k0.toInt) (hpre_1 : k0.toInt < 980) (ex1 : x1 = (σ.2.1 51) k0.toNatClampNeg) (tx1 : x1.toInt = ((σ.2.1 51) k0.toNatClampNeg).toInt) (c2 : ¬ x1.toInt = 4) (ex3 : x3 = (σ.2.1 51) k0.toNatClampNeg) (tx3 : x3.toInt = ((σ.2.1 51) k0.toNatClampNeg).toInt) (c4 : ¬ x3.toInt = 2) (ex5 : x5 = (σ.2.1 51) k0.toNatClampNeg) (tx5 : x5.toInt = ((σ.2.1 51) k0.toNatClampNeg).toInt) (c6 : ¬ x5.toInt = 3) (ex7 : x7 = (σ.2.1 51) k0.toNatClampNeg) (tx7 : x7.toInt = ((σ.2.1 51) k0.toNatClampNeg).toInt) (c8 : x7.toInt = 1) : vp_in k0 980 := by
  exact vp_in_iff.mpr ⟨by omega, by omega⟩
-- in@130 @130
theorem v_spell_14 (σ : RS) (k0 : Int32) (x1 : Int32) (x3 : Int32) (x5 : Int32) (x7 : Int32) (x27 : Int64) (x28 : Int32) (hpre_0 : 0 ≤ k0.toInt) (hpre_1 : k0.toInt < 980) (ex1 : x1 = (σ.2.1 51) k0.toNatClampNeg) (tx1 : x1.toInt = ((σ.2.1 51) k0.toNatClampNeg).toInt) (c2 : ¬ x1.toInt = 4) (ex3 : x3 = (σ.2.1 51) k0.toNatClampNeg) (tx3 : x3.toInt = ((σ.2.1 51) k0.toNatClampNeg).toInt) (c4 : ¬ x3.toInt = 2) (ex5 : x5 = (σ.2.1 51) k0.toNatClampNeg) (tx5 : x5.toInt = ((σ.2.1 51) k0.toNatClampNeg).toInt) (c6 : ¬ x5.toInt = 3) (ex7 : x7 = (σ.2.1 51) k0.toNatClampNeg) (tx7 : x7.toInt = ((σ.2.1 51) k0.toNatClampNeg).toInt) (c8 : x7.toInt = 1) (ex27 : x27 = (σ.2.2.1 52) k0.toNatClampNeg) (tx27 : x27.toInt = ((σ.2.2.1 52) k0.toNatClampNeg).toInt) (tx28 : (x28.toInt = 0 ↔ x27.toInt = 1) ∧ (x28.toInt < 0 ↔ x27.toInt < 1)) (c29 : ¬ x28.toInt = 0) : vp_in k0 980 := by
  exact vp_in_iff.mpr ⟨by omega, by omega⟩
-- in@157 @157
theorem v_spell_15 (σ : RS) (k0 : Int32) (x1 : Int32) (x3 : Int32) (x5 : Int32) (x7 : Int32) (x27 : Int64) (x28 : Int32) (x30 : Int32) (hpre_0 : 0 ≤ k0.toInt) (hpre_1 : k0.toInt < 980) (ex1 : x1 = (σ.2.1 51) k0.toNatClampNeg) (tx1 : x1.toInt = ((σ.2.1 51) k0.toNatClampNeg).toInt) (c2 : ¬ x1.toInt = 4) (ex3 : x3 = (σ.2.1 51) k0.toNatClampNeg) (tx3 : x3.toInt = ((σ.2.1 51) k0.toNatClampNeg).toInt) (c4 : ¬ x3.toInt = 2) (ex5 : x5 = (σ.2.1 51) k0.toNatClampNeg) (tx5 : x5.toInt = ((σ.2.1 51) k0.toNatClampNeg).toInt) (c6 : ¬ x5.toInt = 3) (ex7 : x7 = (σ.2.1 51) k0.toNatClampNeg) (tx7 : x7.toInt = ((σ.2.1 51) k0.toNatClampNeg).toInt) (c8 : x7.toInt = 1) (ex27 : x27 = (σ.2.2.1 52) k0.toNatClampNeg) (tx27 : x27.toInt = ((σ.2.2.1 52) k0.toNatClampNeg).toInt) (tx28 : (x28.toInt = 0 ↔ x27.toInt = 1) ∧ (x28.toInt < 0 ↔ x27.toInt < 1)) (c29 : ¬ x28.toInt = 0) (ex30 : x30 = (σ.2.1 51) k0.toNatClampNeg) (tx30 : x30.toInt = ((σ.2.1 51) k0.toNatClampNeg).toInt) (c31 : ¬ x30.toInt = 1) : vp_in k0 980 := by
  exact vp_in_iff.mpr ⟨by omega, by omega⟩
-- in@189 @189
theorem v_spell_16 (σ : RS) (k0 : Int32) (x1 : Int32) (x3 : Int32) (x5 : Int32) (x7 : Int32) (x27 : Int64) (x28 : Int32) (x30 : Int32) (x32 : Int32) (hpre_0 : 0 ≤ k0.toInt) (hpre_1 : k0.toInt < 980) (ex1 : x1 = (σ.2.1 51) k0.toNatClampNeg) (tx1 : x1.toInt = ((σ.2.1 51) k0.toNatClampNeg).toInt) (c2 : ¬ x1.toInt = 4) (ex3 : x3 = (σ.2.1 51) k0.toNatClampNeg) (tx3 : x3.toInt = ((σ.2.1 51) k0.toNatClampNeg).toInt) (c4 : ¬ x3.toInt = 2) (ex5 : x5 = (σ.2.1 51) k0.toNatClampNeg) (tx5 : x5.toInt = ((σ.2.1 51) k0.toNatClampNeg).toInt) (c6 : ¬ x5.toInt = 3) (ex7 : x7 = (σ.2.1 51) k0.toNatClampNeg) (tx7 : x7.toInt = ((σ.2.1 51) k0.toNatClampNeg).toInt) (c8 : x7.toInt = 1) (ex27 : x27 = (σ.2.2.1 52) k0.toNatClampNeg) (tx27 : x27.toInt = ((σ.2.2.1 52) k0.toNatClampNeg).toInt) (tx28 : (x28.toInt = 0 ↔ x27.toInt = 1) ∧ (x28.toInt < 0 ↔ x27.toInt < 1)) (c29 : ¬ x28.toInt = 0) (ex30 : x30 = (σ.2.1 51) k0.toNatClampNeg) (tx30 : x30.toInt = ((σ.2.1 51) k0.toNatClampNeg).toInt) (c31 : ¬ x30.toInt = 1) (ex32 : x32 = (σ.2.1 51) k0.toNatClampNeg) (tx32 : x32.toInt = ((σ.2.1 51) k0.toNatClampNeg).toInt) (c33 : ¬ x32.toInt = 0) : vp_in k0 980 := by
  exact vp_in_iff.mpr ⟨by omega, by omega⟩
-- pre:buildNumber@191 @191
theorem v_spell_17 (n36 : Int32) (hr34_0 : 0 ≤ n36.toInt) (hr34_1 : n36.toInt ≤ 48) : 0 ≤ n36.toInt ∧ n36.toInt ≤ 48 := by
  refine ⟨?_, ?_⟩ <;> first | assumption | omega | (subst_vars; omega) | trivial
-- post @194
theorem v_spell_18 (n41 : Int32) (hr39_0 : 0 ≤ n41.toInt) (hr39_1 : n41.toInt ≤ 48) : 0 ≤ n41.toInt ∧ n41.toInt ≤ 48 := by
  refine ⟨?_, ?_⟩ <;> first | assumption | omega | (subst_vars; omega) | trivial
-- post @194
theorem v_spell_19 (n44 : Int32) (hr42_0 : 0 ≤ n44.toInt) (hr42_1 : n44.toInt ≤ 48) : 0 ≤ n44.toInt ∧ n44.toInt ≤ 48 := by
  refine ⟨?_, ?_⟩ <;> first | assumption | omega | (subst_vars; omega) | trivial
-- post @194
theorem v_spell_20 (n47 : Int32) (hr45_0 : 0 ≤ n47.toInt) (hr45_1 : n47.toInt ≤ 48) : 0 ≤ n47.toInt ∧ n47.toInt ≤ 48 := by
  refine ⟨?_, ?_⟩ <;> first | assumption | omega | (subst_vars; omega) | trivial
-- post @194
theorem v_spell_21 (n50 : Int32) (hr48_0 : 0 ≤ n50.toInt) (hr48_1 : n50.toInt ≤ 48) : 0 ≤ n50.toInt ∧ n50.toInt ≤ 48 := by
  refine ⟨?_, ?_⟩ <;> first | assumption | omega | (subst_vars; omega) | trivial
-- in@80 @80
theorem v_spell_22 (σ : RS) (k0 : Int32) (x1 : Int32) (x3 : Int32) (x5 : Int32) (hpre_0 : 0 ≤ k0.toInt) (hpre_1 : k0.toInt < 980) (ex1 : x1 = (σ.2.1 51) k0.toNatClampNeg) (tx1 : x1.toInt = ((σ.2.1 51) k0.toNatClampNeg).toInt) (c2 : ¬ x1.toInt = 4) (ex3 : x3 = (σ.2.1 51) k0.toNatClampNeg) (tx3 : x3.toInt = ((σ.2.1 51) k0.toNatClampNeg).toInt) (c4 : ¬ x3.toInt = 2) (ex5 : x5 = (σ.2.1 51) k0.toNatClampNeg) (tx5 : x5.toInt = ((σ.2.1 51) k0.toNatClampNeg).toInt) (c6 : x5.toInt = 3) : vp_in k0 980 := by
  exact vp_in_iff.mpr ⟨by omega, by omega⟩
-- post @194
theorem v_spell_23 (n55 : Int32) (hr53_0 : 0 ≤ n55.toInt) (hr53_1 : n55.toInt ≤ 48) : 0 ≤ n55.toInt ∧ n55.toInt ≤ 48 := by
  refine ⟨?_, ?_⟩ <;> first | assumption | omega | (subst_vars; omega) | trivial
-- in@56 @56
theorem v_spell_24 (σ : RS) (k0 : Int32) (x1 : Int32) (x3 : Int32) (hpre_0 : 0 ≤ k0.toInt) (hpre_1 : k0.toInt < 980) (ex1 : x1 = (σ.2.1 51) k0.toNatClampNeg) (tx1 : x1.toInt = ((σ.2.1 51) k0.toNatClampNeg).toInt) (c2 : ¬ x1.toInt = 4) (ex3 : x3 = (σ.2.1 51) k0.toNatClampNeg) (tx3 : x3.toInt = ((σ.2.1 51) k0.toNatClampNeg).toInt) (c4 : x3.toInt = 2) : vp_in k0 980 := by
  exact vp_in_iff.mpr ⟨by omega, by omega⟩
-- post @194
theorem v_spell_25 (n60 : Int32) (hr58_0 : 0 ≤ n60.toInt) (hr58_1 : n60.toInt ≤ 48) : 0 ≤ n60.toInt ∧ n60.toInt ≤ 48 := by
  refine ⟨?_, ?_⟩ <;> first | assumption | omega | (subst_vars; omega) | trivial
-- init@12 @12
theorem v_spell_26 (σ : RS) (hpre_2 : 0 ≤ (σ.1 59).toInt) (hpre_3 : (σ.1 59).toInt ≤ 48) : 0 ≤ (σ.1 59).toInt ∧ (σ.1 59).toInt ≤ 48 ∧ 0 ≤ (0 : Int32).toInt ∧ (0 : Int32).toInt ≤ 130 := by
  have q0 : (0 : Int32).toInt = 0 := by decide +kernel
  refine ⟨?_, ?_, ?_, ?_⟩ <;> first | assumption | omega | (subst_vars; omega) | trivial
-- pre:lengthOf@15 @15
theorem v_spell_27 (σ : RS) (k0 : Int32) (x1 : Int32) (hpre_0 : 0 ≤ k0.toInt) (hpre_1 : k0.toInt < 980) (ex1 : x1 = (σ.2.1 51) k0.toNatClampNeg) (tx1 : x1.toInt = ((σ.2.1 51) k0.toNatClampNeg).toInt) (c2 : x1.toInt = 4) : 0 ≤ k0.toInt ∧ k0.toInt < 980 := by
  refine ⟨?_, ?_⟩ <;> first | assumption | omega | (subst_vars; omega) | trivial
-- post @194
theorem v_spell_28 (n63 : Int32) (hi12_0 : 0 ≤ n63.toInt) (hi12_1 : n63.toInt ≤ 48) : 0 ≤ n63.toInt ∧ n63.toInt ≤ 48 := by
  refine ⟨?_, ?_⟩ <;> first | assumption | omega | (subst_vars; omega) | trivial
-- pre:sign8@25 @25
theorem v_spell_29 (σ : RS) (k0 : Int32) (x1 : Int32) (y61 : Int32) (r64 : Int32) (hpre_0 : 0 ≤ k0.toInt) (hpre_1 : k0.toInt < 980) (ex1 : x1 = (σ.2.1 51) k0.toNatClampNeg) (tx1 : x1.toInt = ((σ.2.1 51) k0.toNatClampNeg).toInt) (c2 : x1.toInt = 4) (hi12_2 : 0 ≤ y61.toInt) (hi12_3 : y61.toInt ≤ 130) (hr64 : r64 = LENF ((σ.2.2.1 52) k0.toNatClampNeg)) (c65 : y61.toInt < r64.toInt) : 0 ≤ k0.toInt ∧ k0.toInt < 980 ∧ 0 ≤ y61.toInt ∧ y61.toInt ≤ 200 := by
  have l_hr64 := LENF_le ((σ.2.2.1 52) k0.toNatClampNeg)
  rw [← hr64] at l_hr64
  refine ⟨?_, ?_, ?_, ?_⟩ <;> first | assumption | omega | (subst_vars; omega) | trivial
-- nw@31 @31
theorem v_spell_30 (σ : RS) (k0 : Int32) (x1 : Int32) (y61 : Int32) (r64 : Int32) (x70 : Int32) (hpre_0 : 0 ≤ k0.toInt) (hpre_1 : k0.toInt < 980) (ex1 : x1 = (σ.2.1 51) k0.toNatClampNeg) (tx1 : x1.toInt = ((σ.2.1 51) k0.toNatClampNeg).toInt) (c2 : x1.toInt = 4) (hi12_2 : 0 ≤ y61.toInt) (hi12_3 : y61.toInt ≤ 130) (hr64 : r64 = LENF ((σ.2.2.1 52) k0.toNatClampNeg)) (c65 : y61.toInt < r64.toInt) (ex70 : x70 = y61 + (1 : Int32)) : x70.toInt = y61.toInt + 1 := by
  have q1 : (1 : Int32).toInt = 1 := by decide +kernel
  have l_hr64 := LENF_le ((σ.2.2.1 52) k0.toNatClampNeg)
  rw [← hr64] at l_hr64
  have z9 : (1 : Int32).toInt = 1 := by decide +kernel
  rw [ex70, z_add (by omega) (by omega)]; first | done | omega
-- inv@12 @12
theorem v_spell_31 (σ : RS) (k0 : Int32) (x1 : Int32) (y61 : Int32) (r64 : Int32) (n69 : Int32) (x70 : Int32) (hpre_0 : 0 ≤ k0.toInt) (hpre_1 : k0.toInt < 980) (ex1 : x1 = (σ.2.1 51) k0.toNatClampNeg) (tx1 : x1.toInt = ((σ.2.1 51) k0.toNatClampNeg).toInt) (c2 : x1.toInt = 4) (hi12_2 : 0 ≤ y61.toInt) (hi12_3 : y61.toInt ≤ 130) (hr64 : r64 = LENF ((σ.2.2.1 52) k0.toNatClampNeg)) (c65 : y61.toInt < r64.toInt) (hr67_0 : 0 ≤ n69.toInt) (hr67_1 : n69.toInt ≤ 48) (ex70 : x70 = y61 + (1 : Int32)) (tx70 : x70.toInt = y61.toInt + 1) : 0 ≤ n69.toInt ∧ n69.toInt ≤ 48 ∧ 0 ≤ x70.toInt ∧ x70.toInt ≤ 130 := by
  have q1 : (1 : Int32).toInt = 1 := by decide +kernel
  have l_hr64 := LENF_le ((σ.2.2.1 52) k0.toNatClampNeg)
  rw [← hr64] at l_hr64
  refine ⟨?_, ?_, ?_, ?_⟩ <;> first | assumption | omega | (subst_vars; omega) | trivial
-- meas@12 @12
theorem v_spell_32 (σ : RS) (k0 : Int32) (x1 : Int32) (y61 : Int32) (r64 : Int32) (x70 : Int32) (hpre_0 : 0 ≤ k0.toInt) (hpre_1 : k0.toInt < 980) (ex1 : x1 = (σ.2.1 51) k0.toNatClampNeg) (tx1 : x1.toInt = ((σ.2.1 51) k0.toNatClampNeg).toInt) (c2 : x1.toInt = 4) (hi12_2 : 0 ≤ y61.toInt) (hi12_3 : y61.toInt ≤ 130) (hr64 : r64 = LENF ((σ.2.2.1 52) k0.toNatClampNeg)) (c65 : y61.toInt < r64.toInt) (ex70 : x70 = y61 + (1 : Int32)) (tx70 : x70.toInt = y61.toInt + 1) : (130 - x70.toInt).toNat < (130 - y61.toInt).toNat := by
  have q1 : (1 : Int32).toInt = 1 := by decide +kernel
  have l_hr64 := LENF_le ((σ.2.2.1 52) k0.toNatClampNeg)
  rw [← hr64] at l_hr64
  first | assumption | omega | (subst_vars; omega) | trivial
set_option maxHeartbeats 4000000 in
set_option maxRecDepth 100000 in
theorem L_spell_12_1 {p : Program} {e : Env} {s : State} {m : MethodId} {below : List Frame} {meth : Method} {c : Code} (l : Launch) (D : va_G) (cy : Nat → ClassId) (sz0 : Nat) (sa : Nat → Nat) (ad : Nat → Nat) (sz : Nat) (σ : RS) (k0 : Int32) (x1 : Int32) (C : RC p s m #[.ref (ad 0), .int k0] meth c cX12_spell 3 none D cy sz0 sa ad (AR cy ad sz)) (hpre_0 : 0 ≤ k0.toInt) (hpre_1 : k0.toInt < 980) (hpre_2 : 0 ≤ (σ.1 59).toInt) (hpre_3 : (σ.1 59).toInt ≤ 48) (ex1 : x1 = (σ.2.1 51) k0.toNatClampNeg) (tx1 : x1.toInt = ((σ.2.1 51) k0.toNatClampNeg).toInt) (c2 : x1.toInt = 4) : ∀ (n : Nat) (y61 : Int32) (F62 : (Nat → Int32)) (n63 : Int32) (H : Heap) (locs : List Loc) (ls : Array Slot), (130 - y61.toInt).toNat < n → (0 ≤ n63.toInt ∧ n63.toInt ≤ 48 ∧ 0 ≤ y61.toInt ∧ y61.toInt ≤ 130) → RP D cy ad (rS (rA σ 58 F62) 59 n63) H → va_S (AR cy ad sz) s.heap H locs → lv_has ls 3 [(2, .int y61), (0, .ref (ad 0)), (1, .int k0)] → W p l e (headSpec (Cond.code yX12_spell cX12_spell 3 none :: GWm) ({ frames := 2, cells := 0, slots := 0, locals := 47 })).room s m #[.ref (ad 0), .int k0] below meth c H locs 0 0 (MQ below (va_Qv (fun (u : (Nat → Int32) × Int32) => 0 ≤ u.2.toInt ∧ u.2.toInt ≤ 48) (fun (u : (Nat → Int32) × Int32) (t : State) => RP D cy ad (rS (rA σ 58 u.1) 59 u.2) t.heap) (AR cy ad sz)) #[.ref (ad 0), .int k0] s 0 0 (AR cy ad sz)) (F0 m 12 ls []) := by
  have hx := C.1
  have hb := C.2.1
  have hown := C.2.2.2.2.1
  have hw := C.2.2.2.2.2.1
  intro n
  induction n with
  | zero => intro y61 F62 n63 H locs ls hn; exact absurd hn (Nat.not_lt_zero _)
  | succ n ih12 =>
    intro y61 F62 n63 H locs ls hn12 hi12 hP hS hl
    obtain ⟨hi12_0, hi12_1, hi12_2, hi12_3⟩ := hi12
    refine lv_iload_n hx hb dX12_spell_12 rfl (lv_at hl 0 rfl) ?_
    refine lv_aload_n hx hb dX12_spell_13 rfl (lv_at hl 1 rfl) ?_
    refine lv_iload_n hx hb dX12_spell_14 rfl (lv_at hl 2 rfl) ?_
    refine r_callVi (As := [.int k0]) (rest := [.int y61]) C hP hS hl.1 ⟨Nat.zero_le _, Nat.zero_le _⟩ (M_lengthOf l D cy sz0 sa ad (rS (rA σ 58 F62) 59 n63) H.size k0 (v_spell_27 σ k0 x1 hpre_0 hpre_1 ex1 tx1 c2)) (n := 1) ⟨wm_228, wm_216, by decide +kernel⟩ ⟨wm_229, wm_230, wm_10⟩ rfl rfl (lv_room (Nat.le_of_ble_eq_true rfl)) ⟨Nat.le_of_ble_eq_true rfl, Nat.le_of_ble_eq_true rfl⟩ dX12_spell_15 (fun r64 u H locs hr64 hP hS => ?_)
    have hr64 : r64 = LENF ((σ.2.2.1 52) k0.toNatClampNeg) := hr64
    refine lv_icmp_ge (tgt := 37) hx hb dX12_spell_18 (by decide) (fun c65 => ?_) (fun c65 => ?_)
    · have c65 : r64.toInt ≤ y61.toInt := by have h := z_le c65; exact h
      refine lv_goto (tgt := 194) hx hb dX12_spell_37 (by decide) ?_
      exact r_retv C ⟨F62, n63⟩ (v_spell_28 n63 hi12_0 hi12_1) hP hS dX12_spell_194
    · have c65 : y61.toInt < r64.toInt := by have h := z_nle c65; exact h
      refine lv_aload_n hx hb dX12_spell_21 rfl (lv_at hl 1 rfl) ?_
      refine lv_aload_n hx hb dX12_spell_22 rfl (lv_at hl 1 rfl) ?_
      refine lv_iload_n hx hb dX12_spell_23 rfl (lv_at hl 2 rfl) ?_
      refine lv_iload_n hx hb dX12_spell_24 rfl (lv_at hl 0 rfl) ?_
      refine r_callVi (As := [.int k0, .int y61]) (rest := [.ref (ad 0)]) C hP hS hl.1 ⟨Nat.zero_le _, Nat.zero_le _⟩ (M_sign8 l D cy sz0 sa ad (rS (rA σ 58 F62) 59 n63) H.size k0 y61 (v_spell_29 σ k0 x1 y61 r64 hpre_0 hpre_1 ex1 tx1 c2 hi12_2 hi12_3 hr64 c65)) (n := 2) ⟨wm_231, wm_217, by decide +kernel⟩ ⟨wm_232, wm_233, wm_10⟩ rfl rfl (lv_room (Nat.le_of_ble_eq_true rfl)) ⟨Nat.le_of_ble_eq_true rfl, Nat.le_of_ble_eq_true rfl⟩ dX12_spell_25 (fun r66 u H locs hr66 hP hS => ?_)
      have hr66 : True := hr66
      refine r_callVv (As := [.int r66]) (rest := []) C hP hS hl.1 ⟨Nat.zero_le _, Nat.zero_le _⟩ (M_build l D cy sz0 sa ad (rS (rA σ 58 F62) 59 n63) H.size r66 (v_spell_28 n63 hi12_0 hi12_1)) (n := 1) ⟨wm_223, wm_219, by decide +kernel⟩ ⟨wm_224, wm_225, wm_10⟩ rfl rfl (lv_room (Nat.le_of_ble_eq_true rfl)) ⟨Nat.le_of_ble_eq_true rfl, Nat.le_of_ble_eq_true rfl⟩ dX12_spell_28 (fun u H locs hr67 hP hS => ?_)
      obtain ⟨F68, n69⟩ := u
      have hr67 : 0 ≤ n69.toInt ∧ n69.toInt ≤ 48 := hr67
      obtain ⟨hr67_0, hr67_1⟩ := hr67
      have hP : RP D cy ad (rS (rA (rS (rA σ 58 F62) 59 n63) 58 F68) 59 n69) H := hP
      obtain ⟨x70, ex70⟩ : ∃ y : Int32, y = y61 + (1 : Int32) := ⟨_, rfl⟩
      have tx70 : x70.toInt = y61.toInt + 1 := (v_spell_30 σ k0 x1 y61 r64 x70 hpre_0 hpre_1 ex1 tx1 c2 hi12_2 hi12_3 hr64 c65 ex70)
      refine lv_iinc (v := x70) (lv' := [(2, .int x70), (0, .ref (ad 0)), (1, .int k0)]) hx hb dX12_spell_31 hl (k := 0) rfl (by rw [ex70]; rfl) (by decide) rfl (fun ls hl => ?_)
      refine lv_goto (tgt := 12) hx hb dX12_spell_34 (by decide) ?_
      have hP : RP D cy ad (rS (rA σ 58 F68) 59 n69) H := RP.cong hP (Eq.trans (b := (σ.1 0)) rfl rfl) (Eq.trans (b := (σ.1 1)) rfl rfl) (Eq.trans (b := (σ.2.1 2)) rfl rfl) (Eq.trans (b := (σ.1 3)) rfl rfl) (Eq.trans (b := (σ.2.1 4)) rfl rfl) (Eq.trans (b := (σ.2.1 5)) rfl rfl) (Eq.trans (b := (σ.2.2.1 6)) rfl rfl) (Eq.trans (b := (σ.2.1 7)) rfl rfl) (Eq.trans (b := (σ.1 8)) rfl rfl) (Eq.trans (b := (σ.1 9)) rfl rfl) (Eq.trans (b := (σ.1 10)) rfl rfl) (Eq.trans (b := (σ.2.1 11)) rfl rfl) (Eq.trans (b := (σ.2.2.1 12)) rfl rfl) (Eq.trans (b := (σ.2.1 13)) rfl rfl) (Eq.trans (b := (σ.1 14)) rfl rfl) (Eq.trans (b := (σ.1 15)) rfl rfl) (Eq.trans (b := (σ.1 16)) rfl rfl) (Eq.trans (b := (σ.1 17)) rfl rfl) (Eq.trans (b := (σ.1 18)) rfl rfl) (Eq.trans (b := (σ.1 19)) rfl rfl) (Eq.trans (b := (σ.2.1 20)) rfl rfl) (Eq.trans (b := (σ.2.1 21)) rfl rfl) (Eq.trans (b := (σ.2.1 22)) rfl rfl) (Eq.trans (b := (σ.2.1 23)) rfl rfl) (Eq.trans (b := (σ.2.1 24)) rfl rfl) (Eq.trans (b := (σ.2.1 25)) rfl rfl) (Eq.trans (b := (σ.2.1 26)) rfl rfl) (Eq.trans (b := (σ.2.1 27)) rfl rfl) (Eq.trans (b := (σ.2.1 28)) rfl rfl) (Eq.trans (b := (σ.1 29)) rfl rfl) (Eq.trans (b := (σ.2.1 30)) rfl rfl) (Eq.trans (b := (σ.2.1 31)) rfl rfl) (Eq.trans (b := (σ.2.1 32)) rfl rfl) (Eq.trans (b := (σ.1 33)) rfl rfl) (Eq.trans (b := (σ.1 34)) rfl rfl) (Eq.trans (b := (σ.1 35)) rfl rfl) (Eq.trans (b := (σ.2.1 36)) rfl rfl) (Eq.trans (b := (σ.2.1 37)) rfl rfl) (Eq.trans (b := (σ.2.1 38)) rfl rfl) (Eq.trans (b := (σ.2.1 39)) rfl rfl) (Eq.trans (b := (σ.2.1 40)) rfl rfl) (Eq.trans (b := (σ.2.1 41)) rfl rfl) (Eq.trans (b := (σ.2.1 42)) rfl rfl) (Eq.trans (b := (σ.2.1 43)) rfl rfl) (Eq.trans (b := (σ.2.1 44)) rfl rfl) (Eq.trans (b := (σ.2.1 45)) rfl rfl) (Eq.trans (b := (σ.2.1 46)) rfl rfl) (Eq.trans (b := (σ.1 47)) rfl rfl) (Eq.trans (b := (σ.2.1 48)) rfl rfl) (Eq.trans (b := (σ.1 49)) rfl rfl) (Eq.trans (b := (σ.2.1 50)) rfl rfl) (Eq.trans (b := (σ.2.1 51)) rfl rfl) (Eq.trans (b := (σ.2.2.1 52)) rfl rfl) (Eq.trans (b := (σ.2.2.1 53)) rfl rfl) (Eq.trans (b := (σ.2.2.2)) rfl rfl) (Eq.trans (b := (σ.1 55)) rfl rfl) (Eq.trans (b := (σ.1 56)) rfl rfl) (Eq.trans (b := (σ.1 57)) rfl rfl) (Eq.trans (b := F68) rfl rfl) (Eq.trans (b := n69) rfl rfl)
      exact ih12 x70 F68 n69 _ _ _ (Nat.lt_of_lt_of_le (v_spell_32 σ k0 x1 y61 r64 x70 hpre_0 hpre_1 ex1 tx1 c2 hi12_2 hi12_3 hr64 c65 ex70 tx70) (Nat.le_of_lt_succ hn12)) (v_spell_31 σ k0 x1 y61 r64 n69 x70 hpre_0 hpre_1 ex1 tx1 c2 hi12_2 hi12_3 hr64 c65 hr67_0 hr67_1 ex70 tx70) hP hS (lv_sub hl [0, 1, 2] rfl)
set_option maxHeartbeats 4000000 in
set_option maxRecDepth 100000 in
theorem M_spell (l : Launch) (D : va_G) (cy : Nat → ClassId) (sz0 : Nat) (sa : Nat → Nat) (ad : Nat → Nat) (σ : RS) (sz : Nat) (k0 : Int32) (hpre : 0 ≤ k0.toInt ∧ k0.toInt < 980 ∧ 0 ≤ (σ.1 59).toInt ∧ (σ.1 59).toInt ≤ 48) : Met l yX12_spell (Cond.code yX12_spell cX12_spell 3 none :: GWm) ({ frames := 2, cells := 0, slots := 0, locals := 47 }) (PcR D cy sz0 sa ad [.ref (ad 0), .int k0] σ sz) (va_Qv (fun (u : (Nat → Int32) × Int32) => 0 ≤ u.2.toInt ∧ u.2.toInt ≤ 48) (fun (u : (Nat → Int32) × Int32) (t : State) => RP D cy ad (rS (rA σ 58 u.1) 59 u.2) t.heap) (AR cy ad sz)) 0 0 (AR cy ad sz) := by
  refine RM_of (loc0 := [(0, .ref (ad 0)), (1, .int k0)]) (by decide) rfl rfl (Nat.le_of_ble_eq_true rfl) ?_
  intro p e s m below meth c ls hsz C hP hS hl
  have hx := C.1
  have hb := C.2.1
  have hown := C.2.2.2.2.1
  have hw := C.2.2.2.2.2.1
  clear hsz
  obtain ⟨hpre_0, hpre_1, hpre_2, hpre_3⟩ := hpre
  refine lv_aload_n hx hb dX12_spell_0 rfl (lv_at hl 0 rfl) ?_
  refine rg_51 C hP wm_205 dX12_spell_1 ?_
  refine lv_iload_n hx hb dX12_spell_4 rfl (lv_at hl 1 rfl) ?_
  refine ra_51 (f := (σ.2.1 51)) C hP rfl (v_spell_1 k0 hpre_0 hpre_1) dX12_spell_5 (fun x1 ex1 => ?_)
  have tx1 : x1.toInt = ((σ.2.1 51) k0.toNatClampNeg).toInt := by rw [ex1]
  refine lv_iconst (v := 4) hx hb dX12_spell_6 (by decide +kernel) ?_
  refine lv_icmp_ne (tgt := 40) hx hb dX12_spell_7 (by decide) (fun c2 => ?_) (fun c2 => ?_)
  · have c2 : ¬ x1.toInt = 4 := by have h := z_ne c2; rw [show (4 : Int32).toInt = 4 from by decide +kernel] at h; exact h
    refine lv_aload_n hx hb dX12_spell_40 rfl (lv_at hl 0 rfl) ?_
    refine rg_51 C hP wm_205 dX12_spell_41 ?_
    refine lv_iload_n hx hb dX12_spell_44 rfl (lv_at hl 1 rfl) ?_
    refine ra_51 (f := (σ.2.1 51)) C hP rfl (v_spell_2 σ k0 x1 hpre_0 hpre_1 ex1 tx1 c2) dX12_spell_45 (fun x3 ex3 => ?_)
    have tx3 : x3.toInt = ((σ.2.1 51) k0.toNatClampNeg).toInt := by rw [ex3]
    refine lv_iconst (v := 2) hx hb dX12_spell_46 (by decide +kernel) ?_
    refine lv_icmp_ne (tgt := 64) hx hb dX12_spell_47 (by decide) (fun c4 => ?_) (fun c4 => ?_)
    · have c4 : ¬ x3.toInt = 2 := by have h := z_ne c4; rw [show (2 : Int32).toInt = 2 from by decide +kernel] at h; exact h
      refine lv_aload_n hx hb dX12_spell_64 rfl (lv_at hl 0 rfl) ?_
      refine rg_51 C hP wm_205 dX12_spell_65 ?_
      refine lv_iload_n hx hb dX12_spell_68 rfl (lv_at hl 1 rfl) ?_
      refine ra_51 (f := (σ.2.1 51)) C hP rfl (v_spell_3 σ k0 x1 x3 hpre_0 hpre_1 ex1 tx1 c2 ex3 tx3 c4) dX12_spell_69 (fun x5 ex5 => ?_)
      have tx5 : x5.toInt = ((σ.2.1 51) k0.toNatClampNeg).toInt := by rw [ex5]
      refine lv_iconst (v := 3) hx hb dX12_spell_70 (by decide +kernel) ?_
      refine lv_icmp_ne (tgt := 88) hx hb dX12_spell_71 (by decide) (fun c6 => ?_) (fun c6 => ?_)
      · have c6 : ¬ x5.toInt = 3 := by have h := z_ne c6; rw [show (3 : Int32).toInt = 3 from by decide +kernel] at h; exact h
        refine lv_aload_n hx hb dX12_spell_88 rfl (lv_at hl 0 rfl) ?_
        refine rg_51 C hP wm_205 dX12_spell_89 ?_
        refine lv_iload_n hx hb dX12_spell_92 rfl (lv_at hl 1 rfl) ?_
        refine ra_51 (f := (σ.2.1 51)) C hP rfl (v_spell_4 σ k0 x1 x3 x5 hpre_0 hpre_1 ex1 tx1 c2 ex3 tx3 c4 ex5 tx5 c6) dX12_spell_93 (fun x7 ex7 => ?_)
        have tx7 : x7.toInt = ((σ.2.1 51) k0.toNatClampNeg).toInt := by rw [ex7]
        refine lv_iconst (v := 1) hx hb dX12_spell_94 (by decide +kernel) ?_
        refine lv_icmp_ne (tgt := 125) hx hb dX12_spell_95 (by decide) (fun c8 => ?_) (fun c8 => ?_)
        · have c8 : ¬ x7.toInt = 1 := by have h := z_ne c8; rw [show (1 : Int32).toInt = 1 from by decide +kernel] at h; exact h
          refine lv_aload_n hx hb dX12_spell_125 rfl (lv_at hl 0 rfl) ?_
          refine rg_51 C hP wm_205 dX12_spell_126 ?_
          refine lv_iload_n hx hb dX12_spell_129 rfl (lv_at hl 1 rfl) ?_
          refine ra_51 (f := (σ.2.1 51)) C hP rfl (v_spell_5 σ k0 x1 x3 x5 x7 hpre_0 hpre_1 ex1 tx1 c2 ex3 tx3 c4 ex5 tx5 c6 ex7 tx7 c8) dX12_spell_130 (fun x9 ex9 => ?_)
          have tx9 : x9.toInt = ((σ.2.1 51) k0.toNatClampNeg).toInt := by rw [ex9]
          refine lv_iconst (v := 1) hx hb dX12_spell_131 (by decide +kernel) ?_
          refine lv_icmp_ne (tgt := 152) hx hb dX12_spell_132 (by decide) (fun c10 => ?_) (fun c10 => ?_)
          · have c10 : ¬ x9.toInt = 1 := by have h := z_ne c10; rw [show (1 : Int32).toInt = 1 from by decide +kernel] at h; exact h
            refine lv_aload_n hx hb dX12_spell_152 rfl (lv_at hl 0 rfl) ?_
            refine rg_51 C hP wm_205 dX12_spell_153 ?_
            refine lv_iload_n hx hb dX12_spell_156 rfl (lv_at hl 1 rfl) ?_
            refine ra_51 (f := (σ.2.1 51)) C hP rfl (v_spell_6 σ k0 x1 x3 x5 x7 x9 hpre_0 hpre_1 ex1 tx1 c2 ex3 tx3 c4 ex5 tx5 c6 ex7 tx7 c8 ex9 tx9 c10) dX12_spell_157 (fun x11 ex11 => ?_)
            have tx11 : x11.toInt = ((σ.2.1 51) k0.toNatClampNeg).toInt := by rw [ex11]
            refine lv_if_ne (tgt := 177) hx hb dX12_spell_158 (by decide) (fun c12 => ?_) (fun c12 => ?_)
            · have c12 : ¬ x11.toInt = 0 := by have h := z_ne c12; rw [show (0 : Int32).toInt = 0 from by decide +kernel] at h; exact h
              refine lv_aload_n hx hb dX12_spell_177 rfl (lv_at hl 0 rfl) ?_
              refine lv_bipush (v := 111) hx hb dX12_spell_178 (by decide +kernel) ?_
              refine r_callVv (As := [.int 111]) (rest := []) C hP hS hl.1 ⟨Nat.zero_le _, Nat.zero_le _⟩ (M_build l D cy sz0 sa ad σ s.heap.size (111 : Int32) (v_spell_7 σ hpre_2 hpre_3)) (n := 1) ⟨wm_223, wm_219, by decide +kernel⟩ ⟨wm_224, wm_225, wm_10⟩ rfl rfl (lv_room (Nat.le_of_ble_eq_true rfl)) ⟨Nat.le_of_ble_eq_true rfl, Nat.le_of_ble_eq_true rfl⟩ dX12_spell_180 (fun u H locs hr13 hP hS => ?_)
              obtain ⟨F14, n15⟩ := u
              have hr13 : 0 ≤ n15.toInt ∧ n15.toInt ≤ 48 := hr13
              obtain ⟨hr13_0, hr13_1⟩ := hr13
              have hP : RP D cy ad (rS (rA σ 58 F14) 59 n15) H := hP
              refine lv_aload_n hx hb dX12_spell_183 rfl (lv_at hl 0 rfl) ?_
              refine lv_aload_n hx hb dX12_spell_184 rfl (lv_at hl 0 rfl) ?_
              refine rg_52 C hP wm_206 dX12_spell_185 ?_
              refine lv_iload_n hx hb dX12_spell_188 rfl (lv_at hl 1 rfl) ?_
              refine ra_52 (f := (σ.2.2.1 52)) C hP rfl (v_spell_8 σ k0 x1 x3 x5 x7 x9 x11 hpre_0 hpre_1 ex1 tx1 c2 ex3 tx3 c4 ex5 tx5 c6 ex7 tx7 c8 ex9 tx9 c10 ex11 tx11 c12) dX12_spell_189 (fun x16 ex16 => ?_)
              have tx16 : x16.toInt = ((σ.2.2.1 52) k0.toNatClampNeg).toInt := by rw [ex16]
              refine lv_l2i hx hb dX12_spell_190 rfl ?_
              refine lv_topi (fun x17 ex17 => ?_)
              have tx17 : -2147483648 ≤ x16.toInt → x16.toInt < 2147483648 → x17.toInt = x16.toInt := z_l2i ex17
              refine r_callVv (As := [.int x17]) (rest := []) C hP hS hl.1 ⟨Nat.zero_le _, Nat.zero_le _⟩ (M_buildNumber l D cy sz0 sa ad (rS (rA σ 58 F14) 59 n15) H.size x17 (v_spell_9 n15 hr13_0 hr13_1)) (n := 1) ⟨wm_234, wm_222, by decide +kernel⟩ ⟨wm_235, wm_236, wm_10⟩ rfl rfl (lv_room (Nat.le_of_ble_eq_true rfl)) ⟨Nat.le_of_ble_eq_true rfl, Nat.le_of_ble_eq_true rfl⟩ dX12_spell_191 (fun u H locs hr18 hP hS => ?_)
              obtain ⟨F19, n20⟩ := u
              have hr18 : 0 ≤ n20.toInt ∧ n20.toInt ≤ 48 := hr18
              obtain ⟨hr18_0, hr18_1⟩ := hr18
              have hP : RP D cy ad (rS (rA (rS (rA σ 58 F14) 59 n15) 58 F19) 59 n20) H := hP
              have hP : RP D cy ad (rS (rA σ 58 F19) 59 n20) H := RP.cong hP (Eq.trans (b := (σ.1 0)) rfl rfl) (Eq.trans (b := (σ.1 1)) rfl rfl) (Eq.trans (b := (σ.2.1 2)) rfl rfl) (Eq.trans (b := (σ.1 3)) rfl rfl) (Eq.trans (b := (σ.2.1 4)) rfl rfl) (Eq.trans (b := (σ.2.1 5)) rfl rfl) (Eq.trans (b := (σ.2.2.1 6)) rfl rfl) (Eq.trans (b := (σ.2.1 7)) rfl rfl) (Eq.trans (b := (σ.1 8)) rfl rfl) (Eq.trans (b := (σ.1 9)) rfl rfl) (Eq.trans (b := (σ.1 10)) rfl rfl) (Eq.trans (b := (σ.2.1 11)) rfl rfl) (Eq.trans (b := (σ.2.2.1 12)) rfl rfl) (Eq.trans (b := (σ.2.1 13)) rfl rfl) (Eq.trans (b := (σ.1 14)) rfl rfl) (Eq.trans (b := (σ.1 15)) rfl rfl) (Eq.trans (b := (σ.1 16)) rfl rfl) (Eq.trans (b := (σ.1 17)) rfl rfl) (Eq.trans (b := (σ.1 18)) rfl rfl) (Eq.trans (b := (σ.1 19)) rfl rfl) (Eq.trans (b := (σ.2.1 20)) rfl rfl) (Eq.trans (b := (σ.2.1 21)) rfl rfl) (Eq.trans (b := (σ.2.1 22)) rfl rfl) (Eq.trans (b := (σ.2.1 23)) rfl rfl) (Eq.trans (b := (σ.2.1 24)) rfl rfl) (Eq.trans (b := (σ.2.1 25)) rfl rfl) (Eq.trans (b := (σ.2.1 26)) rfl rfl) (Eq.trans (b := (σ.2.1 27)) rfl rfl) (Eq.trans (b := (σ.2.1 28)) rfl rfl) (Eq.trans (b := (σ.1 29)) rfl rfl) (Eq.trans (b := (σ.2.1 30)) rfl rfl) (Eq.trans (b := (σ.2.1 31)) rfl rfl) (Eq.trans (b := (σ.2.1 32)) rfl rfl) (Eq.trans (b := (σ.1 33)) rfl rfl) (Eq.trans (b := (σ.1 34)) rfl rfl) (Eq.trans (b := (σ.1 35)) rfl rfl) (Eq.trans (b := (σ.2.1 36)) rfl rfl) (Eq.trans (b := (σ.2.1 37)) rfl rfl) (Eq.trans (b := (σ.2.1 38)) rfl rfl) (Eq.trans (b := (σ.2.1 39)) rfl rfl) (Eq.trans (b := (σ.2.1 40)) rfl rfl) (Eq.trans (b := (σ.2.1 41)) rfl rfl) (Eq.trans (b := (σ.2.1 42)) rfl rfl) (Eq.trans (b := (σ.2.1 43)) rfl rfl) (Eq.trans (b := (σ.2.1 44)) rfl rfl) (Eq.trans (b := (σ.2.1 45)) rfl rfl) (Eq.trans (b := (σ.2.1 46)) rfl rfl) (Eq.trans (b := (σ.1 47)) rfl rfl) (Eq.trans (b := (σ.2.1 48)) rfl rfl) (Eq.trans (b := (σ.1 49)) rfl rfl) (Eq.trans (b := (σ.2.1 50)) rfl rfl) (Eq.trans (b := (σ.2.1 51)) rfl rfl) (Eq.trans (b := (σ.2.2.1 52)) rfl rfl) (Eq.trans (b := (σ.2.2.1 53)) rfl rfl) (Eq.trans (b := (σ.2.2.2)) rfl rfl) (Eq.trans (b := (σ.1 55)) rfl rfl) (Eq.trans (b := (σ.1 56)) rfl rfl) (Eq.trans (b := (σ.1 57)) rfl rfl) (Eq.trans (b := F19) rfl rfl) (Eq.trans (b := n20) rfl rfl)
              exact r_retv C ⟨F19, n20⟩ (v_spell_10 n20 hr18_0 hr18_1) hP hS dX12_spell_194
            · have c12 : x11.toInt = 0 := by have h := z_eq c12; rw [show (0 : Int32).toInt = 0 from by decide +kernel] at h; exact h
              refine lv_aload_n hx hb dX12_spell_161 rfl (lv_at hl 0 rfl) ?_
              refine lv_bipush (v := 110) hx hb dX12_spell_162 (by decide +kernel) ?_
              refine lv_bipush (v := 117) hx hb dX12_spell_164 (by decide +kernel) ?_
              refine lv_bipush (v := 108) hx hb dX12_spell_166 (by decide +kernel) ?_
              refine lv_bipush (v := 108) hx hb dX12_spell_168 (by decide +kernel) ?_
              refine lv_iconst (v := 0) hx hb dX12_spell_170 (by decide +kernel) ?_
              refine r_callVv (As := [.int 110, .int 117, .int 108, .int 108, .int 0]) (rest := []) C hP hS hl.1 ⟨Nat.zero_le _, Nat.zero_le _⟩ (M_buildWord l D cy sz0 sa ad σ s.heap.size (110 : Int32) (117 : Int32) (108 : Int32) (108 : Int32) (0 : Int32) (v_spell_7 σ hpre_2 hpre_3)) (n := 5) ⟨wm_237, wm_226, by decide +kernel⟩ ⟨wm_238, wm_239, wm_10⟩ rfl rfl (lv_room (Nat.le_of_ble_eq_true rfl)) ⟨Nat.le_of_ble_eq_true rfl, Nat.le_of_ble_eq_true rfl⟩ dX12_spell_171 (fun u H locs hr21 hP hS => ?_)
              obtain ⟨F22, n23⟩ := u
              have hr21 : 0 ≤ n23.toInt ∧ n23.toInt ≤ 48 := hr21
              obtain ⟨hr21_0, hr21_1⟩ := hr21
              have hP : RP D cy ad (rS (rA σ 58 F22) 59 n23) H := hP
              refine lv_goto (tgt := 194) hx hb dX12_spell_174 (by decide) ?_
              exact r_retv C ⟨F22, n23⟩ (v_spell_11 n23 hr21_0 hr21_1) hP hS dX12_spell_194
          · have c10 : x9.toInt = 1 := by have h := z_eq c10; rw [show (1 : Int32).toInt = 1 from by decide +kernel] at h; exact h
            refine lv_aload_n hx hb dX12_spell_135 rfl (lv_at hl 0 rfl) ?_
            refine lv_bipush (v := 102) hx hb dX12_spell_136 (by decide +kernel) ?_
            refine lv_bipush (v := 97) hx hb dX12_spell_138 (by decide +kernel) ?_
            refine lv_bipush (v := 108) hx hb dX12_spell_140 (by decide +kernel) ?_
            refine lv_bipush (v := 115) hx hb dX12_spell_142 (by decide +kernel) ?_
            refine lv_bipush (v := 101) hx hb dX12_spell_144 (by decide +kernel) ?_
            refine r_callVv (As := [.int 102, .int 97, .int 108, .int 115, .int 101]) (rest := []) C hP hS hl.1 ⟨Nat.zero_le _, Nat.zero_le _⟩ (M_buildWord l D cy sz0 sa ad σ s.heap.size (102 : Int32) (97 : Int32) (108 : Int32) (115 : Int32) (101 : Int32) (v_spell_7 σ hpre_2 hpre_3)) (n := 5) ⟨wm_237, wm_226, by decide +kernel⟩ ⟨wm_238, wm_239, wm_10⟩ rfl rfl (lv_room (Nat.le_of_ble_eq_true rfl)) ⟨Nat.le_of_ble_eq_true rfl, Nat.le_of_ble_eq_true rfl⟩ dX12_spell_146 (fun u H locs hr24 hP hS => ?_)
            obtain ⟨F25, n26⟩ := u
            have hr24 : 0 ≤ n26.toInt ∧ n26.toInt ≤ 48 := hr24
            obtain ⟨hr24_0, hr24_1⟩ := hr24
            have hP : RP D cy ad (rS (rA σ 58 F25) 59 n26) H := hP
            refine lv_goto (tgt := 194) hx hb dX12_spell_149 (by decide) ?_
            exact r_retv C ⟨F25, n26⟩ (v_spell_12 n26 hr24_0 hr24_1) hP hS dX12_spell_194
        · have c8 : x7.toInt = 1 := by have h := z_eq c8; rw [show (1 : Int32).toInt = 1 from by decide +kernel] at h; exact h
          refine lv_aload_n hx hb dX12_spell_98 rfl (lv_at hl 0 rfl) ?_
          refine rg_52 C hP wm_206 dX12_spell_99 ?_
          refine lv_iload_n hx hb dX12_spell_102 rfl (lv_at hl 1 rfl) ?_
          refine ra_52 (f := (σ.2.2.1 52)) C hP rfl (v_spell_13 σ k0 x1 x3 x5 x7 hpre_0 hpre_1 ex1 tx1 c2 ex3 tx3 c4 ex5 tx5 c6 ex7 tx7 c8) dX12_spell_103 (fun x27 ex27 => ?_)
          have tx27 : x27.toInt = ((σ.2.2.1 52) k0.toNatClampNeg).toInt := by rw [ex27]
          refine lv_lconst (v := 1) hx hb dX12_spell_104 rfl ?_
          refine W.lcmp hx hb dX12_spell_105 ?_
          refine lv_topi (fun x28 ex28 => ?_)
          have tx28 : (x28.toInt = 0 ↔ x27.toInt = 1) ∧ (x28.toInt < 0 ↔ x27.toInt < 1) := z_lcmp ex28 rfl (by decide +kernel)
          refine lv_if_ne (tgt := 125) hx hb dX12_spell_106 (by decide) (fun c29 => ?_) (fun c29 => ?_)
          · have c29 : ¬ x28.toInt = 0 := by have h := z_ne c29; rw [show (0 : Int32).toInt = 0 from by decide +kernel] at h; exact h
            refine lv_aload_n hx hb dX12_spell_125 rfl (lv_at hl 0 rfl) ?_
            refine rg_51 C hP wm_205 dX12_spell_126 ?_
            refine lv_iload_n hx hb dX12_spell_129 rfl (lv_at hl 1 rfl) ?_
            refine ra_51 (f := (σ.2.1 51)) C hP rfl (v_spell_14 σ k0 x1 x3 x5 x7 x27 x28 hpre_0 hpre_1 ex1 tx1 c2 ex3 tx3 c4 ex5 tx5 c6 ex7 tx7 c8 ex27 tx27 tx28 c29) dX12_spell_130 (fun x30 ex30 => ?_)
            have tx30 : x30.toInt = ((σ.2.1 51) k0.toNatClampNeg).toInt := by rw [ex30]
            refine lv_iconst (v := 1) hx hb dX12_spell_131 (by decide +kernel) ?_
            refine lv_icmp_ne (tgt := 152) hx hb dX12_spell_132 (by decide) (fun c31 => ?_) (fun c31 => ?_)
            · have c31 : ¬ x30.toInt = 1 := by have h := z_ne c31; rw [show (1 : Int32).toInt = 1 from by decide +kernel] at h; exact h
              refine lv_aload_n hx hb dX12_spell_152 rfl (lv_at hl 0 rfl) ?_
              refine rg_51 C hP wm_205 dX12_spell_153 ?_
              refine lv_iload_n hx hb dX12_spell_156 rfl (lv_at hl 1 rfl) ?_
              refine ra_51 (f := (σ.2.1 51)) C hP rfl (v_spell_15 σ k0 x1 x3 x5 x7 x27 x28 x30 hpre_0 hpre_1 ex1 tx1 c2 ex3 tx3 c4 ex5 tx5 c6 ex7 tx7 c8 ex27 tx27 tx28 c29 ex30 tx30 c31) dX12_spell_157 (fun x32 ex32 => ?_)
              have tx32 : x32.toInt = ((σ.2.1 51) k0.toNatClampNeg).toInt := by rw [ex32]
              refine lv_if_ne (tgt := 177) hx hb dX12_spell_158 (by decide) (fun c33 => ?_) (fun c33 => ?_)
              · have c33 : ¬ x32.toInt = 0 := by have h := z_ne c33; rw [show (0 : Int32).toInt = 0 from by decide +kernel] at h; exact h
                refine lv_aload_n hx hb dX12_spell_177 rfl (lv_at hl 0 rfl) ?_
                refine lv_bipush (v := 111) hx hb dX12_spell_178 (by decide +kernel) ?_
                refine r_callVv (As := [.int 111]) (rest := []) C hP hS hl.1 ⟨Nat.zero_le _, Nat.zero_le _⟩ (M_build l D cy sz0 sa ad σ s.heap.size (111 : Int32) (v_spell_7 σ hpre_2 hpre_3)) (n := 1) ⟨wm_223, wm_219, by decide +kernel⟩ ⟨wm_224, wm_225, wm_10⟩ rfl rfl (lv_room (Nat.le_of_ble_eq_true rfl)) ⟨Nat.le_of_ble_eq_true rfl, Nat.le_of_ble_eq_true rfl⟩ dX12_spell_180 (fun u H locs hr34 hP hS => ?_)
                obtain ⟨F35, n36⟩ := u
                have hr34 : 0 ≤ n36.toInt ∧ n36.toInt ≤ 48 := hr34
                obtain ⟨hr34_0, hr34_1⟩ := hr34
                have hP : RP D cy ad (rS (rA σ 58 F35) 59 n36) H := hP
                refine lv_aload_n hx hb dX12_spell_183 rfl (lv_at hl 0 rfl) ?_
                refine lv_aload_n hx hb dX12_spell_184 rfl (lv_at hl 0 rfl) ?_
                refine rg_52 C hP wm_206 dX12_spell_185 ?_
                refine lv_iload_n hx hb dX12_spell_188 rfl (lv_at hl 1 rfl) ?_
                refine ra_52 (f := (σ.2.2.1 52)) C hP rfl (v_spell_16 σ k0 x1 x3 x5 x7 x27 x28 x30 x32 hpre_0 hpre_1 ex1 tx1 c2 ex3 tx3 c4 ex5 tx5 c6 ex7 tx7 c8 ex27 tx27 tx28 c29 ex30 tx30 c31 ex32 tx32 c33) dX12_spell_189 (fun x37 ex37 => ?_)
                have tx37 : x37.toInt = ((σ.2.2.1 52) k0.toNatClampNeg).toInt := by rw [ex37]
                refine lv_l2i hx hb dX12_spell_190 rfl ?_
                refine lv_topi (fun x38 ex38 => ?_)
                have tx38 : -2147483648 ≤ x37.toInt → x37.toInt < 2147483648 → x38.toInt = x37.toInt := z_l2i ex38
                refine r_callVv (As := [.int x38]) (rest := []) C hP hS hl.1 ⟨Nat.zero_le _, Nat.zero_le _⟩ (M_buildNumber l D cy sz0 sa ad (rS (rA σ 58 F35) 59 n36) H.size x38 (v_spell_17 n36 hr34_0 hr34_1)) (n := 1) ⟨wm_234, wm_222, by decide +kernel⟩ ⟨wm_235, wm_236, wm_10⟩ rfl rfl (lv_room (Nat.le_of_ble_eq_true rfl)) ⟨Nat.le_of_ble_eq_true rfl, Nat.le_of_ble_eq_true rfl⟩ dX12_spell_191 (fun u H locs hr39 hP hS => ?_)
                obtain ⟨F40, n41⟩ := u
                have hr39 : 0 ≤ n41.toInt ∧ n41.toInt ≤ 48 := hr39
                obtain ⟨hr39_0, hr39_1⟩ := hr39
                have hP : RP D cy ad (rS (rA (rS (rA σ 58 F35) 59 n36) 58 F40) 59 n41) H := hP
                have hP : RP D cy ad (rS (rA σ 58 F40) 59 n41) H := RP.cong hP (Eq.trans (b := (σ.1 0)) rfl rfl) (Eq.trans (b := (σ.1 1)) rfl rfl) (Eq.trans (b := (σ.2.1 2)) rfl rfl) (Eq.trans (b := (σ.1 3)) rfl rfl) (Eq.trans (b := (σ.2.1 4)) rfl rfl) (Eq.trans (b := (σ.2.1 5)) rfl rfl) (Eq.trans (b := (σ.2.2.1 6)) rfl rfl) (Eq.trans (b := (σ.2.1 7)) rfl rfl) (Eq.trans (b := (σ.1 8)) rfl rfl) (Eq.trans (b := (σ.1 9)) rfl rfl) (Eq.trans (b := (σ.1 10)) rfl rfl) (Eq.trans (b := (σ.2.1 11)) rfl rfl) (Eq.trans (b := (σ.2.2.1 12)) rfl rfl) (Eq.trans (b := (σ.2.1 13)) rfl rfl) (Eq.trans (b := (σ.1 14)) rfl rfl) (Eq.trans (b := (σ.1 15)) rfl rfl) (Eq.trans (b := (σ.1 16)) rfl rfl) (Eq.trans (b := (σ.1 17)) rfl rfl) (Eq.trans (b := (σ.1 18)) rfl rfl) (Eq.trans (b := (σ.1 19)) rfl rfl) (Eq.trans (b := (σ.2.1 20)) rfl rfl) (Eq.trans (b := (σ.2.1 21)) rfl rfl) (Eq.trans (b := (σ.2.1 22)) rfl rfl) (Eq.trans (b := (σ.2.1 23)) rfl rfl) (Eq.trans (b := (σ.2.1 24)) rfl rfl) (Eq.trans (b := (σ.2.1 25)) rfl rfl) (Eq.trans (b := (σ.2.1 26)) rfl rfl) (Eq.trans (b := (σ.2.1 27)) rfl rfl) (Eq.trans (b := (σ.2.1 28)) rfl rfl) (Eq.trans (b := (σ.1 29)) rfl rfl) (Eq.trans (b := (σ.2.1 30)) rfl rfl) (Eq.trans (b := (σ.2.1 31)) rfl rfl) (Eq.trans (b := (σ.2.1 32)) rfl rfl) (Eq.trans (b := (σ.1 33)) rfl rfl) (Eq.trans (b := (σ.1 34)) rfl rfl) (Eq.trans (b := (σ.1 35)) rfl rfl) (Eq.trans (b := (σ.2.1 36)) rfl rfl) (Eq.trans (b := (σ.2.1 37)) rfl rfl) (Eq.trans (b := (σ.2.1 38)) rfl rfl) (Eq.trans (b := (σ.2.1 39)) rfl rfl) (Eq.trans (b := (σ.2.1 40)) rfl rfl) (Eq.trans (b := (σ.2.1 41)) rfl rfl) (Eq.trans (b := (σ.2.1 42)) rfl rfl) (Eq.trans (b := (σ.2.1 43)) rfl rfl) (Eq.trans (b := (σ.2.1 44)) rfl rfl) (Eq.trans (b := (σ.2.1 45)) rfl rfl) (Eq.trans (b := (σ.2.1 46)) rfl rfl) (Eq.trans (b := (σ.1 47)) rfl rfl) (Eq.trans (b := (σ.2.1 48)) rfl rfl) (Eq.trans (b := (σ.1 49)) rfl rfl) (Eq.trans (b := (σ.2.1 50)) rfl rfl) (Eq.trans (b := (σ.2.1 51)) rfl rfl) (Eq.trans (b := (σ.2.2.1 52)) rfl rfl) (Eq.trans (b := (σ.2.2.1 53)) rfl rfl) (Eq.trans (b := (σ.2.2.2)) rfl rfl) (Eq.trans (b := (σ.1 55)) rfl rfl) (Eq.trans (b := (σ.1 56)) rfl rfl) (Eq.trans (b := (σ.1 57)) rfl rfl) (Eq.trans (b := F40) rfl rfl) (Eq.trans (b := n41) rfl rfl)
                exact r_retv C ⟨F40, n41⟩ (v_spell_18 n41 hr39_0 hr39_1) hP hS dX12_spell_194
              · have c33 : x32.toInt = 0 := by have h := z_eq c33; rw [show (0 : Int32).toInt = 0 from by decide +kernel] at h; exact h
                refine lv_aload_n hx hb dX12_spell_161 rfl (lv_at hl 0 rfl) ?_
                refine lv_bipush (v := 110) hx hb dX12_spell_162 (by decide +kernel) ?_
                refine lv_bipush (v := 117) hx hb dX12_spell_164 (by decide +kernel) ?_
                refine lv_bipush (v := 108) hx hb dX12_spell_166 (by decide +kernel) ?_
                refine lv_bipush (v := 108) hx hb dX12_spell_168 (by decide +kernel) ?_
                refine lv_iconst (v := 0) hx hb dX12_spell_170 (by decide +kernel) ?_
                refine r_callVv (As := [.int 110, .int 117, .int 108, .int 108, .int 0]) (rest := []) C hP hS hl.1 ⟨Nat.zero_le _, Nat.zero_le _⟩ (M_buildWord l D cy sz0 sa ad σ s.heap.size (110 : Int32) (117 : Int32) (108 : Int32) (108 : Int32) (0 : Int32) (v_spell_7 σ hpre_2 hpre_3)) (n := 5) ⟨wm_237, wm_226, by decide +kernel⟩ ⟨wm_238, wm_239, wm_10⟩ rfl rfl (lv_room (Nat.le_of_ble_eq_true rfl)) ⟨Nat.le_of_ble_eq_true rfl, Nat.le_of_ble_eq_true rfl⟩ dX12_spell_171 (fun u H locs hr42 hP hS => ?_)
                obtain ⟨F43, n44⟩ := u
                have hr42 : 0 ≤ n44.toInt ∧ n44.toInt ≤ 48 := hr42
                obtain ⟨hr42_0, hr42_1⟩ := hr42
                have hP : RP D cy ad (rS (rA σ 58 F43) 59 n44) H := hP
                refine lv_goto (tgt := 194) hx hb dX12_spell_174 (by decide) ?_
                exact r_retv C ⟨F43, n44⟩ (v_spell_19 n44 hr42_0 hr42_1) hP hS dX12_spell_194
            · have c31 : x30.toInt = 1 := by have h := z_eq c31; rw [show (1 : Int32).toInt = 1 from by decide +kernel] at h; exact h
              refine lv_aload_n hx hb dX12_spell_135 rfl (lv_at hl 0 rfl) ?_
              refine lv_bipush (v := 102) hx hb dX12_spell_136 (by decide +kernel) ?_
              refine lv_bipush (v := 97) hx hb dX12_spell_138 (by decide +kernel) ?_
              refine lv_bipush (v := 108) hx hb dX12_spell_140 (by decide +kernel) ?_
              refine lv_bipush (v := 115) hx hb dX12_spell_142 (by decide +kernel) ?_
              refine lv_bipush (v := 101) hx hb dX12_spell_144 (by decide +kernel) ?_
              refine r_callVv (As := [.int 102, .int 97, .int 108, .int 115, .int 101]) (rest := []) C hP hS hl.1 ⟨Nat.zero_le _, Nat.zero_le _⟩ (M_buildWord l D cy sz0 sa ad σ s.heap.size (102 : Int32) (97 : Int32) (108 : Int32) (115 : Int32) (101 : Int32) (v_spell_7 σ hpre_2 hpre_3)) (n := 5) ⟨wm_237, wm_226, by decide +kernel⟩ ⟨wm_238, wm_239, wm_10⟩ rfl rfl (lv_room (Nat.le_of_ble_eq_true rfl)) ⟨Nat.le_of_ble_eq_true rfl, Nat.le_of_ble_eq_true rfl⟩ dX12_spell_146 (fun u H locs hr45 hP hS => ?_)
              obtain ⟨F46, n47⟩ := u
              have hr45 : 0 ≤ n47.toInt ∧ n47.toInt ≤ 48 := hr45
              obtain ⟨hr45_0, hr45_1⟩ := hr45
              have hP : RP D cy ad (rS (rA σ 58 F46) 59 n47) H := hP
              refine lv_goto (tgt := 194) hx hb dX12_spell_149 (by decide) ?_
              exact r_retv C ⟨F46, n47⟩ (v_spell_20 n47 hr45_0 hr45_1) hP hS dX12_spell_194
          · have c29 : x28.toInt = 0 := by have h := z_eq c29; rw [show (0 : Int32).toInt = 0 from by decide +kernel] at h; exact h
            refine lv_aload_n hx hb dX12_spell_109 rfl (lv_at hl 0 rfl) ?_
            refine lv_bipush (v := 116) hx hb dX12_spell_110 (by decide +kernel) ?_
            refine lv_bipush (v := 114) hx hb dX12_spell_112 (by decide +kernel) ?_
            refine lv_bipush (v := 117) hx hb dX12_spell_114 (by decide +kernel) ?_
            refine lv_bipush (v := 101) hx hb dX12_spell_116 (by decide +kernel) ?_
            refine lv_iconst (v := 0) hx hb dX12_spell_118 (by decide +kernel) ?_
            refine r_callVv (As := [.int 116, .int 114, .int 117, .int 101, .int 0]) (rest := []) C hP hS hl.1 ⟨Nat.zero_le _, Nat.zero_le _⟩ (M_buildWord l D cy sz0 sa ad σ s.heap.size (116 : Int32) (114 : Int32) (117 : Int32) (101 : Int32) (0 : Int32) (v_spell_7 σ hpre_2 hpre_3)) (n := 5) ⟨wm_237, wm_226, by decide +kernel⟩ ⟨wm_238, wm_239, wm_10⟩ rfl rfl (lv_room (Nat.le_of_ble_eq_true rfl)) ⟨Nat.le_of_ble_eq_true rfl, Nat.le_of_ble_eq_true rfl⟩ dX12_spell_119 (fun u H locs hr48 hP hS => ?_)
            obtain ⟨F49, n50⟩ := u
            have hr48 : 0 ≤ n50.toInt ∧ n50.toInt ≤ 48 := hr48
            obtain ⟨hr48_0, hr48_1⟩ := hr48
            have hP : RP D cy ad (rS (rA σ 58 F49) 59 n50) H := hP
            refine lv_goto (tgt := 194) hx hb dX12_spell_122 (by decide) ?_
            exact r_retv C ⟨F49, n50⟩ (v_spell_21 n50 hr48_0 hr48_1) hP hS dX12_spell_194
      · have c6 : x5.toInt = 3 := by have h := z_eq c6; rw [show (3 : Int32).toInt = 3 from by decide +kernel] at h; exact h
        refine lv_aload_n hx hb dX12_spell_74 rfl (lv_at hl 0 rfl) ?_
        refine lv_aload_n hx hb dX12_spell_75 rfl (lv_at hl 0 rfl) ?_
        refine rg_54 C hP wm_209 dX12_spell_76 ?_
        refine lv_iload_n hx hb dX12_spell_79 rfl (lv_at hl 1 rfl) ?_
        refine ra_54 (f := (σ.2.2.2)) C hP rfl (v_spell_22 σ k0 x1 x3 x5 hpre_0 hpre_1 ex1 tx1 c2 ex3 tx3 c4 ex5 tx5 c6) dX12_spell_80 (fun x51 ex51 => ?_)
        refine lv_d2i hx hb dX12_spell_81 ?_
        refine lv_topi (fun x52 ex52 => ?_)
        refine r_callVv (As := [.int x52]) (rest := []) C hP hS hl.1 ⟨Nat.zero_le _, Nat.zero_le _⟩ (M_buildNumber l D cy sz0 sa ad σ s.heap.size x52 (v_spell_7 σ hpre_2 hpre_3)) (n := 1) ⟨wm_234, wm_222, by decide +kernel⟩ ⟨wm_235, wm_236, wm_10⟩ rfl rfl (lv_room (Nat.le_of_ble_eq_true rfl)) ⟨Nat.le_of_ble_eq_true rfl, Nat.le_of_ble_eq_true rfl⟩ dX12_spell_82 (fun u H locs hr53 hP hS => ?_)
        obtain ⟨F54, n55⟩ := u
        have hr53 : 0 ≤ n55.toInt ∧ n55.toInt ≤ 48 := hr53
        obtain ⟨hr53_0, hr53_1⟩ := hr53
        have hP : RP D cy ad (rS (rA σ 58 F54) 59 n55) H := hP
        refine lv_goto (tgt := 194) hx hb dX12_spell_85 (by decide) ?_
        exact r_retv C ⟨F54, n55⟩ (v_spell_23 n55 hr53_0 hr53_1) hP hS dX12_spell_194
    · have c4 : x3.toInt = 2 := by have h := z_eq c4; rw [show (2 : Int32).toInt = 2 from by decide +kernel] at h; exact h
      refine lv_aload_n hx hb dX12_spell_50 rfl (lv_at hl 0 rfl) ?_
      refine lv_aload_n hx hb dX12_spell_51 rfl (lv_at hl 0 rfl) ?_
      refine rg_52 C hP wm_206 dX12_spell_52 ?_
      refine lv_iload_n hx hb dX12_spell_55 rfl (lv_at hl 1 rfl) ?_
      refine ra_52 (f := (σ.2.2.1 52)) C hP rfl (v_spell_24 σ k0 x1 x3 hpre_0 hpre_1 ex1 tx1 c2 ex3 tx3 c4) dX12_spell_56 (fun x56 ex56 => ?_)
      have tx56 : x56.toInt = ((σ.2.2.1 52) k0.toNatClampNeg).toInt := by rw [ex56]
      refine lv_l2i hx hb dX12_spell_57 rfl ?_
      refine lv_topi (fun x57 ex57 => ?_)
      have tx57 : -2147483648 ≤ x56.toInt → x56.toInt < 2147483648 → x57.toInt = x56.toInt := z_l2i ex57
      refine r_callVv (As := [.int x57]) (rest := []) C hP hS hl.1 ⟨Nat.zero_le _, Nat.zero_le _⟩ (M_buildNumber l D cy sz0 sa ad σ s.heap.size x57 (v_spell_7 σ hpre_2 hpre_3)) (n := 1) ⟨wm_234, wm_222, by decide +kernel⟩ ⟨wm_235, wm_236, wm_10⟩ rfl rfl (lv_room (Nat.le_of_ble_eq_true rfl)) ⟨Nat.le_of_ble_eq_true rfl, Nat.le_of_ble_eq_true rfl⟩ dX12_spell_58 (fun u H locs hr58 hP hS => ?_)
      obtain ⟨F59, n60⟩ := u
      have hr58 : 0 ≤ n60.toInt ∧ n60.toInt ≤ 48 := hr58
      obtain ⟨hr58_0, hr58_1⟩ := hr58
      have hP : RP D cy ad (rS (rA σ 58 F59) 59 n60) H := hP
      refine lv_goto (tgt := 194) hx hb dX12_spell_61 (by decide) ?_
      exact r_retv C ⟨F59, n60⟩ (v_spell_25 n60 hr58_0 hr58_1) hP hS dX12_spell_194
  · have c2 : x1.toInt = 4 := by have h := z_eq c2; rw [show (4 : Int32).toInt = 4 from by decide +kernel] at h; exact h
    refine lv_iconst (v := 0) hx hb dX12_spell_10 (by decide +kernel) ?_
    refine lv_istore_n (lv' := [(2, .int 0), (0, .ref (ad 0)), (1, .int k0)]) hx hb dX12_spell_11 rfl hl (by decide) rfl (fun ls hl => ?_)
    have hP : RP D cy ad (rS (rA σ 58 (σ.2.1 58)) 59 (σ.1 59)) s.heap := RP.cong hP (Eq.trans (b := (σ.1 0)) rfl rfl) (Eq.trans (b := (σ.1 1)) rfl rfl) (Eq.trans (b := (σ.2.1 2)) rfl rfl) (Eq.trans (b := (σ.1 3)) rfl rfl) (Eq.trans (b := (σ.2.1 4)) rfl rfl) (Eq.trans (b := (σ.2.1 5)) rfl rfl) (Eq.trans (b := (σ.2.2.1 6)) rfl rfl) (Eq.trans (b := (σ.2.1 7)) rfl rfl) (Eq.trans (b := (σ.1 8)) rfl rfl) (Eq.trans (b := (σ.1 9)) rfl rfl) (Eq.trans (b := (σ.1 10)) rfl rfl) (Eq.trans (b := (σ.2.1 11)) rfl rfl) (Eq.trans (b := (σ.2.2.1 12)) rfl rfl) (Eq.trans (b := (σ.2.1 13)) rfl rfl) (Eq.trans (b := (σ.1 14)) rfl rfl) (Eq.trans (b := (σ.1 15)) rfl rfl) (Eq.trans (b := (σ.1 16)) rfl rfl) (Eq.trans (b := (σ.1 17)) rfl rfl) (Eq.trans (b := (σ.1 18)) rfl rfl) (Eq.trans (b := (σ.1 19)) rfl rfl) (Eq.trans (b := (σ.2.1 20)) rfl rfl) (Eq.trans (b := (σ.2.1 21)) rfl rfl) (Eq.trans (b := (σ.2.1 22)) rfl rfl) (Eq.trans (b := (σ.2.1 23)) rfl rfl) (Eq.trans (b := (σ.2.1 24)) rfl rfl) (Eq.trans (b := (σ.2.1 25)) rfl rfl) (Eq.trans (b := (σ.2.1 26)) rfl rfl) (Eq.trans (b := (σ.2.1 27)) rfl rfl) (Eq.trans (b := (σ.2.1 28)) rfl rfl) (Eq.trans (b := (σ.1 29)) rfl rfl) (Eq.trans (b := (σ.2.1 30)) rfl rfl) (Eq.trans (b := (σ.2.1 31)) rfl rfl) (Eq.trans (b := (σ.2.1 32)) rfl rfl) (Eq.trans (b := (σ.1 33)) rfl rfl) (Eq.trans (b := (σ.1 34)) rfl rfl) (Eq.trans (b := (σ.1 35)) rfl rfl) (Eq.trans (b := (σ.2.1 36)) rfl rfl) (Eq.trans (b := (σ.2.1 37)) rfl rfl) (Eq.trans (b := (σ.2.1 38)) rfl rfl) (Eq.trans (b := (σ.2.1 39)) rfl rfl) (Eq.trans (b := (σ.2.1 40)) rfl rfl) (Eq.trans (b := (σ.2.1 41)) rfl rfl) (Eq.trans (b := (σ.2.1 42)) rfl rfl) (Eq.trans (b := (σ.2.1 43)) rfl rfl) (Eq.trans (b := (σ.2.1 44)) rfl rfl) (Eq.trans (b := (σ.2.1 45)) rfl rfl) (Eq.trans (b := (σ.2.1 46)) rfl rfl) (Eq.trans (b := (σ.1 47)) rfl rfl) (Eq.trans (b := (σ.2.1 48)) rfl rfl) (Eq.trans (b := (σ.1 49)) rfl rfl) (Eq.trans (b := (σ.2.1 50)) rfl rfl) (Eq.trans (b := (σ.2.1 51)) rfl rfl) (Eq.trans (b := (σ.2.2.1 52)) rfl rfl) (Eq.trans (b := (σ.2.2.1 53)) rfl rfl) (Eq.trans (b := (σ.2.2.2)) rfl rfl) (Eq.trans (b := (σ.1 55)) rfl rfl) (Eq.trans (b := (σ.1 56)) rfl rfl) (Eq.trans (b := (σ.1 57)) rfl rfl) (Eq.trans (b := (σ.2.1 58)) rfl rfl) (Eq.trans (b := (σ.1 59)) rfl rfl)
    exact L_spell_12_1 l D cy sz0 sa ad sz σ k0 x1 C hpre_0 hpre_1 hpre_2 hpre_3 ex1 tx1 c2 ((130 - (0 : Int32).toInt).toNat + 1) (0 : Int32) (σ.2.1 58) (σ.1 59) _ _ _ (Nat.lt_succ_self _) (v_spell_26 σ hpre_2 hpre_3) hP hS (lv_sub hl [0, 1, 2] rfl)
