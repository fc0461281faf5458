-- post @41
theorem v_text_1   : (0 : Int32).toInt = 0 := by
  have q0 : (0 : Int32).toInt = 0 := by decide +kernel
  first | assumption | omega | (subst_vars; omega) | trivial
-- post2 @41
theorem v_text_2 (σ : RS) (k0 : Int32) (x1 : Int32) (ex1 : x1 = (σ.2.1 51) 60) (tx1 : x1.toInt = ((σ.2.1 51) 60).toInt) (c2 : ¬ x1.toInt = 4) : ∀ w9 : QV, QAT (qH (σ.2.1 36) (σ.2.1 37) (σ.2.1 38) (σ.2.1 39) (σ.2.1 40) (σ.2.1 41) (σ.2.1 42) (σ.2.1 43) (σ.2.1 44) (σ.2.1 45) (σ.2.1 46) (σ.2.1 48)) (σ.1 47).toInt ((σ.2.1 51), (σ.2.2.1 52), (σ.2.2.1 53), (σ.2.2.2)) 60 w9 → (-1 : Int32).toInt = qChr w9 k0.toInt := by
  have qm1 : (-1 : Int32).toInt = (-1) := by decide +kernel
  intro w9 ha
  have e60 := (by decide +kernel : (60 : Int32).toNatClampNeg = 60)
  have kd := ha.kd
  have kk := ha.ok.kd
  dsimp only at kd
  unfold qChr
  have kx : x1.toInt = w9.1 := by rw [ex1]; first | exact kd | (rw [e60]; exact kd)
  rw [if_neg (by omega)]; omega
-- post2 @41
theorem v_text_3 (σ : RS) (k0 : Int32) (x1 : Int32) (ex1 : x1 = (σ.2.1 51) 60) (tx1 : x1.toInt = ((σ.2.1 51) 60).toInt) (c2 : x1.toInt = 4) (c3 : k0.toInt < 0) : ∀ w9 : QV, QAT (qH (σ.2.1 36) (σ.2.1 37) (σ.2.1 38) (σ.2.1 39) (σ.2.1 40) (σ.2.1 41) (σ.2.1 42) (σ.2.1 43) (σ.2.1 44) (σ.2.1 45) (σ.2.1 46) (σ.2.1 48)) (σ.1 47).toInt ((σ.2.1 51), (σ.2.2.1 52), (σ.2.2.1 53), (σ.2.2.2)) 60 w9 → (-1 : Int32).toInt = qChr w9 k0.toInt := by
  have qm1 : (-1 : Int32).toInt = (-1) := by decide +kernel
  intro w9 ha
  have e60 := (by decide +kernel : (60 : Int32).toNatClampNeg = 60)
  have kd := ha.kd
  have kk := ha.ok.kd
  dsimp only at kd
  unfold qChr
  have kx : x1.toInt = w9.1 := by rw [ex1]; first | exact kd | (rw [e60]; exact kd)
  rw [if_neg (by omega)]; omega
-- pre:lengthOf@24 @24
theorem v_text_4   : 0 ≤ (60 : Int32).toInt ∧ (60 : Int32).toInt < 980 := by
  have q60 : (60 : Int32).toInt = 60 := by decide +kernel
  refine ⟨?_, ?_⟩ <;> first | assumption | omega | (subst_vars; omega) | trivial
-- post2 @41
theorem v_text_5 (σ : RS) (k0 : Int32) (x1 : Int32) (r4 : Int32) (ex1 : x1 = (σ.2.1 51) 60) (tx1 : x1.toInt = ((σ.2.1 51) 60).toInt) (c2 : x1.toInt = 4) (c3 : 0 ≤ k0.toInt) (hr4 : r4 = LENF ((σ.2.2.1 52) (60 : Int32).toNatClampNeg)) (c5 : r4.toInt ≤ k0.toInt) : ∀ w9 : QV, QAT (qH (σ.2.1 36) (σ.2.1 37) (σ.2.1 38) (σ.2.1 39) (σ.2.1 40) (σ.2.1 41) (σ.2.1 42) (σ.2.1 43) (σ.2.1 44) (σ.2.1 45) (σ.2.1 46) (σ.2.1 48)) (σ.1 47).toInt ((σ.2.1 51), (σ.2.2.1 52), (σ.2.2.1 53), (σ.2.2.2)) 60 w9 → (-1 : Int32).toInt = qChr w9 k0.toInt := by
  have qm1 : (-1 : Int32).toInt = (-1) := by decide +kernel
  have q60 : (60 : Int32).toInt = 60 := by decide +kernel
  have l_hr4 := LENF_le ((σ.2.2.1 52) (60 : Int32).toNatClampNeg)
  rw [← hr4] at l_hr4
  intro w9 ha
  have e60 := (by decide +kernel : (60 : Int32).toNatClampNeg = 60)
  have kd := ha.kd
  have kk := ha.ok.kd
  dsimp only at kd
  unfold qChr
  have kx : x1.toInt = w9.1 := by rw [ex1]; first | exact kd | (rw [e60]; exact kd)
  obtain ⟨s8, rfl, ht⟩ := ha.k4 (by show ((σ.2.1 51) 60).toInt = 4; omega)
  dsimp only at ht
  have e := q_len ht.1 ht.2.2.1 ht.2.2.2
  have e2 : r4.toInt = (s8.length : Int) := by rw [hr4]; first | exact e | (rw [e60]; exact e)
  have l16 := ht.2.2.1
  rw [if_neg (by rintro ⟨_, _, h⟩; have h : k0.toInt < (s8.length : Int) := h; omega)]; omega
-- pre:sign8@34 @34
theorem v_text_6 (σ : RS) (k0 : Int32) (r4 : Int32) (c3 : 0 ≤ k0.toInt) (hr4 : r4 = LENF ((σ.2.2.1 52) (60 : Int32).toNatClampNeg)) (c5 : k0.toInt < r4.toInt) : 0 ≤ (60 : Int32).toInt ∧ (60 : Int32).toInt < 980 ∧ 0 ≤ k0.toInt ∧ k0.toInt ≤ 200 := by
  have q60 : (60 : Int32).toInt = 60 := by decide +kernel
  have l_hr4 := LENF_le ((σ.2.2.1 52) (60 : Int32).toNatClampNeg)
  rw [← hr4] at l_hr4
  refine ⟨?_, ?_, ?_, ?_⟩ <;> first | assumption | omega | (subst_vars; omega) | trivial
-- post2 @41
theorem v_text_7 (σ : RS) (k0 : Int32) (x1 : Int32) (r4 : Int32) (r6 : Int32) (ex1 : x1 = (σ.2.1 51) 60) (tx1 : x1.toInt = ((σ.2.1 51) 60).toInt) (c2 : x1.toInt = 4) (c3 : 0 ≤ k0.toInt) (hr4 : r4 = LENF ((σ.2.2.1 52) (60 : Int32).toNatClampNeg)) (c5 : k0.toInt < r4.toInt) (hr6y : ∀ s9 : List Int, QTT ((σ.2.2.1 52) (60 : Int32).toNatClampNeg) ((σ.2.2.1 53) (60 : Int32).toNatClampNeg) s9 → 0 ≤ k0.toInt → k0.toInt < 17 → r6.toInt = s9.getD k0.toInt.toNat 0) : ∀ w9 : QV, QAT (qH (σ.2.1 36) (σ.2.1 37) (σ.2.1 38) (σ.2.1 39) (σ.2.1 40) (σ.2.1 41) (σ.2.1 42) (σ.2.1 43) (σ.2.1 44) (σ.2.1 45) (σ.2.1 46) (σ.2.1 48)) (σ.1 47).toInt ((σ.2.1 51), (σ.2.2.1 52), (σ.2.2.1 53), (σ.2.2.2)) 60 w9 → r6.toInt = qChr w9 k0.toInt := by
  have q60 : (60 : Int32).toInt = 60 := by decide +kernel
  have l_hr4 := LENF_le ((σ.2.2.1 52) (60 : Int32).toNatClampNeg)
  rw [← hr4] at l_hr4
  intro w9 ha
  have e60 := (by decide +kernel : (60 : Int32).toNatClampNeg = 60)
  have kd := ha.kd
  have kk := ha.ok.kd
  dsimp only at kd
  unfold qChr
  have kx : x1.toInt = w9.1 := by rw [ex1]; first | exact kd | (rw [e60]; exact kd)
  obtain ⟨s8, rfl, ht⟩ := ha.k4 (by show ((σ.2.1 51) 60).toInt = 4; omega)
  dsimp only at ht
  have e := q_len ht.1 ht.2.2.1 ht.2.2.2
  have e2 : r4.toInt = (s8.length : Int) := by rw [hr4]; first | exact e | (rw [e60]; exact e)
  have l16 := ht.2.2.1
  rw [if_pos ⟨rfl, by omega, by show k0.toInt < (s8.length : Int); omega⟩]
  exact hr6y s8 (by first | exact ht | (rw [e60]; exact ht)) (by omega) (by omega)
set_option maxHeartbeats 4000000 in
set_option maxRecDepth 100000 in
theorem M_text (l : Launch) (D : va_G) (cy : Nat → ClassId) (sz0 : Nat) (sa : Nat → Nat) (ad : Nat → Nat) (σ : RS) (sz : Nat) (k0 : Int32) (hpre : True) : Met l yX12_text (Cond.code yX12_text cX12_text 2 (some .int) :: GWm) ({ frames := 1, cells := 0, slots := 0, locals := 22 }) (PcR D cy sz0 sa ad [.ref (ad 0), .int k0] σ sz) (va_Qi (fun (r : Int32) (u : Int32) => (u.toInt = 0) ∧ (∀ w9 : QV, QAT (qH (σ.2.1 36) (σ.2.1 37) (σ.2.1 38) (σ.2.1 39) (σ.2.1 40) (σ.2.1 41) (σ.2.1 42) (σ.2.1 43) (σ.2.1 44) (σ.2.1 45) (σ.2.1 46) (σ.2.1 48)) (σ.1 47).toInt ((σ.2.1 51), (σ.2.2.1 52), (σ.2.2.1 53), (σ.2.2.2)) 60 w9 → r.toInt = qChr w9 k0.toInt)) (fun (u : Int32) (t : State) => RP D cy ad (rS σ 0 u) t.heap) (AR cy ad sz)) 0 0 (AR cy ad sz) := by
  refine RM_of (loc0 := [(0, .ref (ad 0)), (1, .int k0)]) (by decide) rfl rfl (Nat.le_of_ble_eq_true rfl) ?_
  intro p e s m below meth c ls hsz C hP hS hl
  have hx := C.1
  have hb := C.2.1
  have hown := C.2.2.2.2.1
  have hw := C.2.2.2.2.2.1
  clear hsz
  refine lv_aload_n hx hb dX12_text_0 rfl (lv_at hl 0 rfl) ?_
  refine lv_iconst (v := 0) hx hb dX12_text_1 (by decide +kernel) ?_
  refine rp_0 C hP hS wm_1 dX12_text_2 (fun H locs hP hS => ?_)
  refine lv_aload_n hx hb dX12_text_5 rfl (lv_at hl 0 rfl) ?_
  refine rg_51 C hP wm_205 dX12_text_6 ?_
  refine lv_bipush (v := 60) hx hb dX12_text_9 (by decide +kernel) ?_
  refine ra_51 (f := (σ.2.1 51)) C hP rfl (vp_in_iff.mpr (by decide +kernel)) dX12_text_11 (fun x1 ex1 => ?_)
  have ex1 : x1 = (σ.2.1 51) 60 := ex1
  have tx1 : x1.toInt = ((σ.2.1 51) 60).toInt := by rw [ex1]
  refine lv_iconst (v := 4) hx hb dX12_text_12 (by decide +kernel) ?_
  refine lv_icmp_ne (tgt := 40) hx hb dX12_text_13 (by decide) (fun c2 => ?_) (fun c2 => ?_)
  · have c2 : ¬ x1.toInt = 4 := by have h := z_ne c2; rw [show (4 : Int32).toInt = 4 from by decide +kernel] at h; exact h
    refine lv_iconst (v := (-1)) hx hb dX12_text_40 (by decide +kernel) ?_
    exact r_reti C (0 : Int32) ⟨(v_text_1  ), (v_text_2 σ k0 x1 ex1 tx1 c2)⟩ hP hS dX12_text_41
  · have c2 : x1.toInt = 4 := by have h := z_eq c2; rw [show (4 : Int32).toInt = 4 from by decide +kernel] at h; exact h
    refine lv_iload_n hx hb dX12_text_16 rfl (lv_at hl 1 rfl) ?_
    refine lv_if_lt (tgt := 40) hx hb dX12_text_17 (by decide) (fun c3 => ?_) (fun c3 => ?_)
    · have c3 : k0.toInt < 0 := by have h := z_lt c3; rw [show (0 : Int32).toInt = 0 from by decide +kernel] at h; exact h
      refine lv_iconst (v := (-1)) hx hb dX12_text_40 (by decide +kernel) ?_
      exact r_reti C (0 : Int32) ⟨(v_text_1  ), (v_text_3 σ k0 x1 ex1 tx1 c2 c3)⟩ hP hS dX12_text_41
    · have c3 : 0 ≤ k0.toInt := by have h := z_nlt c3; rw [show (0 : Int32).toInt = 0 from by decide +kernel] at h; exact h
      refine lv_iload_n hx hb dX12_text_20 rfl (lv_at hl 1 rfl) ?_
      refine lv_aload_n hx hb dX12_text_21 rfl (lv_at hl 0 rfl) ?_
      refine lv_bipush (v := 60) hx hb dX12_text_22 (by decide +kernel) ?_
      refine r_callVi (As := [.int 60]) (rest := [.int k0]) C hP hS hl.1 ⟨Nat.zero_le _, Nat.zero_le _⟩ (M_lengthOf l D cy sz0 sa ad (rS σ 0 (0 : Int32)) H.size (60 : Int32) (v_text_4  )) (n := 1) ⟨wm_228, wm_216, by decide +kernel⟩ ⟨wm_229, wm_230, wm_10⟩ rfl rfl (lv_room (Nat.le_of_ble_eq_true rfl)) ⟨Nat.le_of_ble_eq_true rfl, Nat.le_of_ble_eq_true rfl⟩ dX12_text_24 (fun r4 u H locs hr4 hP hS => ?_)
      have hr4 : r4 = LENF ((σ.2.2.1 52) (60 : Int32).toNatClampNeg) := hr4
      refine lv_icmp_ge (tgt := 40) hx hb dX12_text_27 (by decide) (fun c5 => ?_) (fun c5 => ?_)
      · have c5 : r4.toInt ≤ k0.toInt := by have h := z_le c5; exact h
        refine lv_iconst (v := (-1)) hx hb dX12_text_40 (by decide +kernel) ?_
        exact r_reti C (0 : Int32) ⟨(v_text_1  ), (v_text_5 σ k0 x1 r4 ex1 tx1 c2 c3 hr4 c5)⟩ hP hS dX12_text_41
      · have c5 : k0.toInt < r4.toInt := by have h := z_nle c5; exact h
        refine lv_aload_n hx hb dX12_text_30 rfl (lv_at hl 0 rfl) ?_
        refine lv_bipush (v := 60) hx hb dX12_text_31 (by decide +kernel) ?_
        refine lv_iload_n hx hb dX12_text_33 rfl (lv_at hl 1 rfl) ?_
        refine r_callVi (As := [.int 60, .int k0]) (rest := []) C hP hS hl.1 ⟨Nat.zero_le _, Nat.zero_le _⟩ (M_sign8 l D cy sz0 sa ad (rS σ 0 (0 : Int32)) H.size (60 : Int32) k0 (v_text_6 σ k0 r4 c3 hr4 c5)) (n := 2) ⟨wm_231, wm_217, by decide +kernel⟩ ⟨wm_232, wm_233, wm_10⟩ rfl rfl (lv_room (Nat.le_of_ble_eq_true rfl)) ⟨Nat.le_of_ble_eq_true rfl, Nat.le_of_ble_eq_true rfl⟩ dX12_text_34 (fun r6 u H locs hr6 hP hS => ?_)
        obtain ⟨hr6, hr6y⟩ := hr6
        have hr6y : ∀ s9 : List Int, QTT ((σ.2.2.1 52) (60 : Int32).toNatClampNeg) ((σ.2.2.1 53) (60 : Int32).toNatClampNeg) s9 → 0 ≤ k0.toInt → k0.toInt < 17 → r6.toInt = s9.getD k0.toInt.toNat 0 := hr6y
        have hr6 : True := hr6
        refine lv_goto (tgt := 41) hx hb dX12_text_37 (by decide) ?_
        exact r_reti C (0 : Int32) ⟨(v_text_1  ), (v_text_7 σ k0 x1 r4 r6 ex1 tx1 c2 c3 hr4 c5 hr6y)⟩ hP hS dX12_text_41

-- post @44
theorem v_about_1   : (0 : Int32).toInt = 0 := by
  have q0 : (0 : Int32).toInt = 0 := by decide +kernel
  first | assumption | omega | (subst_vars; omega) | trivial
-- post2 @44
theorem v_about_2 (σ : RS) (k0 : Int32) (c1_0 : k0.toInt = 0) : (σ.1 1).toInt = if k0.toInt = 0 then (σ.1 1).toInt else if k0.toInt = 1 then (σ.1 10).toInt else if k0.toInt = 2 then (σ.1 35).toInt else if k0.toInt = 3 then (σ.1 47).toInt else if k0.toInt = 4 then (σ.1 49).toInt else -1 := by
  (repeat' split) <;> omega
-- post2 @49
theorem v_about_3 (σ : RS) (k0 : Int32) (c1_0 : ¬ k0.toInt = 0) (c1_1 : k0.toInt = 1) : (σ.1 10).toInt = if k0.toInt = 0 then (σ.1 1).toInt else if k0.toInt = 1 then (σ.1 10).toInt else if k0.toInt = 2 then (σ.1 35).toInt else if k0.toInt = 3 then (σ.1 47).toInt else if k0.toInt = 4 then (σ.1 49).toInt else -1 := by
  (repeat' split) <;> omega
-- post2 @54
theorem v_about_4 (σ : RS) (k0 : Int32) (c1_0 : ¬ k0.toInt = 0) (c1_1 : ¬ k0.toInt = 1) (c1_2 : k0.toInt = 2) : (σ.1 35).toInt = if k0.toInt = 0 then (σ.1 1).toInt else if k0.toInt = 1 then (σ.1 10).toInt else if k0.toInt = 2 then (σ.1 35).toInt else if k0.toInt = 3 then (σ.1 47).toInt else if k0.toInt = 4 then (σ.1 49).toInt else -1 := by
  (repeat' split) <;> omega
-- post2 @59
theorem v_about_5 (σ : RS) (k0 : Int32) (c1_0 : ¬ k0.toInt = 0) (c1_1 : ¬ k0.toInt = 1) (c1_2 : ¬ k0.toInt = 2) (c1_3 : k0.toInt = 3) : (σ.1 47).toInt = if k0.toInt = 0 then (σ.1 1).toInt else if k0.toInt = 1 then (σ.1 10).toInt else if k0.toInt = 2 then (σ.1 35).toInt else if k0.toInt = 3 then (σ.1 47).toInt else if k0.toInt = 4 then (σ.1 49).toInt else -1 := by
  (repeat' split) <;> omega
-- post2 @64
theorem v_about_6 (σ : RS) (k0 : Int32) (c1_0 : ¬ k0.toInt = 0) (c1_1 : ¬ k0.toInt = 1) (c1_2 : ¬ k0.toInt = 2) (c1_3 : ¬ k0.toInt = 3) (c1_4 : k0.toInt = 4) : (σ.1 49).toInt = if k0.toInt = 0 then (σ.1 1).toInt else if k0.toInt = 1 then (σ.1 10).toInt else if k0.toInt = 2 then (σ.1 35).toInt else if k0.toInt = 3 then (σ.1 47).toInt else if k0.toInt = 4 then (σ.1 49).toInt else -1 := by
  (repeat' split) <;> omega
-- post2 @66
theorem v_about_7 (σ : RS) (k0 : Int32) (c1_0 : ¬ k0.toInt = 0) (c1_1 : ¬ k0.toInt = 1) (c1_2 : ¬ k0.toInt = 2) (c1_3 : ¬ k0.toInt = 3) (c1_4 : ¬ k0.toInt = 4) : (-1 : Int32).toInt = if k0.toInt = 0 then (σ.1 1).toInt else if k0.toInt = 1 then (σ.1 10).toInt else if k0.toInt = 2 then (σ.1 35).toInt else if k0.toInt = 3 then (σ.1 47).toInt else if k0.toInt = 4 then (σ.1 49).toInt else -1 := by
  have qm1 : (-1 : Int32).toInt = (-1) := by decide +kernel
  (repeat' split) <;> omega
set_option maxHeartbeats 4000000 in
set_option maxRecDepth 100000 in
theorem M_about (l : Launch) (D : va_G) (cy : Nat → ClassId) (sz0 : Nat) (sa : Nat → Nat) (ad : Nat → Nat) (σ : RS) (sz : Nat) (k0 : Int32) (hpre : True) : Met l yX12_about (Cond.code yX12_about cX12_about 2 (some .int) :: GWm) ({ frames := 0, cells := 0, slots := 0, locals := 0 }) (PcR D cy sz0 sa ad [.ref (ad 0), .int k0] σ sz) (va_Qi (fun (r : Int32) (u : Int32) => (u.toInt = 0) ∧ (r.toInt = if k0.toInt = 0 then (σ.1 1).toInt else if k0.toInt = 1 then (σ.1 10).toInt else if k0.toInt = 2 then (σ.1 35).toInt else if k0.toInt = 3 then (σ.1 47).toInt else if k0.toInt = 4 then (σ.1 49).toInt else -1)) (fun (u : Int32) (t : State) => RP D cy ad (rS σ 0 u) t.heap) (AR cy ad sz)) 0 0 (AR cy ad sz) := by
  refine RM_of (loc0 := [(0, .ref (ad 0)), (1, .int k0)]) (by decide) rfl rfl (Nat.le_of_ble_eq_true rfl) ?_
  intro p e s m below meth c ls hsz C hP hS hl
  have hx := C.1
  have hb := C.2.1
  have hown := C.2.2.2.2.1
  have hw := C.2.2.2.2.2.1
  clear hsz
  refine lv_aload_n hx hb dX12_about_0 rfl (lv_at hl 0 rfl) ?_
  refine lv_iconst (v := 0) hx hb dX12_about_1 (by decide +kernel) ?_
  refine rp_0 C hP hS wm_1 dX12_about_2 (fun H locs hP hS => ?_)
  refine lv_iload_n hx hb dX12_about_5 rfl (lv_at hl 1 rfl) ?_
  by_cases c1_0 : k0.toInt = 0
  · refine lv_tableIn (off := 34) (tgt := 40) hx hb dX12_about_6 (by rw [c1_0]; decide +kernel) (by rw [c1_0]; decide +kernel) (by rw [c1_0]; decide +kernel) (by decide) ?_
    refine lv_aload_n hx hb dX12_about_40 rfl (lv_at hl 0 rfl) ?_
    refine rg_1 (v := (σ.1 1)) C hP rfl wm_3 dX12_about_41 ?_
    exact r_reti C (0 : Int32) ⟨(v_about_1  ), (v_about_2 σ k0 c1_0)⟩ hP hS dX12_about_44
  · by_cases c1_1 : k0.toInt = 1
    · refine lv_tableIn (off := 39) (tgt := 45) hx hb dX12_about_6 (by rw [c1_1]; decide +kernel) (by rw [c1_1]; decide +kernel) (by rw [c1_1]; decide +kernel) (by decide) ?_
      refine lv_aload_n hx hb dX12_about_45 rfl (lv_at hl 0 rfl) ?_
      refine rg_10 (v := (σ.1 10)) C hP rfl wm_162 dX12_about_46 ?_
      exact r_reti C (0 : Int32) ⟨(v_about_1  ), (v_about_3 σ k0 c1_0 c1_1)⟩ hP hS dX12_about_49
    · by_cases c1_2 : k0.toInt = 2
      · refine lv_tableIn (off := 44) (tgt := 50) hx hb dX12_about_6 (by rw [c1_2]; decide +kernel) (by rw [c1_2]; decide +kernel) (by rw [c1_2]; decide +kernel) (by decide) ?_
        refine lv_aload_n hx hb dX12_about_50 rfl (lv_at hl 0 rfl) ?_
        refine rg_35 (v := (σ.1 35)) C hP rfl wm_174 dX12_about_51 ?_
        exact r_reti C (0 : Int32) ⟨(v_about_1  ), (v_about_4 σ k0 c1_0 c1_1 c1_2)⟩ hP hS dX12_about_54
      · by_cases c1_3 : k0.toInt = 3
        · refine lv_tableIn (off := 49) (tgt := 55) hx hb dX12_about_6 (by rw [c1_3]; decide +kernel) (by rw [c1_3]; decide +kernel) (by rw [c1_3]; decide +kernel) (by decide) ?_
          refine lv_aload_n hx hb dX12_about_55 rfl (lv_at hl 0 rfl) ?_
          refine rg_47 (v := (σ.1 47)) C hP rfl wm_186 dX12_about_56 ?_
          exact r_reti C (0 : Int32) ⟨(v_about_1  ), (v_about_5 σ k0 c1_0 c1_1 c1_2 c1_3)⟩ hP hS dX12_about_59
        · by_cases c1_4 : k0.toInt = 4
          · refine lv_tableIn (off := 54) (tgt := 60) hx hb dX12_about_6 (by rw [c1_4]; decide +kernel) (by rw [c1_4]; decide +kernel) (by rw [c1_4]; decide +kernel) (by decide) ?_
            refine lv_aload_n hx hb dX12_about_60 rfl (lv_at hl 0 rfl) ?_
            refine rg_49 (v := (σ.1 49)) C hP rfl wm_348 dX12_about_61 ?_
            exact r_reti C (0 : Int32) ⟨(v_about_1  ), (v_about_6 σ k0 c1_0 c1_1 c1_2 c1_3 c1_4)⟩ hP hS dX12_about_64
          · refine lv_tableOut (tgt := 65) hx hb dX12_about_6 (by omega) (by decide) ?_
            refine lv_iconst (v := (-1)) hx hb dX12_about_65 (by decide +kernel) ?_
            exact r_reti C (0 : Int32) ⟨(v_about_1  ), (v_about_7 σ k0 c1_0 c1_1 c1_2 c1_3 c1_4)⟩ hP hS dX12_about_66
