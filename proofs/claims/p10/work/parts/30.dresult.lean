-- post @15
theorem v_result_1   : (0 : Int32).toInt = 0 := by
  have q0 : (0 : Int32).toInt = 0 := by decide +kernel
  first | assumption | omega | (subst_vars; omega) | trivial
-- post2 @15
theorem v_result_2 (σ : RS) (k0 : Int32) (hpre : FINS (σ.2.1 51) (σ.2.2.2) 0) (c1 : k0.toInt < 0) : ∀ w9 : QV, QAT (qH (σ.2.1 36) (σ.2.1 37) (σ.2.1 38) (σ.2.1 39) (σ.2.1 40) (σ.2.1 41) (σ.2.1 42) (σ.2.1 43) (σ.2.1 44) (σ.2.1 45) (σ.2.1 46) (σ.2.1 48)) (σ.1 47).toInt ((σ.2.1 51), (σ.2.2.1 52), (σ.2.2.1 53), (σ.2.2.2)) 60 w9 → (-1 : Int32).toInt = qRes w9 k0.toInt := by
  have qm1 : (-1 : Int32).toInt = (-1) := by decide +kernel
  intro w9 ha
  have e60 := (by decide +kernel : (60 : Int32).toNatClampNeg = 60)
  have kd := ha.kd
  have kk := ha.ok.kd
  dsimp only at kd
  unfold qRes
  rw [if_neg (by omega), if_neg (by omega), if_neg (by omega)]; omega
-- post2 @95
theorem v_result_3 (σ : RS) (k0 : Int32) (x3 : Int32) (x8 : Int64) (x9 : Int32) (hpre : FINS (σ.2.1 51) (σ.2.2.2) 0) (c1 : 0 ≤ k0.toInt) (c2 : k0.toInt ≤ 2) (ex3 : x3 = (σ.2.1 51) 60) (tx3 : x3.toInt = ((σ.2.1 51) 60).toInt) (c4 : ¬ k0.toInt = 0) (c5 : ¬ k0.toInt = 2) (c6 : ¬ x3.toInt = 3) (c7 : ¬ x3.toInt = 4) (ex8 : x8 = (σ.2.2.1 52) 60) (tx8 : x8.toInt = ((σ.2.2.1 52) 60).toInt) (ex9 : x9 = Int64.toInt32 x8) (tx9 : -2147483648 ≤ x8.toInt → x8.toInt < 2147483648 → x9.toInt = x8.toInt) : ∀ w9 : QV, QAT (qH (σ.2.1 36) (σ.2.1 37) (σ.2.1 38) (σ.2.1 39) (σ.2.1 40) (σ.2.1 41) (σ.2.1 42) (σ.2.1 43) (σ.2.1 44) (σ.2.1 45) (σ.2.1 46) (σ.2.1 48)) (σ.1 47).toInt ((σ.2.1 51), (σ.2.2.1 52), (σ.2.2.1 53), (σ.2.2.2)) 60 w9 → x9.toInt = qRes w9 k0.toInt := by
  intro w9 ha
  have e60 := (by decide +kernel : (60 : Int32).toNatClampNeg = 60)
  have kd := ha.kd
  have kk := ha.ok.kd
  dsimp only at kd
  have kx : x3.toInt = w9.1 := by rw [ex3]; first | exact kd | (rw [e60]; exact kd)
  unfold qRes
  rw [if_neg (by omega), if_pos (by omega)]
  rw [if_neg (by omega), if_neg (by omega)]
  have z := (ha.2.2.2.2 (by omega) (by omega)).1
  dsimp only at z
  have za : x8.toInt = w9.2.1 := by rw [ex8]; first | exact z | (rw [e60]; exact z)
  have b := ha.ok.n9
  rw [tx9 (by omega) (by omega), za]
-- pre:lengthOf@81 @81
theorem v_result_4   : 0 ≤ (60 : Int32).toInt ∧ (60 : Int32).toInt < 980 := by
  have q60 : (60 : Int32).toInt = 60 := by decide +kernel
  refine ⟨?_, ?_⟩ <;> first | assumption | omega | (subst_vars; omega) | trivial
-- post2 @95
theorem v_result_5 (σ : RS) (k0 : Int32) (x3 : Int32) (r10 : Int32) (hpre : FINS (σ.2.1 51) (σ.2.2.2) 0) (c1 : 0 ≤ k0.toInt) (c2 : k0.toInt ≤ 2) (ex3 : x3 = (σ.2.1 51) 60) (tx3 : x3.toInt = ((σ.2.1 51) 60).toInt) (c4 : ¬ k0.toInt = 0) (c5 : ¬ k0.toInt = 2) (c6 : ¬ x3.toInt = 3) (c7 : x3.toInt = 4) (hr10 : r10 = LENF ((σ.2.2.1 52) (60 : Int32).toNatClampNeg)) : ∀ w9 : QV, QAT (qH (σ.2.1 36) (σ.2.1 37) (σ.2.1 38) (σ.2.1 39) (σ.2.1 40) (σ.2.1 41) (σ.2.1 42) (σ.2.1 43) (σ.2.1 44) (σ.2.1 45) (σ.2.1 46) (σ.2.1 48)) (σ.1 47).toInt ((σ.2.1 51), (σ.2.2.1 52), (σ.2.2.1 53), (σ.2.2.2)) 60 w9 → r10.toInt = qRes w9 k0.toInt := by
  have q60 : (60 : Int32).toInt = 60 := by decide +kernel
  have l_hr10 := LENF_le ((σ.2.2.1 52) (60 : Int32).toNatClampNeg)
  rw [← hr10] at l_hr10
  intro w9 ha
  have e60 := (by decide +kernel : (60 : Int32).toNatClampNeg = 60)
  have kd := ha.kd
  have kk := ha.ok.kd
  dsimp only at kd
  have kx : x3.toInt = w9.1 := by rw [ex3]; first | exact kd | (rw [e60]; exact kd)
  unfold qRes
  rw [if_neg (by omega), if_pos (by omega)]
  rw [if_neg (by omega), if_pos (by omega)]
  obtain ⟨s8, rfl, ht⟩ := ha.k4 (by show ((σ.2.1 51) 60).toInt = 4; omega)
  dsimp only at ht
  have e := q_len ht.1 ht.2.2.1 ht.2.2.2
  rw [hr10]
  first | exact e | (rw [e60]; exact e)
-- post2 @95
theorem v_result_6 (σ : RS) (k0 : Int32) (x3 : Int32) (x11 : UInt64) (x12 : Int32) (hpre : FINS (σ.2.1 51) (σ.2.2.2) 0) (c1 : 0 ≤ k0.toInt) (c2 : k0.toInt ≤ 2) (ex3 : x3 = (σ.2.1 51) 60) (tx3 : x3.toInt = ((σ.2.1 51) 60).toInt) (c4 : ¬ k0.toInt = 0) (c5 : ¬ k0.toInt = 2) (c6 : x3.toInt = 3) (ex11 : x11 = (σ.2.2.2) 60) (ex12 : x12 = FP.d2i x11) : ∀ w9 : QV, QAT (qH (σ.2.1 36) (σ.2.1 37) (σ.2.1 38) (σ.2.1 39) (σ.2.1 40) (σ.2.1 41) (σ.2.1 42) (σ.2.1 43) (σ.2.1 44) (σ.2.1 45) (σ.2.1 46) (σ.2.1 48)) (σ.1 47).toInt ((σ.2.1 51), (σ.2.2.1 52), (σ.2.2.1 53), (σ.2.2.2)) 60 w9 → x12.toInt = qRes w9 k0.toInt := by
  intro w9 ha
  have e60 := (by decide +kernel : (60 : Int32).toNatClampNeg = 60)
  have kd := ha.kd
  have kk := ha.ok.kd
  dsimp only at kd
  have kx : x3.toInt = w9.1 := by rw [ex3]; first | exact kd | (rw [e60]; exact kd)
  unfold qRes
  rw [if_neg (by omega), if_pos (by omega)]
  rw [if_pos (by omega)]
  have e3 := ha.2.2.1 (by omega)
  dsimp only at e3
  rw [ex12, ex11]
  first | rw [e3] | rw [e60, e3]
-- post2 @56
theorem v_result_7 (σ : RS) (k0 : Int32) (x3 : Int32) (hpre : FINS (σ.2.1 51) (σ.2.2.2) 0) (c1 : 0 ≤ k0.toInt) (c2 : k0.toInt ≤ 2) (ex3 : x3 = (σ.2.1 51) 60) (tx3 : x3.toInt = ((σ.2.1 51) 60).toInt) (c4 : ¬ k0.toInt = 0) (c5 : k0.toInt = 2) (c13 : ¬ x3.toInt = 3) : ∀ w9 : QV, QAT (qH (σ.2.1 36) (σ.2.1 37) (σ.2.1 38) (σ.2.1 39) (σ.2.1 40) (σ.2.1 41) (σ.2.1 42) (σ.2.1 43) (σ.2.1 44) (σ.2.1 45) (σ.2.1 46) (σ.2.1 48)) (σ.1 47).toInt ((σ.2.1 51), (σ.2.2.1 52), (σ.2.2.1 53), (σ.2.2.2)) 60 w9 → (0 : Int32).toInt = qRes w9 k0.toInt := by
  have q0 : (0 : Int32).toInt = 0 := by decide +kernel
  intro w9 ha
  have e60 := (by decide +kernel : (60 : Int32).toNatClampNeg = 60)
  have kd := ha.kd
  have kk := ha.ok.kd
  dsimp only at kd
  have kx : x3.toInt = w9.1 := by rw [ex3]; first | exact kd | (rw [e60]; exact kd)
  unfold qRes
  rw [if_neg (by omega), if_neg (by omega), if_pos (by omega)]
  rw [if_neg (by omega)]; omega
-- nan@50 @50
theorem v_result_8 (σ : RS) (x3 : Int32) (x14 : UInt64) (hpre : FINS (σ.2.1 51) (σ.2.2.2) 0) (ex3 : x3 = (σ.2.1 51) 60) (tx3 : x3.toInt = ((σ.2.1 51) 60).toInt) (c13 : x3.toInt = 3) (ex14 : x14 = (σ.2.2.2) 60) : vf_n64 (FP.dmul (4652007308841189376 : UInt64) x14) := by
  obtain ⟨d, g1, g2⟩ := fp_mul fp_k1000 (show FN x14 by rw [ex14]; exact hpre _ (by decide +kernel) (Or.inr (by decide +kernel)) (by omega))
  exact fp_n g1 g2
-- post2 @56
theorem v_result_9 (σ : RS) (k0 : Int32) (x3 : Int32) (x14 : UInt64) (x15 : UInt64) (x16 : Int32) (hpre : FINS (σ.2.1 51) (σ.2.2.2) 0) (c1 : 0 ≤ k0.toInt) (c2 : k0.toInt ≤ 2) (ex3 : x3 = (σ.2.1 51) 60) (tx3 : x3.toInt = ((σ.2.1 51) 60).toInt) (c4 : ¬ k0.toInt = 0) (c5 : k0.toInt = 2) (c13 : x3.toInt = 3) (ex14 : x14 = (σ.2.2.2) 60) (ex15 : x15 = FP.dmul (4652007308841189376 : UInt64) x14) (ex16 : x16 = FP.d2i x15) : ∀ w9 : QV, QAT (qH (σ.2.1 36) (σ.2.1 37) (σ.2.1 38) (σ.2.1 39) (σ.2.1 40) (σ.2.1 41) (σ.2.1 42) (σ.2.1 43) (σ.2.1 44) (σ.2.1 45) (σ.2.1 46) (σ.2.1 48)) (σ.1 47).toInt ((σ.2.1 51), (σ.2.2.1 52), (σ.2.2.1 53), (σ.2.2.2)) 60 w9 → x16.toInt = qRes w9 k0.toInt := by
  intro w9 ha
  have e60 := (by decide +kernel : (60 : Int32).toNatClampNeg = 60)
  have kd := ha.kd
  have kk := ha.ok.kd
  dsimp only at kd
  have kx : x3.toInt = w9.1 := by rw [ex3]; first | exact kd | (rw [e60]; exact kd)
  unfold qRes
  rw [if_neg (by omega), if_neg (by omega), if_pos (by omega)]
  rw [if_pos (by omega)]
  have e3 := ha.2.2.1 (by omega)
  dsimp only at e3
  rw [ex16, ex15, ex14]
  first | rw [e3] | rw [e60, e3]
-- post2 @29
theorem v_result_10 (σ : RS) (k0 : Int32) (x3 : Int32) (hpre : FINS (σ.2.1 51) (σ.2.2.2) 0) (c1 : 0 ≤ k0.toInt) (c2 : k0.toInt ≤ 2) (ex3 : x3 = (σ.2.1 51) 60) (tx3 : x3.toInt = ((σ.2.1 51) 60).toInt) (c4 : k0.toInt = 0) : ∀ w9 : QV, QAT (qH (σ.2.1 36) (σ.2.1 37) (σ.2.1 38) (σ.2.1 39) (σ.2.1 40) (σ.2.1 41) (σ.2.1 42) (σ.2.1 43) (σ.2.1 44) (σ.2.1 45) (σ.2.1 46) (σ.2.1 48)) (σ.1 47).toInt ((σ.2.1 51), (σ.2.2.1 52), (σ.2.2.1 53), (σ.2.2.2)) 60 w9 → x3.toInt = qRes w9 k0.toInt := by
  intro w9 ha
  have e60 := (by decide +kernel : (60 : Int32).toNatClampNeg = 60)
  have kd := ha.kd
  have kk := ha.ok.kd
  dsimp only at kd
  have kx : x3.toInt = w9.1 := by rw [ex3]; first | exact kd | (rw [e60]; exact kd)
  unfold qRes
  rw [if_pos (by omega)]; omega
-- post2 @15
theorem v_result_11 (σ : RS) (k0 : Int32) (hpre : FINS (σ.2.1 51) (σ.2.2.2) 0) (c1 : 0 ≤ k0.toInt) (c2 : 2 < k0.toInt) : ∀ w9 : QV, QAT (qH (σ.2.1 36) (σ.2.1 37) (σ.2.1 38) (σ.2.1 39) (σ.2.1 40) (σ.2.1 41) (σ.2.1 42) (σ.2.1 43) (σ.2.1 44) (σ.2.1 45) (σ.2.1 46) (σ.2.1 48)) (σ.1 47).toInt ((σ.2.1 51), (σ.2.2.1 52), (σ.2.2.1 53), (σ.2.2.2)) 60 w9 → (-1 : Int32).toInt = qRes w9 k0.toInt := by
  have qm1 : (-1 : Int32).toInt = (-1) := by decide +kernel
  intro w9 ha
  have e60 := (by decide +kernel : (60 : Int32).toNatClampNeg = 60)
  have kd := ha.kd
  have kk := ha.ok.kd
  dsimp only at kd
  unfold qRes
  rw [if_neg (by omega), if_neg (by omega), if_neg (by omega)]; omega
set_option maxHeartbeats 4000000 in
set_option maxRecDepth 100000 in
theorem M_result (l : Launch) (D : va_G) (cy : Nat → ClassId) (sz0 : Nat) (sa : Nat → Nat) (ad : Nat → Nat) (σ : RS) (sz : Nat) (k0 : Int32) (hpre : FINS (σ.2.1 51) (σ.2.2.2) 0) : Met l yX12_result (Cond.code yX12_result cX12_result 3 (some .int) :: GWm) ({ frames := 1, cells := 0, slots := 0, locals := 21 }) (PcR D cy sz0 sa ad [.ref (ad 0), .int k0] σ sz) (va_Qi (fun (r : Int32) (u : Int32) => (u.toInt = 0) ∧ (∀ w9 : QV, QAT (qH (σ.2.1 36) (σ.2.1 37) (σ.2.1 38) (σ.2.1 39) (σ.2.1 40) (σ.2.1 41) (σ.2.1 42) (σ.2.1 43) (σ.2.1 44) (σ.2.1 45) (σ.2.1 46) (σ.2.1 48)) (σ.1 47).toInt ((σ.2.1 51), (σ.2.2.1 52), (σ.2.2.1 53), (σ.2.2.2)) 60 w9 → r.toInt = qRes w9 k0.toInt)) (fun (u : Int32) (t : State) => RP D cy ad (rS σ 0 u) t.heap) (AR cy ad sz)) 0 0 (AR cy ad sz) := by
  refine RM_of (loc0 := [(0, .ref (ad 0)), (1, .int k0)]) (by decide) rfl rfl (Nat.le_of_ble_eq_true rfl) ?_
  intro p e s m below meth c ls hsz C hP hS hl
  have hx := C.1
  have hb := C.2.1
  have hown := C.2.2.2.2.1
  have hw := C.2.2.2.2.2.1
  clear hsz
  refine lv_aload_n hx hb dX12_result_0 rfl (lv_at hl 0 rfl) ?_
  refine lv_iconst (v := 0) hx hb dX12_result_1 (by decide +kernel) ?_
  refine rp_0 C hP hS wm_1 dX12_result_2 (fun H locs hP hS => ?_)
  refine lv_iload_n hx hb dX12_result_5 rfl (lv_at hl 1 rfl) ?_
  refine lv_if_lt (tgt := 14) hx hb dX12_result_6 (by decide) (fun c1 => ?_) (fun c1 => ?_)
  · have c1 : k0.toInt < 0 := by have h := z_lt c1; rw [show (0 : Int32).toInt = 0 from by decide +kernel] at h; exact h
    refine lv_iconst (v := (-1)) hx hb dX12_result_14 (by decide +kernel) ?_
    exact r_reti C (0 : Int32) ⟨(v_result_1  ), (v_result_2 σ k0 hpre c1)⟩ hP hS dX12_result_15
  · have c1 : 0 ≤ k0.toInt := by have h := z_nlt c1; rw [show (0 : Int32).toInt = 0 from by decide +kernel] at h; exact h
    refine lv_iload_n hx hb dX12_result_9 rfl (lv_at hl 1 rfl) ?_
    refine lv_iconst (v := 2) hx hb dX12_result_10 (by decide +kernel) ?_
    refine lv_icmp_le (tgt := 16) hx hb dX12_result_11 (by decide) (fun c2 => ?_) (fun c2 => ?_)
    · have c2 : k0.toInt ≤ 2 := by have h := z_le c2; rw [show (2 : Int32).toInt = 2 from by decide +kernel] at h; exact h
      refine lv_aload_n hx hb dX12_result_16 rfl (lv_at hl 0 rfl) ?_
      refine rg_51 C hP wm_205 dX12_result_17 ?_
      refine lv_bipush (v := 60) hx hb dX12_result_20 (by decide +kernel) ?_
      refine ra_51 (f := (σ.2.1 51)) C hP rfl (vp_in_iff.mpr (by decide +kernel)) dX12_result_22 (fun x3 ex3 => ?_)
      have ex3 : x3 = (σ.2.1 51) 60 := ex3
      have tx3 : x3.toInt = ((σ.2.1 51) 60).toInt := by rw [ex3]
      refine lv_istore_n (lv' := [(2, .int x3), (0, .ref (ad 0)), (1, .int k0)]) hx hb dX12_result_23 rfl hl (by decide) rfl (fun ls hl => ?_)
      refine lv_iload_n hx hb dX12_result_24 rfl (lv_at hl 2 rfl) ?_
      refine lv_if_ne (tgt := 30) hx hb dX12_result_25 (by decide) (fun c4 => ?_) (fun c4 => ?_)
      · have c4 : ¬ k0.toInt = 0 := by have h := z_ne c4; rw [show (0 : Int32).toInt = 0 from by decide +kernel] at h; exact h
        refine lv_iload_n hx hb dX12_result_30 rfl (lv_at hl 2 rfl) ?_
        refine lv_iconst (v := 2) hx hb dX12_result_31 (by decide +kernel) ?_
        refine lv_icmp_ne (tgt := 57) hx hb dX12_result_32 (by decide) (fun c5 => ?_) (fun c5 => ?_)
        · have c5 : ¬ k0.toInt = 2 := by have h := z_ne c5; rw [show (2 : Int32).toInt = 2 from by decide +kernel] at h; exact h
          refine lv_iload_n hx hb dX12_result_57 rfl (lv_at hl 0 rfl) ?_
          refine lv_iconst (v := 3) hx hb dX12_result_58 (by decide +kernel) ?_
          refine lv_icmp_ne (tgt := 73) hx hb dX12_result_59 (by decide) (fun c6 => ?_) (fun c6 => ?_)
          · have c6 : ¬ x3.toInt = 3 := by have h := z_ne c6; rw [show (3 : Int32).toInt = 3 from by decide +kernel] at h; exact h
            refine lv_iload_n hx hb dX12_result_73 rfl (lv_at hl 0 rfl) ?_
            refine lv_iconst (v := 4) hx hb dX12_result_74 (by decide +kernel) ?_
            refine lv_icmp_ne (tgt := 87) hx hb dX12_result_75 (by decide) (fun c7 => ?_) (fun c7 => ?_)
            · have c7 : ¬ x3.toInt = 4 := by have h := z_ne c7; rw [show (4 : Int32).toInt = 4 from by decide +kernel] at h; exact h
              refine lv_aload_n hx hb dX12_result_87 rfl (lv_at hl 1 rfl) ?_
              refine rg_52 C hP wm_206 dX12_result_88 ?_
              refine lv_bipush (v := 60) hx hb dX12_result_91 (by decide +kernel) ?_
              refine ra_52 (f := (σ.2.2.1 52)) C hP rfl (vp_in_iff.mpr (by decide +kernel)) dX12_result_93 (fun x8 ex8 => ?_)
              have ex8 : x8 = (σ.2.2.1 52) 60 := ex8
              have tx8 : x8.toInt = ((σ.2.2.1 52) 60).toInt := by rw [ex8]
              refine lv_l2i hx hb dX12_result_94 rfl ?_
              refine lv_topi (fun x9 ex9 => ?_)
              have tx9 : -2147483648 ≤ x8.toInt → x8.toInt < 2147483648 → x9.toInt = x8.toInt := z_l2i ex9
              exact r_reti C (0 : Int32) ⟨(v_result_1  ), (v_result_3 σ k0 x3 x8 x9 hpre c1 c2 ex3 tx3 c4 c5 c6 c7 ex8 tx8 ex9 tx9)⟩ hP hS dX12_result_95
            · have c7 : x3.toInt = 4 := by have h := z_eq c7; rw [show (4 : Int32).toInt = 4 from by decide +kernel] at h; exact h
              refine lv_aload_n hx hb dX12_result_78 rfl (lv_at hl 1 rfl) ?_
              refine lv_bipush (v := 60) hx hb dX12_result_79 (by decide +kernel) ?_
              refine r_callVi (As := [.int 60]) (rest := []) C hP hS hl.1 ⟨Nat.zero_le _, Nat.zero_le _⟩ (M_lengthOf l D cy sz0 sa ad (rS σ 0 (0 : Int32)) H.size (60 : Int32) (v_result_4  )) (n := 1) ⟨wm_228, wm_216, by decide +kernel⟩ ⟨wm_229, wm_230, wm_10⟩ rfl rfl (lv_room (Nat.le_of_ble_eq_true rfl)) ⟨Nat.le_of_ble_eq_true rfl, Nat.le_of_ble_eq_true rfl⟩ dX12_result_81 (fun r10 u H locs hr10 hP hS => ?_)
              have hr10 : r10 = LENF ((σ.2.2.1 52) (60 : Int32).toNatClampNeg) := hr10
              refine lv_goto (tgt := 95) hx hb dX12_result_84 (by decide) ?_
              exact r_reti C (0 : Int32) ⟨(v_result_1  ), (v_result_5 σ k0 x3 r10 hpre c1 c2 ex3 tx3 c4 c5 c6 c7 hr10)⟩ hP hS dX12_result_95
          · have c6 : x3.toInt = 3 := by have h := z_eq c6; rw [show (3 : Int32).toInt = 3 from by decide +kernel] at h; exact h
            refine lv_aload_n hx hb dX12_result_62 rfl (lv_at hl 1 rfl) ?_
            refine rg_54 C hP wm_209 dX12_result_63 ?_
            refine lv_bipush (v := 60) hx hb dX12_result_66 (by decide +kernel) ?_
            refine ra_54 (f := (σ.2.2.2)) C hP rfl (vp_in_iff.mpr (by decide +kernel)) dX12_result_68 (fun x11 ex11 => ?_)
            have ex11 : x11 = (σ.2.2.2) 60 := ex11
            refine lv_d2i hx hb dX12_result_69 ?_
            refine lv_topi (fun x12 ex12 => ?_)
            refine lv_goto (tgt := 95) hx hb dX12_result_70 (by decide) ?_
            exact r_reti C (0 : Int32) ⟨(v_result_1  ), (v_result_6 σ k0 x3 x11 x12 hpre c1 c2 ex3 tx3 c4 c5 c6 ex11 ex12)⟩ hP hS dX12_result_95
        · have c5 : k0.toInt = 2 := by have h := z_eq c5; rw [show (2 : Int32).toInt = 2 from by decide +kernel] at h; exact h
          refine lv_iload_n hx hb dX12_result_35 rfl (lv_at hl 0 rfl) ?_
          refine lv_iconst (v := 3) hx hb dX12_result_36 (by decide +kernel) ?_
          refine lv_icmp_ne (tgt := 55) hx hb dX12_result_37 (by decide) (fun c13 => ?_) (fun c13 => ?_)
          · have c13 : ¬ x3.toInt = 3 := by have h := z_ne c13; rw [show (3 : Int32).toInt = 3 from by decide +kernel] at h; exact h
            refine lv_iconst (v := 0) hx hb dX12_result_55 (by decide +kernel) ?_
            exact r_reti C (0 : Int32) ⟨(v_result_1  ), (v_result_7 σ k0 x3 hpre c1 c2 ex3 tx3 c4 c5 c13)⟩ hP hS dX12_result_56
          · have c13 : x3.toInt = 3 := by have h := z_eq c13; rw [show (3 : Int32).toInt = 3 from by decide +kernel] at h; exact h
            refine lv_ldc2d (v := 4652007308841189376) hx hb hown (hw _ wm_366) dX12_result_40 ?_
            refine lv_aload_n hx hb dX12_result_43 rfl (lv_at hl 1 rfl) ?_
            refine rg_54 C hP wm_209 dX12_result_44 ?_
            refine lv_bipush (v := 60) hx hb dX12_result_47 (by decide +kernel) ?_
            refine ra_54 (f := (σ.2.2.2)) C hP rfl (vp_in_iff.mpr (by decide +kernel)) dX12_result_49 (fun x14 ex14 => ?_)
            have ex14 : x14 = (σ.2.2.2) 60 := ex14
            refine lv_dmul hx hb dX12_result_50 (v_result_8 σ x3 x14 hpre ex3 tx3 c13 ex14) ?_
            refine lv_topd (fun x15 ex15 => ?_)
            refine lv_d2i hx hb dX12_result_51 ?_
            refine lv_topi (fun x16 ex16 => ?_)
            refine lv_goto (tgt := 56) hx hb dX12_result_52 (by decide) ?_
            exact r_reti C (0 : Int32) ⟨(v_result_1  ), (v_result_9 σ k0 x3 x14 x15 x16 hpre c1 c2 ex3 tx3 c4 c5 c13 ex14 ex15 ex16)⟩ hP hS dX12_result_56
      · have c4 : k0.toInt = 0 := by have h := z_eq c4; rw [show (0 : Int32).toInt = 0 from by decide +kernel] at h; exact h
        refine lv_iload_n hx hb dX12_result_28 rfl (lv_at hl 0 rfl) ?_
        exact r_reti C (0 : Int32) ⟨(v_result_1  ), (v_result_10 σ k0 x3 hpre c1 c2 ex3 tx3 c4)⟩ hP hS dX12_result_29
    · have c2 : 2 < k0.toInt := by have h := z_nle c2; rw [show (2 : Int32).toInt = 2 from by decide +kernel] at h; exact h
      refine lv_iconst (v := (-1)) hx hb dX12_result_14 (by decide +kernel) ?_
      exact r_reti C (0 : Int32) ⟨(v_result_1  ), (v_result_11 σ k0 hpre c1 c2)⟩ hP hS dX12_result_15
