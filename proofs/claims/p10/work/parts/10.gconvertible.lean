-- init@5 @5
theorem v_steps_1 (σ : RS) (k0 : Int32) (hpre_0 : 0 ≤ (σ.1 35).toInt) (hpre_1 : (σ.1 35).toInt ≤ 5) (hpre_2 : CLS (σ.1 35).toInt (σ.2.1 36) (σ.2.1 37) (σ.2.1 40)) (hpre_3 : -1 ≤ k0.toInt) (hpre_4 : k0.toInt < (σ.1 35).toInt) : -1 ≤ k0.toInt ∧ k0.toInt < (σ.1 35).toInt ∧ 0 ≤ (0 : Int32).toInt ∧ (0 : Int32).toInt + k0.toInt ≤ 4 := by
  have q0 : (0 : Int32).toInt = 0 := by decide +kernel
  refine ⟨?_, ?_, ?_, ?_⟩ <;> first | assumption | omega | (subst_vars; omega) | trivial
-- init2@5 @5
theorem v_steps_2 (σ : RS) (k0 : Int32) (k1 : Int32) (hpre_0 : 0 ≤ (σ.1 35).toInt) (hpre_1 : (σ.1 35).toInt ≤ 5) (hpre_2 : CLS (σ.1 35).toInt (σ.2.1 36) (σ.2.1 37) (σ.2.1 40)) (hpre_3 : -1 ≤ k0.toInt) (hpre_4 : k0.toInt < (σ.1 35).toInt) : QST (qH (σ.2.1 36) (σ.2.1 37) (σ.2.1 38) (σ.2.1 39) (σ.2.1 40) (σ.2.1 41) (σ.2.1 42) (σ.2.1 43) (σ.2.1 44) (σ.2.1 45) (σ.2.1 46) (σ.2.1 48)) k0.toInt k1.toInt k0.toInt (0 : Int32).toInt := by
  have q0 : (0 : Int32).toInt = 0 := by decide +kernel
  rw [q0]; exact QST.start
-- dead@33 @40
theorem v_steps_3 (σ : RS) (y1 : Int32) (y2 : Int32) (hi5_0 : -1 ≤ y2.toInt) (hi5_1 : y2.toInt < (σ.1 35).toInt) (hi5_3 : y1.toInt + y2.toInt ≤ 4) (c3 : y2.toInt < 0) (c4 : 0 ≤ y2.toInt) : False := by
  first | assumption | omega | (subst_vars; omega) | trivial
-- post @41
theorem v_steps_4   : -1 ≤ (-1 : Int32).toInt ∧ (-1 : Int32).toInt ≤ 5 := by
  have qm1 : (-1 : Int32).toInt = (-1) := by decide +kernel
  refine ⟨?_, ?_⟩ <;> first | assumption | omega | (subst_vars; omega) | trivial
-- post2 @41
theorem v_steps_5 (σ : RS) (k0 : Int32) (k1 : Int32) (y1 : Int32) (y2 : Int32) (hpre_0 : 0 ≤ (σ.1 35).toInt) (hpre_1 : (σ.1 35).toInt ≤ 5) (hpre_2 : CLS (σ.1 35).toInt (σ.2.1 36) (σ.2.1 37) (σ.2.1 40)) (hpre_3 : -1 ≤ k0.toInt) (hpre_4 : k0.toInt < (σ.1 35).toInt) (hi5_0 : -1 ≤ y2.toInt) (hi5_1 : y2.toInt < (σ.1 35).toInt) (hi5_2 : 0 ≤ y1.toInt) (hi5_3 : y1.toInt + y2.toInt ≤ 4) (hi5y : QST (qH (σ.2.1 36) (σ.2.1 37) (σ.2.1 38) (σ.2.1 39) (σ.2.1 40) (σ.2.1 41) (σ.2.1 42) (σ.2.1 43) (σ.2.1 44) (σ.2.1 45) (σ.2.1 46) (σ.2.1 48)) k0.toInt k1.toInt y2.toInt y1.toInt) (c3 : y2.toInt < 0) (c4 : y2.toInt < 0) : (-1 : Int32).toInt = qSteps (qAnc (qH (σ.2.1 36) (σ.2.1 37) (σ.2.1 38) (σ.2.1 39) (σ.2.1 40) (σ.2.1 41) (σ.2.1 42) (σ.2.1 43) (σ.2.1 44) (σ.2.1 45) (σ.2.1 46) (σ.2.1 48)) (k0.toInt)) k1.toInt := by
  have qm1 : (-1 : Int32).toInt = (-1) := by decide +kernel
  first
  | (rw [hi5y.no (by omega)]; omega)
  | (rw [hi5y.yes (CLS.qpa hpre_2) (by omega) (by omega) (by omega) (by omega)])
-- post @41
theorem v_steps_6 (σ : RS) (k0 : Int32) (k1 : Int32) (y1 : Int32) (y2 : Int32) (hpre_0 : 0 ≤ (σ.1 35).toInt) (hpre_1 : (σ.1 35).toInt ≤ 5) (hpre_2 : CLS (σ.1 35).toInt (σ.2.1 36) (σ.2.1 37) (σ.2.1 40)) (hpre_3 : -1 ≤ k0.toInt) (hpre_4 : k0.toInt < (σ.1 35).toInt) (hi5_0 : -1 ≤ y2.toInt) (hi5_1 : y2.toInt < (σ.1 35).toInt) (hi5_2 : 0 ≤ y1.toInt) (hi5_3 : y1.toInt + y2.toInt ≤ 4) (c3 : 0 ≤ y2.toInt) (c5 : y2.toInt = k1.toInt) (c6 : 0 ≤ y2.toInt) : -1 ≤ y1.toInt ∧ y1.toInt ≤ 5 := by
  refine ⟨?_, ?_⟩ <;> first | assumption | omega | (subst_vars; omega) | trivial
-- post2 @41
theorem v_steps_7 (σ : RS) (k0 : Int32) (k1 : Int32) (y1 : Int32) (y2 : Int32) (hpre_0 : 0 ≤ (σ.1 35).toInt) (hpre_1 : (σ.1 35).toInt ≤ 5) (hpre_2 : CLS (σ.1 35).toInt (σ.2.1 36) (σ.2.1 37) (σ.2.1 40)) (hpre_3 : -1 ≤ k0.toInt) (hpre_4 : k0.toInt < (σ.1 35).toInt) (hi5_0 : -1 ≤ y2.toInt) (hi5_1 : y2.toInt < (σ.1 35).toInt) (hi5_2 : 0 ≤ y1.toInt) (hi5_3 : y1.toInt + y2.toInt ≤ 4) (hi5y : QST (qH (σ.2.1 36) (σ.2.1 37) (σ.2.1 38) (σ.2.1 39) (σ.2.1 40) (σ.2.1 41) (σ.2.1 42) (σ.2.1 43) (σ.2.1 44) (σ.2.1 45) (σ.2.1 46) (σ.2.1 48)) k0.toInt k1.toInt y2.toInt y1.toInt) (c3 : 0 ≤ y2.toInt) (c5 : y2.toInt = k1.toInt) (c6 : 0 ≤ y2.toInt) : y1.toInt = qSteps (qAnc (qH (σ.2.1 36) (σ.2.1 37) (σ.2.1 38) (σ.2.1 39) (σ.2.1 40) (σ.2.1 41) (σ.2.1 42) (σ.2.1 43) (σ.2.1 44) (σ.2.1 45) (σ.2.1 46) (σ.2.1 48)) (k0.toInt)) k1.toInt := by
  first
  | (rw [hi5y.no (by omega)]; omega)
  | (rw [hi5y.yes (CLS.qpa hpre_2) (by omega) (by omega) (by omega) (by omega)])
-- dead@33 @36
theorem v_steps_8 (σ : RS) (k1 : Int32) (y1 : Int32) (y2 : Int32) (hi5_0 : -1 ≤ y2.toInt) (hi5_1 : y2.toInt < (σ.1 35).toInt) (hi5_3 : y1.toInt + y2.toInt ≤ 4) (c3 : 0 ≤ y2.toInt) (c5 : y2.toInt = k1.toInt) (c6 : y2.toInt < 0) : False := by
  first | assumption | omega | (subst_vars; omega) | trivial
-- in@22 @22
theorem v_steps_9 (σ : RS) (k0 : Int32) (k1 : Int32) (y1 : Int32) (y2 : Int32) (hpre_0 : 0 ≤ (σ.1 35).toInt) (hpre_1 : (σ.1 35).toInt ≤ 5) (hpre_2 : CLS (σ.1 35).toInt (σ.2.1 36) (σ.2.1 37) (σ.2.1 40)) (hpre_3 : -1 ≤ k0.toInt) (hpre_4 : k0.toInt < (σ.1 35).toInt) (hi5_0 : -1 ≤ y2.toInt) (hi5_1 : y2.toInt < (σ.1 35).toInt) (hi5_2 : 0 ≤ y1.toInt) (hi5_3 : y1.toInt + y2.toInt ≤ 4) (c3 : 0 ≤ y2.toInt) (c5 : ¬ y2.toInt = k1.toInt) : vp_in y2 5 := by
  exact vp_in_iff.mpr ⟨by omega, by omega⟩
-- nw@25 @25
theorem v_steps_10 (σ : RS) (k0 : Int32) (k1 : Int32) (y1 : Int32) (y2 : Int32) (x7 : Int32) (x8 : Int32) (hpre_0 : 0 ≤ (σ.1 35).toInt) (hpre_1 : (σ.1 35).toInt ≤ 5) (hpre_2 : CLS (σ.1 35).toInt (σ.2.1 36) (σ.2.1 37) (σ.2.1 40)) (hpre_3 : -1 ≤ k0.toInt) (hpre_4 : k0.toInt < (σ.1 35).toInt) (hi5_0 : -1 ≤ y2.toInt) (hi5_1 : y2.toInt < (σ.1 35).toInt) (hi5_2 : 0 ≤ y1.toInt) (hi5_3 : y1.toInt + y2.toInt ≤ 4) (c3 : 0 ≤ y2.toInt) (c5 : ¬ y2.toInt = k1.toInt) (ex7 : x7 = (σ.2.1 36) y2.toNatClampNeg) (tx7 : x7.toInt = ((σ.2.1 36) y2.toNatClampNeg).toInt) (ex8 : x8 = y1 + (1 : Int32)) : x8.toInt = y1.toInt + 1 := by
  have q1 : (1 : Int32).toInt = 1 := by decide +kernel
  have cl_x7 := hpre_2 y2.toNatClampNeg (by rw [clampZ (by omega)]; omega)
  rw [clampZ (by omega)] at cl_x7
  have z9 : (1 : Int32).toInt = 1 := by decide +kernel
  rw [ex8, z_add (by omega) (by omega)]; first | done | omega
-- inv@5 @5
theorem v_steps_11 (σ : RS) (k0 : Int32) (k1 : Int32) (y1 : Int32) (y2 : Int32) (x7 : Int32) (x8 : Int32) (hpre_0 : 0 ≤ (σ.1 35).toInt) (hpre_1 : (σ.1 35).toInt ≤ 5) (hpre_2 : CLS (σ.1 35).toInt (σ.2.1 36) (σ.2.1 37) (σ.2.1 40)) (hpre_3 : -1 ≤ k0.toInt) (hpre_4 : k0.toInt < (σ.1 35).toInt) (hi5_0 : -1 ≤ y2.toInt) (hi5_1 : y2.toInt < (σ.1 35).toInt) (hi5_2 : 0 ≤ y1.toInt) (hi5_3 : y1.toInt + y2.toInt ≤ 4) (c3 : 0 ≤ y2.toInt) (c5 : ¬ y2.toInt = k1.toInt) (ex7 : x7 = (σ.2.1 36) y2.toNatClampNeg) (tx7 : x7.toInt = ((σ.2.1 36) y2.toNatClampNeg).toInt) (ex8 : x8 = y1 + (1 : Int32)) (tx8 : x8.toInt = y1.toInt + 1) : -1 ≤ x7.toInt ∧ x7.toInt < (σ.1 35).toInt ∧ 0 ≤ x8.toInt ∧ x8.toInt + x7.toInt ≤ 4 := by
  have q1 : (1 : Int32).toInt = 1 := by decide +kernel
  have cl_x7 := hpre_2 y2.toNatClampNeg (by rw [clampZ (by omega)]; omega)
  rw [clampZ (by omega)] at cl_x7
  refine ⟨?_, ?_, ?_, ?_⟩ <;> first | assumption | omega | (subst_vars; omega) | trivial
-- inv2@5 @5
theorem v_steps_12 (σ : RS) (k0 : Int32) (k1 : Int32) (y1 : Int32) (y2 : Int32) (x7 : Int32) (x8 : Int32) (hpre_0 : 0 ≤ (σ.1 35).toInt) (hpre_1 : (σ.1 35).toInt ≤ 5) (hpre_2 : CLS (σ.1 35).toInt (σ.2.1 36) (σ.2.1 37) (σ.2.1 40)) (hpre_3 : -1 ≤ k0.toInt) (hpre_4 : k0.toInt < (σ.1 35).toInt) (hi5_0 : -1 ≤ y2.toInt) (hi5_1 : y2.toInt < (σ.1 35).toInt) (hi5_2 : 0 ≤ y1.toInt) (hi5_3 : y1.toInt + y2.toInt ≤ 4) (hi5y : QST (qH (σ.2.1 36) (σ.2.1 37) (σ.2.1 38) (σ.2.1 39) (σ.2.1 40) (σ.2.1 41) (σ.2.1 42) (σ.2.1 43) (σ.2.1 44) (σ.2.1 45) (σ.2.1 46) (σ.2.1 48)) k0.toInt k1.toInt y2.toInt y1.toInt) (c3 : 0 ≤ y2.toInt) (c5 : ¬ y2.toInt = k1.toInt) (ex7 : x7 = (σ.2.1 36) y2.toNatClampNeg) (tx7 : x7.toInt = ((σ.2.1 36) y2.toNatClampNeg).toInt) (ex8 : x8 = y1 + (1 : Int32)) (tx8 : x8.toInt = y1.toInt + 1) : QST (qH (σ.2.1 36) (σ.2.1 37) (σ.2.1 38) (σ.2.1 39) (σ.2.1 40) (σ.2.1 41) (σ.2.1 42) (σ.2.1 43) (σ.2.1 44) (σ.2.1 45) (σ.2.1 46) (σ.2.1 48)) k0.toInt k1.toInt x7.toInt x8.toInt := by
  have q1 : (1 : Int32).toInt = 1 := by decide +kernel
  have cl_x7 := hpre_2 y2.toNatClampNeg (by rw [clampZ (by omega)]; omega)
  rw [clampZ (by omega)] at cl_x7
  exact hi5y.step (CLS.qpa hpre_2) (by omega) (by omega) (by omega) (by omega) (by show x7.toInt = ((σ.2.1 36) y2.toInt.toNat).toInt; rw [ex7, clampN]) (by omega)
-- meas@5 @5
theorem v_steps_13 (σ : RS) (k0 : Int32) (k1 : Int32) (y1 : Int32) (y2 : Int32) (x7 : Int32) (x8 : Int32) (hpre_0 : 0 ≤ (σ.1 35).toInt) (hpre_1 : (σ.1 35).toInt ≤ 5) (hpre_2 : CLS (σ.1 35).toInt (σ.2.1 36) (σ.2.1 37) (σ.2.1 40)) (hpre_3 : -1 ≤ k0.toInt) (hpre_4 : k0.toInt < (σ.1 35).toInt) (hi5_0 : -1 ≤ y2.toInt) (hi5_1 : y2.toInt < (σ.1 35).toInt) (hi5_2 : 0 ≤ y1.toInt) (hi5_3 : y1.toInt + y2.toInt ≤ 4) (c3 : 0 ≤ y2.toInt) (c5 : ¬ y2.toInt = k1.toInt) (ex7 : x7 = (σ.2.1 36) y2.toNatClampNeg) (tx7 : x7.toInt = ((σ.2.1 36) y2.toNatClampNeg).toInt) (ex8 : x8 = y1 + (1 : Int32)) (tx8 : x8.toInt = y1.toInt + 1) : (x7.toInt + 1).toNat < (y2.toInt + 1).toNat := by
  have q1 : (1 : Int32).toInt = 1 := by decide +kernel
  have cl_x7 := hpre_2 y2.toNatClampNeg (by rw [clampZ (by omega)]; omega)
  rw [clampZ (by omega)] at cl_x7
  first | assumption | omega | (subst_vars; omega) | trivial
set_option maxHeartbeats 4000000 in
set_option maxRecDepth 100000 in
theorem L_steps_5_1 {p : Program} {e : Env} {s : State} {m : MethodId} {below : List Frame} {meth : Method} {c : Code} (l : Launch) (D : va_G) (cy : Nat → ClassId) (sz0 : Nat) (sa : Nat → Nat) (ad : Nat → Nat) (sz : Nat) (σ : RS) (k0 : Int32) (k1 : Int32) (C : RC p s m #[.ref (ad 0), .int k0, .int k1] meth c cX12_steps 5 (some .int) D cy sz0 sa ad (AR cy ad sz)) (hpre_0 : 0 ≤ (σ.1 35).toInt) (hpre_1 : (σ.1 35).toInt ≤ 5) (hpre_2 : CLS (σ.1 35).toInt (σ.2.1 36) (σ.2.1 37) (σ.2.1 40)) (hpre_3 : -1 ≤ k0.toInt) (hpre_4 : k0.toInt < (σ.1 35).toInt) : ∀ (n : Nat) (y1 : Int32) (y2 : Int32) (H : Heap) (locs : List Loc) (ls : Array Slot), (y2.toInt + 1).toNat < n → ((-1 ≤ y2.toInt ∧ y2.toInt < (σ.1 35).toInt ∧ 0 ≤ y1.toInt ∧ y1.toInt + y2.toInt ≤ 4) ∧ (QST (qH (σ.2.1 36) (σ.2.1 37) (σ.2.1 38) (σ.2.1 39) (σ.2.1 40) (σ.2.1 41) (σ.2.1 42) (σ.2.1 43) (σ.2.1 44) (σ.2.1 45) (σ.2.1 46) (σ.2.1 48)) k0.toInt k1.toInt y2.toInt y1.toInt)) → RP D cy ad σ H → va_S (AR cy ad sz) s.heap H locs → lv_has ls 5 [(4, .int y2), (3, .int y1), (0, .ref (ad 0)), (1, .int k0), (2, .int k1)] → W p l e (headSpec (Cond.code yX12_steps cX12_steps 5 (some .int) :: GWm) ({ frames := 0, cells := 0, slots := 0, locals := 0 })).room s m #[.ref (ad 0), .int k0, .int k1] below meth c H locs 0 0 (MQ below (va_Qi (fun (r : Int32) (u : Unit) => (-1 ≤ r.toInt ∧ r.toInt ≤ 5) ∧ (r.toInt = qSteps (qAnc (qH (σ.2.1 36) (σ.2.1 37) (σ.2.1 38) (σ.2.1 39) (σ.2.1 40) (σ.2.1 41) (σ.2.1 42) (σ.2.1 43) (σ.2.1 44) (σ.2.1 45) (σ.2.1 46) (σ.2.1 48)) (k0.toInt)) k1.toInt)) (fun (u : Unit) (t : State) => RP D cy ad σ t.heap) (AR cy ad sz)) #[.ref (ad 0), .int k0, .int k1] s 0 0 (AR cy ad sz)) (F0 m 5 ls []) := by
  have hx := C.1
  have hb := C.2.1
  have hown := C.2.2.2.2.1
  have hw := C.2.2.2.2.2.1
  intro n
  induction n with
  | zero => intro y1 y2 H locs ls hn; exact absurd hn (Nat.not_lt_zero _)
  | succ n ih5 =>
    intro y1 y2 H locs ls hn5 hi5 hP hS hl
    obtain ⟨hi5, hi5y⟩ := hi5
    obtain ⟨hi5_0, hi5_1, hi5_2, hi5_3⟩ := hi5
    refine lv_iload hx hb dX12_steps_5 (lv_at hl 0 rfl) ?_
    refine lv_if_lt (tgt := 31) hx hb dX12_steps_7 (by decide) (fun c3 => ?_) (fun c3 => ?_)
    · have c3 : y2.toInt < 0 := by have h := z_lt c3; rw [show (0 : Int32).toInt = 0 from by decide +kernel] at h; exact h
      refine lv_iload hx hb dX12_steps_31 (lv_at hl 0 rfl) ?_
      refine lv_if_ge (tgt := 40) hx hb dX12_steps_33 (by decide) (fun c4 => ?_) (fun c4 => ?_)
      · have c4 : 0 ≤ y2.toInt := by have h := z_le c4; rw [show (0 : Int32).toInt = 0 from by decide +kernel] at h; exact h
        exact absurd (v_steps_3 σ y1 y2 hi5_0 hi5_1 hi5_3 c3 c4) id
      · have c4 : y2.toInt < 0 := by have h := z_nle c4; rw [show (0 : Int32).toInt = 0 from by decide +kernel] at h; exact h
        refine lv_iconst (v := (-1)) hx hb dX12_steps_36 (by decide +kernel) ?_
        refine lv_goto (tgt := 41) hx hb dX12_steps_37 (by decide) ?_
        exact r_reti C () ⟨(v_steps_4  ), (v_steps_5 σ k0 k1 y1 y2 hpre_0 hpre_1 hpre_2 hpre_3 hpre_4 hi5_0 hi5_1 hi5_2 hi5_3 hi5y c3 c4)⟩ hP hS dX12_steps_41
    · have c3 : 0 ≤ y2.toInt := by have h := z_nlt c3; rw [show (0 : Int32).toInt = 0 from by decide +kernel] at h; exact h
      refine lv_iload hx hb dX12_steps_10 (lv_at hl 0 rfl) ?_
      refine lv_iload_n hx hb dX12_steps_12 rfl (lv_at hl 4 rfl) ?_
      refine lv_icmp_eq (tgt := 31) hx hb dX12_steps_13 (by decide) (fun c5 => ?_) (fun c5 => ?_)
      · have c5 : y2.toInt = k1.toInt := by have h := z_eq c5; exact h
        refine lv_iload hx hb dX12_steps_31 (lv_at hl 0 rfl) ?_
        refine lv_if_ge (tgt := 40) hx hb dX12_steps_33 (by decide) (fun c6 => ?_) (fun c6 => ?_)
        · have c6 : 0 ≤ y2.toInt := by have h := z_le c6; rw [show (0 : Int32).toInt = 0 from by decide +kernel] at h; exact h
          refine lv_iload_n hx hb dX12_steps_40 rfl (lv_at hl 1 rfl) ?_
          exact r_reti C () ⟨(v_steps_6 σ k0 k1 y1 y2 hpre_0 hpre_1 hpre_2 hpre_3 hpre_4 hi5_0 hi5_1 hi5_2 hi5_3 c3 c5 c6), (v_steps_7 σ k0 k1 y1 y2 hpre_0 hpre_1 hpre_2 hpre_3 hpre_4 hi5_0 hi5_1 hi5_2 hi5_3 hi5y c3 c5 c6)⟩ hP hS dX12_steps_41
        · have c6 : y2.toInt < 0 := by have h := z_nle c6; rw [show (0 : Int32).toInt = 0 from by decide +kernel] at h; exact h
          exact absurd (v_steps_8 σ k1 y1 y2 hi5_0 hi5_1 hi5_3 c3 c5 c6) id
      · have c5 : ¬ y2.toInt = k1.toInt := by have h := z_ne c5; exact h
        refine lv_aload_n hx hb dX12_steps_16 rfl (lv_at hl 2 rfl) ?_
        refine rg_36 C hP wm_182 dX12_steps_17 ?_
        refine lv_iload hx hb dX12_steps_20 (lv_at hl 0 rfl) ?_
        refine ra_36 (f := (σ.2.1 36)) C hP rfl (v_steps_9 σ k0 k1 y1 y2 hpre_0 hpre_1 hpre_2 hpre_3 hpre_4 hi5_0 hi5_1 hi5_2 hi5_3 c3 c5) dX12_steps_22 (fun x7 ex7 => ?_)
        have tx7 : x7.toInt = ((σ.2.1 36) y2.toNatClampNeg).toInt := by rw [ex7]
        refine lv_istore (lv' := [(4, .int x7), (3, .int y1), (0, .ref (ad 0)), (1, .int k0), (2, .int k1)]) hx hb dX12_steps_23 hl (by decide) rfl (fun ls hl => ?_)
        obtain ⟨x8, ex8⟩ : ∃ y : Int32, y = y1 + (1 : Int32) := ⟨_, rfl⟩
        have tx8 : x8.toInt = y1.toInt + 1 := (v_steps_10 σ k0 k1 y1 y2 x7 x8 hpre_0 hpre_1 hpre_2 hpre_3 hpre_4 hi5_0 hi5_1 hi5_2 hi5_3 c3 c5 ex7 tx7 ex8)
        refine lv_iinc (v := x8) (lv' := [(3, .int x8), (4, .int x7), (0, .ref (ad 0)), (1, .int k0), (2, .int k1)]) hx hb dX12_steps_25 hl (k := 1) rfl (by rw [ex8]; rfl) (by decide) rfl (fun ls hl => ?_)
        refine lv_goto (tgt := 5) hx hb dX12_steps_28 (by decide) ?_
        exact ih5 x8 x7 _ _ _ (Nat.lt_of_lt_of_le (v_steps_13 σ k0 k1 y1 y2 x7 x8 hpre_0 hpre_1 hpre_2 hpre_3 hpre_4 hi5_0 hi5_1 hi5_2 hi5_3 c3 c5 ex7 tx7 ex8 tx8) (Nat.le_of_lt_succ hn5)) ⟨(v_steps_11 σ k0 k1 y1 y2 x7 x8 hpre_0 hpre_1 hpre_2 hpre_3 hpre_4 hi5_0 hi5_1 hi5_2 hi5_3 c3 c5 ex7 tx7 ex8 tx8), (v_steps_12 σ k0 k1 y1 y2 x7 x8 hpre_0 hpre_1 hpre_2 hpre_3 hpre_4 hi5_0 hi5_1 hi5_2 hi5_3 hi5y c3 c5 ex7 tx7 ex8 tx8)⟩ hP hS (lv_sub hl [1, 0, 2, 3, 4] rfl)
set_option maxHeartbeats 4000000 in
set_option maxRecDepth 100000 in
theorem M_steps (l : Launch) (D : va_G) (cy : Nat → ClassId) (sz0 : Nat) (sa : Nat → Nat) (ad : Nat → Nat) (σ : RS) (sz : Nat) (k0 : Int32) (k1 : Int32) (hpre : 0 ≤ (σ.1 35).toInt ∧ (σ.1 35).toInt ≤ 5 ∧ CLS (σ.1 35).toInt (σ.2.1 36) (σ.2.1 37) (σ.2.1 40) ∧ -1 ≤ k0.toInt ∧ k0.toInt < (σ.1 35).toInt) : Met l yX12_steps (Cond.code yX12_steps cX12_steps 5 (some .int) :: GWm) ({ frames := 0, cells := 0, slots := 0, locals := 0 }) (PcR D cy sz0 sa ad [.ref (ad 0), .int k0, .int k1] σ sz) (va_Qi (fun (r : Int32) (u : Unit) => (-1 ≤ r.toInt ∧ r.toInt ≤ 5) ∧ (r.toInt = qSteps (qAnc (qH (σ.2.1 36) (σ.2.1 37) (σ.2.1 38) (σ.2.1 39) (σ.2.1 40) (σ.2.1 41) (σ.2.1 42) (σ.2.1 43) (σ.2.1 44) (σ.2.1 45) (σ.2.1 46) (σ.2.1 48)) (k0.toInt)) k1.toInt)) (fun (u : Unit) (t : State) => RP D cy ad σ t.heap) (AR cy ad sz)) 0 0 (AR cy ad sz) := by
  refine RM_of (loc0 := [(0, .ref (ad 0)), (1, .int k0), (2, .int k1)]) (by decide) rfl rfl (Nat.le_of_ble_eq_true rfl) ?_
  intro p e s m below meth c ls hsz C hP hS hl
  have hx := C.1
  have hb := C.2.1
  have hown := C.2.2.2.2.1
  have hw := C.2.2.2.2.2.1
  clear hsz
  obtain ⟨hpre_0, hpre_1, hpre_2, hpre_3, hpre_4⟩ := hpre
  refine lv_iconst (v := 0) hx hb dX12_steps_0 (by decide +kernel) ?_
  refine lv_istore_n (lv' := [(3, .int 0), (0, .ref (ad 0)), (1, .int k0), (2, .int k1)]) hx hb dX12_steps_1 rfl hl (by decide) rfl (fun ls hl => ?_)
  refine lv_iload_n hx hb dX12_steps_2 rfl (lv_at hl 2 rfl) ?_
  refine lv_istore (lv' := [(4, .int k0), (3, .int 0), (0, .ref (ad 0)), (1, .int k0), (2, .int k1)]) hx hb dX12_steps_3 hl (by decide) rfl (fun ls hl => ?_)
  exact L_steps_5_1 l D cy sz0 sa ad sz σ k0 k1 C hpre_0 hpre_1 hpre_2 hpre_3 hpre_4 ((k0.toInt + 1).toNat + 1) (0 : Int32) k0 _ _ _ (Nat.lt_succ_self _) ⟨(v_steps_1 σ k0 hpre_0 hpre_1 hpre_2 hpre_3 hpre_4), (v_steps_2 σ k0 k1 hpre_0 hpre_1 hpre_2 hpre_3 hpre_4)⟩ hP hS (lv_sub hl [0, 1, 2, 3, 4] rfl)

-- post @16
theorem v_fitsType_1 (σ : RS) (k0 : Int32) (k1 : Int32) (hpre_0 : 0 ≤ (σ.1 35).toInt) (hpre_1 : (σ.1 35).toInt ≤ 5) (hpre_2 : CLS (σ.1 35).toInt (σ.2.1 36) (σ.2.1 37) (σ.2.1 40)) (hpre_3 : 0 ≤ k0.toInt) (hpre_4 : k0.toInt < 980) (hpre_5 : CV (σ.2.1 51) (σ.2.2.1 52) (σ.1 35).toInt (σ.1 47).toInt k0.toNatClampNeg) (hpre_6 : 0 ≤ k1.toInt) (hpre_7 : k1.toInt ≤ 12) (c1 : k1.toInt = 5) : ((1 : Int32).toInt = 0 ∨ (1 : Int32).toInt = 1) ∧ (¬ (1 : Int32).toInt = 0 → k1.toInt = 5 ∨ ((σ.2.1 51) k0.toNatClampNeg).toInt = k1.toInt ∨ ((σ.2.1 51) k0.toNatClampNeg).toInt = 0 ∨ 8 ≤ ((σ.2.1 51) k0.toNatClampNeg).toInt) := by
  have q1 : (1 : Int32).toInt = 1 := by decide +kernel
  have cv_hpre_5 := id hpre_5
  unfold CV at cv_hpre_5
  refine ⟨?_, ?_⟩ <;> first | assumption | omega | (subst_vars; omega) | trivial
-- post2 @16
theorem v_fitsType_2 (σ : RS) (k0 : Int32) (k1 : Int32) (hpre_0 : 0 ≤ (σ.1 35).toInt) (hpre_1 : (σ.1 35).toInt ≤ 5) (hpre_2 : CLS (σ.1 35).toInt (σ.2.1 36) (σ.2.1 37) (σ.2.1 40)) (hpre_3 : 0 ≤ k0.toInt) (hpre_4 : k0.toInt < 980) (hpre_5 : CV (σ.2.1 51) (σ.2.2.1 52) (σ.1 35).toInt (σ.1 47).toInt k0.toNatClampNeg) (hpre_6 : 0 ≤ k1.toInt) (hpre_7 : k1.toInt ≤ 12) (c1 : k1.toInt = 5) : ∀ v9 : QV, QAT (qH (σ.2.1 36) (σ.2.1 37) (σ.2.1 38) (σ.2.1 39) (σ.2.1 40) (σ.2.1 41) (σ.2.1 42) (σ.2.1 43) (σ.2.1 44) (σ.2.1 45) (σ.2.1 46) (σ.2.1 48)) (σ.1 47).toInt ((σ.2.1 51), (σ.2.2.1 52), (σ.2.2.1 53), (σ.2.2.2)) k0.toNatClampNeg v9 → ((1 : Int32).toInt = 0 → qFits (qH (σ.2.1 36) (σ.2.1 37) (σ.2.1 38) (σ.2.1 39) (σ.2.1 40) (σ.2.1 41) (σ.2.1 42) (σ.2.1 43) (σ.2.1 44) (σ.2.1 45) (σ.2.1 46) (σ.2.1 48)) v9 k1.toInt = false) ∧ (¬ (1 : Int32).toInt = 0 → qFits (qH (σ.2.1 36) (σ.2.1 37) (σ.2.1 38) (σ.2.1 39) (σ.2.1 40) (σ.2.1 41) (σ.2.1 42) (σ.2.1 43) (σ.2.1 44) (σ.2.1 45) (σ.2.1 46) (σ.2.1 48)) v9 k1.toInt = true) := by
  have q1 : (1 : Int32).toInt = 1 := by decide +kernel
  have cv_hpre_5 := id hpre_5
  unfold CV at cv_hpre_5
  intro v9 h9
  have kd := h9.kd
  dsimp only at kd
  have kk := h9.ok.kd
  unfold qFits
  refine ⟨fun h => decide_eq_false ?_, fun h => decide_eq_true ?_⟩ <;> omega
-- bool@ret @16
theorem v_fitsType_3   : (1 : Int32) = 0 ∨ (1 : Int32) = 1 := by
  have q1 : (1 : Int32).toInt = 1 := by decide +kernel
  first | exact Or.inl rfl | exact Or.inr rfl | exact bool_of (by omega)
-- in@10 @10
theorem v_fitsType_4 (σ : RS) (k0 : Int32) (hpre_0 : 0 ≤ (σ.1 35).toInt) (hpre_1 : (σ.1 35).toInt ≤ 5) (hpre_2 : CLS (σ.1 35).toInt (σ.2.1 36) (σ.2.1 37) (σ.2.1 40)) (hpre_3 : 0 ≤ k0.toInt) (hpre_4 : k0.toInt < 980) (hpre_5 : CV (σ.2.1 51) (σ.2.2.1 52) (σ.1 35).toInt (σ.1 47).toInt k0.toNatClampNeg) : vp_in k0 980 := by
  have cv_hpre_5 := id hpre_5
  unfold CV at cv_hpre_5
  exact vp_in_iff.mpr ⟨by omega, by omega⟩
-- in@22 @22
theorem v_fitsType_5 (σ : RS) (k0 : Int32) (k1 : Int32) (x2 : Int32) (hpre_0 : 0 ≤ (σ.1 35).toInt) (hpre_1 : (σ.1 35).toInt ≤ 5) (hpre_2 : CLS (σ.1 35).toInt (σ.2.1 36) (σ.2.1 37) (σ.2.1 40)) (hpre_3 : 0 ≤ k0.toInt) (hpre_4 : k0.toInt < 980) (hpre_5 : CV (σ.2.1 51) (σ.2.2.1 52) (σ.1 35).toInt (σ.1 47).toInt k0.toNatClampNeg) (hpre_6 : 0 ≤ k1.toInt) (hpre_7 : k1.toInt ≤ 12) (c1 : ¬ k1.toInt = 5) (ex2 : x2 = (σ.2.1 51) k0.toNatClampNeg) (tx2 : x2.toInt = ((σ.2.1 51) k0.toNatClampNeg).toInt) (c3 : ¬ x2.toInt = k1.toInt) : vp_in k0 980 := by
  have cv_hpre_5 := id hpre_5
  unfold CV at cv_hpre_5
  exact vp_in_iff.mpr ⟨by omega, by omega⟩
-- in@48 @48
theorem v_fitsType_6 (σ : RS) (k0 : Int32) (k1 : Int32) (x2 : Int32) (x4 : Int32) (hpre_0 : 0 ≤ (σ.1 35).toInt) (hpre_1 : (σ.1 35).toInt ≤ 5) (hpre_2 : CLS (σ.1 35).toInt (σ.2.1 36) (σ.2.1 37) (σ.2.1 40)) (hpre_3 : 0 ≤ k0.toInt) (hpre_4 : k0.toInt < 980) (hpre_5 : CV (σ.2.1 51) (σ.2.2.1 52) (σ.1 35).toInt (σ.1 47).toInt k0.toNatClampNeg) (hpre_6 : 0 ≤ k1.toInt) (hpre_7 : k1.toInt ≤ 12) (c1 : ¬ k1.toInt = 5) (ex2 : x2 = (σ.2.1 51) k0.toNatClampNeg) (tx2 : x2.toInt = ((σ.2.1 51) k0.toNatClampNeg).toInt) (c3 : ¬ x2.toInt = k1.toInt) (ex4 : x4 = (σ.2.1 51) k0.toNatClampNeg) (tx4 : x4.toInt = ((σ.2.1 51) k0.toNatClampNeg).toInt) (c5 : ¬ x4.toInt = 0) : vp_in k0 980 := by
  have cv_hpre_5 := id hpre_5
  unfold CV at cv_hpre_5
  exact vp_in_iff.mpr ⟨by omega, by omega⟩
-- post @85
theorem v_fitsType_7 (σ : RS) (k0 : Int32) (k1 : Int32) (x2 : Int32) (x4 : Int32) (x6 : Int32) (hpre_0 : 0 ≤ (σ.1 35).toInt) (hpre_1 : (σ.1 35).toInt ≤ 5) (hpre_2 : CLS (σ.1 35).toInt (σ.2.1 36) (σ.2.1 37) (σ.2.1 40)) (hpre_3 : 0 ≤ k0.toInt) (hpre_4 : k0.toInt < 980) (hpre_5 : CV (σ.2.1 51) (σ.2.2.1 52) (σ.1 35).toInt (σ.1 47).toInt k0.toNatClampNeg) (hpre_6 : 0 ≤ k1.toInt) (hpre_7 : k1.toInt ≤ 12) (c1 : ¬ k1.toInt = 5) (ex2 : x2 = (σ.2.1 51) k0.toNatClampNeg) (tx2 : x2.toInt = ((σ.2.1 51) k0.toNatClampNeg).toInt) (c3 : ¬ x2.toInt = k1.toInt) (ex4 : x4 = (σ.2.1 51) k0.toNatClampNeg) (tx4 : x4.toInt = ((σ.2.1 51) k0.toNatClampNeg).toInt) (c5 : ¬ x4.toInt = 0) (ex6 : x6 = (σ.2.1 51) k0.toNatClampNeg) (tx6 : x6.toInt = ((σ.2.1 51) k0.toNatClampNeg).toInt) (c7 : x6.toInt < 8) : ((0 : Int32).toInt = 0 ∨ (0 : Int32).toInt = 1) ∧ (¬ (0 : Int32).toInt = 0 → k1.toInt = 5 ∨ ((σ.2.1 51) k0.toNatClampNeg).toInt = k1.toInt ∨ ((σ.2.1 51) k0.toNatClampNeg).toInt = 0 ∨ 8 ≤ ((σ.2.1 51) k0.toNatClampNeg).toInt) := by
  have q0 : (0 : Int32).toInt = 0 := by decide +kernel
  have cv_hpre_5 := id hpre_5
  unfold CV at cv_hpre_5
  refine ⟨?_, ?_⟩ <;> first | assumption | omega | (subst_vars; omega) | trivial
-- post2 @85
theorem v_fitsType_8 (σ : RS) (k0 : Int32) (k1 : Int32) (x2 : Int32) (x4 : Int32) (x6 : Int32) (hpre_0 : 0 ≤ (σ.1 35).toInt) (hpre_1 : (σ.1 35).toInt ≤ 5) (hpre_2 : CLS (σ.1 35).toInt (σ.2.1 36) (σ.2.1 37) (σ.2.1 40)) (hpre_3 : 0 ≤ k0.toInt) (hpre_4 : k0.toInt < 980) (hpre_5 : CV (σ.2.1 51) (σ.2.2.1 52) (σ.1 35).toInt (σ.1 47).toInt k0.toNatClampNeg) (hpre_6 : 0 ≤ k1.toInt) (hpre_7 : k1.toInt ≤ 12) (c1 : ¬ k1.toInt = 5) (ex2 : x2 = (σ.2.1 51) k0.toNatClampNeg) (tx2 : x2.toInt = ((σ.2.1 51) k0.toNatClampNeg).toInt) (c3 : ¬ x2.toInt = k1.toInt) (ex4 : x4 = (σ.2.1 51) k0.toNatClampNeg) (tx4 : x4.toInt = ((σ.2.1 51) k0.toNatClampNeg).toInt) (c5 : ¬ x4.toInt = 0) (ex6 : x6 = (σ.2.1 51) k0.toNatClampNeg) (tx6 : x6.toInt = ((σ.2.1 51) k0.toNatClampNeg).toInt) (c7 : x6.toInt < 8) : ∀ v9 : QV, QAT (qH (σ.2.1 36) (σ.2.1 37) (σ.2.1 38) (σ.2.1 39) (σ.2.1 40) (σ.2.1 41) (σ.2.1 42) (σ.2.1 43) (σ.2.1 44) (σ.2.1 45) (σ.2.1 46) (σ.2.1 48)) (σ.1 47).toInt ((σ.2.1 51), (σ.2.2.1 52), (σ.2.2.1 53), (σ.2.2.2)) k0.toNatClampNeg v9 → ((0 : Int32).toInt = 0 → qFits (qH (σ.2.1 36) (σ.2.1 37) (σ.2.1 38) (σ.2.1 39) (σ.2.1 40) (σ.2.1 41) (σ.2.1 42) (σ.2.1 43) (σ.2.1 44) (σ.2.1 45) (σ.2.1 46) (σ.2.1 48)) v9 k1.toInt = false) ∧ (¬ (0 : Int32).toInt = 0 → qFits (qH (σ.2.1 36) (σ.2.1 37) (σ.2.1 38) (σ.2.1 39) (σ.2.1 40) (σ.2.1 41) (σ.2.1 42) (σ.2.1 43) (σ.2.1 44) (σ.2.1 45) (σ.2.1 46) (σ.2.1 48)) v9 k1.toInt = true) := by
  have q0 : (0 : Int32).toInt = 0 := by decide +kernel
  have cv_hpre_5 := id hpre_5
  unfold CV at cv_hpre_5
  intro v9 h9
  have kd := h9.kd
  dsimp only at kd
  have kk := h9.ok.kd
  unfold qFits
  refine ⟨fun h => decide_eq_false ?_, fun h => decide_eq_true ?_⟩ <;> omega
-- bool@ret @85
theorem v_fitsType_9   : (0 : Int32) = 0 ∨ (0 : Int32) = 1 := by
  have q0 : (0 : Int32).toInt = 0 := by decide +kernel
  first | exact Or.inl rfl | exact Or.inr rfl | exact bool_of (by omega)
-- post @85
theorem v_fitsType_10 (σ : RS) (k0 : Int32) (k1 : Int32) (x2 : Int32) (x4 : Int32) (x6 : Int32) (hpre_0 : 0 ≤ (σ.1 35).toInt) (hpre_1 : (σ.1 35).toInt ≤ 5) (hpre_2 : CLS (σ.1 35).toInt (σ.2.1 36) (σ.2.1 37) (σ.2.1 40)) (hpre_3 : 0 ≤ k0.toInt) (hpre_4 : k0.toInt < 980) (hpre_5 : CV (σ.2.1 51) (σ.2.2.1 52) (σ.1 35).toInt (σ.1 47).toInt k0.toNatClampNeg) (hpre_6 : 0 ≤ k1.toInt) (hpre_7 : k1.toInt ≤ 12) (c1 : ¬ k1.toInt = 5) (ex2 : x2 = (σ.2.1 51) k0.toNatClampNeg) (tx2 : x2.toInt = ((σ.2.1 51) k0.toNatClampNeg).toInt) (c3 : ¬ x2.toInt = k1.toInt) (ex4 : x4 = (σ.2.1 51) k0.toNatClampNeg) (tx4 : x4.toInt = ((σ.2.1 51) k0.toNatClampNeg).toInt) (c5 : ¬ x4.toInt = 0) (ex6 : x6 = (σ.2.1 51) k0.toNatClampNeg) (tx6 : x6.toInt = ((σ.2.1 51) k0.toNatClampNeg).toInt) (c7 : 8 ≤ x6.toInt) (c8 : k1.toInt < 8) : ((0 : Int32).toInt = 0 ∨ (0 : Int32).toInt = 1) ∧ (¬ (0 : Int32).toInt = 0 → k1.toInt = 5 ∨ ((σ.2.1 51) k0.toNatClampNeg).toInt = k1.toInt ∨ ((σ.2.1 51) k0.toNatClampNeg).toInt = 0 ∨ 8 ≤ ((σ.2.1 51) k0.toNatClampNeg).toInt) := by
  have q0 : (0 : Int32).toInt = 0 := by decide +kernel
  have cv_hpre_5 := id hpre_5
  unfold CV at cv_hpre_5
  refine ⟨?_, ?_⟩ <;> first | assumption | omega | (subst_vars; omega) | trivial
-- post2 @85
theorem v_fitsType_11 (σ : RS) (k0 : Int32) (k1 : Int32) (x2 : Int32) (x4 : Int32) (x6 : Int32) (hpre_0 : 0 ≤ (σ.1 35).toInt) (hpre_1 : (σ.1 35).toInt ≤ 5) (hpre_2 : CLS (σ.1 35).toInt (σ.2.1 36) (σ.2.1 37) (σ.2.1 40)) (hpre_3 : 0 ≤ k0.toInt) (hpre_4 : k0.toInt < 980) (hpre_5 : CV (σ.2.1 51) (σ.2.2.1 52) (σ.1 35).toInt (σ.1 47).toInt k0.toNatClampNeg) (hpre_6 : 0 ≤ k1.toInt) (hpre_7 : k1.toInt ≤ 12) (c1 : ¬ k1.toInt = 5) (ex2 : x2 = (σ.2.1 51) k0.toNatClampNeg) (tx2 : x2.toInt = ((σ.2.1 51) k0.toNatClampNeg).toInt) (c3 : ¬ x2.toInt = k1.toInt) (ex4 : x4 = (σ.2.1 51) k0.toNatClampNeg) (tx4 : x4.toInt = ((σ.2.1 51) k0.toNatClampNeg).toInt) (c5 : ¬ x4.toInt = 0) (ex6 : x6 = (σ.2.1 51) k0.toNatClampNeg) (tx6 : x6.toInt = ((σ.2.1 51) k0.toNatClampNeg).toInt) (c7 : 8 ≤ x6.toInt) (c8 : k1.toInt < 8) : ∀ v9 : QV, QAT (qH (σ.2.1 36) (σ.2.1 37) (σ.2.1 38) (σ.2.1 39) (σ.2.1 40) (σ.2.1 41) (σ.2.1 42) (σ.2.1 43) (σ.2.1 44) (σ.2.1 45) (σ.2.1 46) (σ.2.1 48)) (σ.1 47).toInt ((σ.2.1 51), (σ.2.2.1 52), (σ.2.2.1 53), (σ.2.2.2)) k0.toNatClampNeg v9 → ((0 : Int32).toInt = 0 → qFits (qH (σ.2.1 36) (σ.2.1 37) (σ.2.1 38) (σ.2.1 39) (σ.2.1 40) (σ.2.1 41) (σ.2.1 42) (σ.2.1 43) (σ.2.1 44) (σ.2.1 45) (σ.2.1 46) (σ.2.1 48)) v9 k1.toInt = false) ∧ (¬ (0 : Int32).toInt = 0 → qFits (qH (σ.2.1 36) (σ.2.1 37) (σ.2.1 38) (σ.2.1 39) (σ.2.1 40) (σ.2.1 41) (σ.2.1 42) (σ.2.1 43) (σ.2.1 44) (σ.2.1 45) (σ.2.1 46) (σ.2.1 48)) v9 k1.toInt = true) := by
  have q0 : (0 : Int32).toInt = 0 := by decide +kernel
  have cv_hpre_5 := id hpre_5
  unfold CV at cv_hpre_5
  intro v9 h9
  have kd := h9.kd
  dsimp only at kd
  have kk := h9.ok.kd
  unfold qFits
  refine ⟨fun h => decide_eq_false ?_, fun h => decide_eq_true ?_⟩ <;> omega
-- in@66 @66
theorem v_fitsType_12 (σ : RS) (k0 : Int32) (k1 : Int32) (x2 : Int32) (x4 : Int32) (x6 : Int32) (hpre_0 : 0 ≤ (σ.1 35).toInt) (hpre_1 : (σ.1 35).toInt ≤ 5) (hpre_2 : CLS (σ.1 35).toInt (σ.2.1 36) (σ.2.1 37) (σ.2.1 40)) (hpre_3 : 0 ≤ k0.toInt) (hpre_4 : k0.toInt < 980) (hpre_5 : CV (σ.2.1 51) (σ.2.2.1 52) (σ.1 35).toInt (σ.1 47).toInt k0.toNatClampNeg) (hpre_6 : 0 ≤ k1.toInt) (hpre_7 : k1.toInt ≤ 12) (c1 : ¬ k1.toInt = 5) (ex2 : x2 = (σ.2.1 51) k0.toNatClampNeg) (tx2 : x2.toInt = ((σ.2.1 51) k0.toNatClampNeg).toInt) (c3 : ¬ x2.toInt = k1.toInt) (ex4 : x4 = (σ.2.1 51) k0.toNatClampNeg) (tx4 : x4.toInt = ((σ.2.1 51) k0.toNatClampNeg).toInt) (c5 : ¬ x4.toInt = 0) (ex6 : x6 = (σ.2.1 51) k0.toNatClampNeg) (tx6 : x6.toInt = ((σ.2.1 51) k0.toNatClampNeg).toInt) (c7 : 8 ≤ x6.toInt) (c8 : 8 ≤ k1.toInt) : vp_in k0 980 := by
  have cv_hpre_5 := id hpre_5
  unfold CV at cv_hpre_5
  exact vp_in_iff.mpr ⟨by omega, by omega⟩
-- nw@69 @69
theorem v_fitsType_13 (σ : RS) (k0 : Int32) (k1 : Int32) (x2 : Int32) (x4 : Int32) (x6 : Int32) (x9 : Int32) (x10 : Int32) (hpre_0 : 0 ≤ (σ.1 35).toInt) (hpre_1 : (σ.1 35).toInt ≤ 5) (hpre_2 : CLS (σ.1 35).toInt (σ.2.1 36) (σ.2.1 37) (σ.2.1 40)) (hpre_3 : 0 ≤ k0.toInt) (hpre_4 : k0.toInt < 980) (hpre_5 : CV (σ.2.1 51) (σ.2.2.1 52) (σ.1 35).toInt (σ.1 47).toInt k0.toNatClampNeg) (hpre_6 : 0 ≤ k1.toInt) (hpre_7 : k1.toInt ≤ 12) (c1 : ¬ k1.toInt = 5) (ex2 : x2 = (σ.2.1 51) k0.toNatClampNeg) (tx2 : x2.toInt = ((σ.2.1 51) k0.toNatClampNeg).toInt) (c3 : ¬ x2.toInt = k1.toInt) (ex4 : x4 = (σ.2.1 51) k0.toNatClampNeg) (tx4 : x4.toInt = ((σ.2.1 51) k0.toNatClampNeg).toInt) (c5 : ¬ x4.toInt = 0) (ex6 : x6 = (σ.2.1 51) k0.toNatClampNeg) (tx6 : x6.toInt = ((σ.2.1 51) k0.toNatClampNeg).toInt) (c7 : 8 ≤ x6.toInt) (c8 : 8 ≤ k1.toInt) (ex9 : x9 = (σ.2.1 51) k0.toNatClampNeg) (tx9 : x9.toInt = ((σ.2.1 51) k0.toNatClampNeg).toInt) (ex10 : x10 = x9 - (8 : Int32)) : x10.toInt = x9.toInt - 8 := by
  have q8 : (8 : Int32).toInt = 8 := by decide +kernel
  have cv_hpre_5 := id hpre_5
  unfold CV at cv_hpre_5
  have w1 : (8 : Int32).toInt = 8 := by decide +kernel
  rw [ex10, z_sub (by omega) (by omega)]; first | done | omega
-- nw@73 @73
theorem v_fitsType_14 (σ : RS) (k0 : Int32) (k1 : Int32) (x2 : Int32) (x4 : Int32) (x6 : Int32) (x9 : Int32) (x10 : Int32) (x11 : Int32) (hpre_0 : 0 ≤ (σ.1 35).toInt) (hpre_1 : (σ.1 35).toInt ≤ 5) (hpre_2 : CLS (σ.1 35).toInt (σ.2.1 36) (σ.2.1 37) (σ.2.1 40)) (hpre_3 : 0 ≤ k0.toInt) (hpre_4 : k0.toInt < 980) (hpre_5 : CV (σ.2.1 51) (σ.2.2.1 52) (σ.1 35).toInt (σ.1 47).toInt k0.toNatClampNeg) (hpre_6 : 0 ≤ k1.toInt) (hpre_7 : k1.toInt ≤ 12) (c1 : ¬ k1.toInt = 5) (ex2 : x2 = (σ.2.1 51) k0.toNatClampNeg) (tx2 : x2.toInt = ((σ.2.1 51) k0.toNatClampNeg).toInt) (c3 : ¬ x2.toInt = k1.toInt) (ex4 : x4 = (σ.2.1 51) k0.toNatClampNeg) (tx4 : x4.toInt = ((σ.2.1 51) k0.toNatClampNeg).toInt) (c5 : ¬ x4.toInt = 0) (ex6 : x6 = (σ.2.1 51) k0.toNatClampNeg) (tx6 : x6.toInt = ((σ.2.1 51) k0.toNatClampNeg).toInt) (c7 : 8 ≤ x6.toInt) (c8 : 8 ≤ k1.toInt) (ex9 : x9 = (σ.2.1 51) k0.toNatClampNeg) (tx9 : x9.toInt = ((σ.2.1 51) k0.toNatClampNeg).toInt) (ex10 : x10 = x9 - (8 : Int32)) (tx10 : x10.toInt = x9.toInt - 8) (ex11 : x11 = k1 - (8 : Int32)) : x11.toInt = k1.toInt - 8 := by
  have q8 : (8 : Int32).toInt = 8 := by decide +kernel
  have cv_hpre_5 := id hpre_5
  unfold CV at cv_hpre_5
  have w1 : (8 : Int32).toInt = 8 := by decide +kernel
  rw [ex11, z_sub (by omega) (by omega)]; first | done | omega
-- pre:steps@74 @74
theorem v_fitsType_15 (σ : RS) (k0 : Int32) (k1 : Int32) (x2 : Int32) (x4 : Int32) (x6 : Int32) (x9 : Int32) (x10 : Int32) (x11 : Int32) (hpre_0 : 0 ≤ (σ.1 35).toInt) (hpre_1 : (σ.1 35).toInt ≤ 5) (hpre_2 : CLS (σ.1 35).toInt (σ.2.1 36) (σ.2.1 37) (σ.2.1 40)) (hpre_3 : 0 ≤ k0.toInt) (hpre_4 : k0.toInt < 980) (hpre_5 : CV (σ.2.1 51) (σ.2.2.1 52) (σ.1 35).toInt (σ.1 47).toInt k0.toNatClampNeg) (hpre_6 : 0 ≤ k1.toInt) (hpre_7 : k1.toInt ≤ 12) (c1 : ¬ k1.toInt = 5) (ex2 : x2 = (σ.2.1 51) k0.toNatClampNeg) (tx2 : x2.toInt = ((σ.2.1 51) k0.toNatClampNeg).toInt) (c3 : ¬ x2.toInt = k1.toInt) (ex4 : x4 = (σ.2.1 51) k0.toNatClampNeg) (tx4 : x4.toInt = ((σ.2.1 51) k0.toNatClampNeg).toInt) (c5 : ¬ x4.toInt = 0) (ex6 : x6 = (σ.2.1 51) k0.toNatClampNeg) (tx6 : x6.toInt = ((σ.2.1 51) k0.toNatClampNeg).toInt) (c7 : 8 ≤ x6.toInt) (c8 : 8 ≤ k1.toInt) (ex9 : x9 = (σ.2.1 51) k0.toNatClampNeg) (tx9 : x9.toInt = ((σ.2.1 51) k0.toNatClampNeg).toInt) (ex10 : x10 = x9 - (8 : Int32)) (tx10 : x10.toInt = x9.toInt - 8) (ex11 : x11 = k1 - (8 : Int32)) (tx11 : x11.toInt = k1.toInt - 8) : 0 ≤ (σ.1 35).toInt ∧ (σ.1 35).toInt ≤ 5 ∧ CLS (σ.1 35).toInt (σ.2.1 36) (σ.2.1 37) (σ.2.1 40) ∧ -1 ≤ x10.toInt ∧ x10.toInt < (σ.1 35).toInt := by
  have q8 : (8 : Int32).toInt = 8 := by decide +kernel
  have cv_hpre_5 := id hpre_5
  unfold CV at cv_hpre_5
  refine ⟨?_, ?_, ?_, ?_, ?_⟩ <;> first | assumption | omega | (subst_vars; omega) | trivial
-- post @85
theorem v_fitsType_16 (σ : RS) (k0 : Int32) (k1 : Int32) (x2 : Int32) (x4 : Int32) (x6 : Int32) (x9 : Int32) (x10 : Int32) (x11 : Int32) (hpre_0 : 0 ≤ (σ.1 35).toInt) (hpre_1 : (σ.1 35).toInt ≤ 5) (hpre_2 : CLS (σ.1 35).toInt (σ.2.1 36) (σ.2.1 37) (σ.2.1 40)) (hpre_3 : 0 ≤ k0.toInt) (hpre_4 : k0.toInt < 980) (hpre_5 : CV (σ.2.1 51) (σ.2.2.1 52) (σ.1 35).toInt (σ.1 47).toInt k0.toNatClampNeg) (hpre_6 : 0 ≤ k1.toInt) (hpre_7 : k1.toInt ≤ 12) (c1 : ¬ k1.toInt = 5) (ex2 : x2 = (σ.2.1 51) k0.toNatClampNeg) (tx2 : x2.toInt = ((σ.2.1 51) k0.toNatClampNeg).toInt) (c3 : ¬ x2.toInt = k1.toInt) (ex4 : x4 = (σ.2.1 51) k0.toNatClampNeg) (tx4 : x4.toInt = ((σ.2.1 51) k0.toNatClampNeg).toInt) (c5 : ¬ x4.toInt = 0) (ex6 : x6 = (σ.2.1 51) k0.toNatClampNeg) (tx6 : x6.toInt = ((σ.2.1 51) k0.toNatClampNeg).toInt) (c7 : 8 ≤ x6.toInt) (c8 : 8 ≤ k1.toInt) (ex9 : x9 = (σ.2.1 51) k0.toNatClampNeg) (tx9 : x9.toInt = ((σ.2.1 51) k0.toNatClampNeg).toInt) (ex10 : x10 = x9 - (8 : Int32)) (tx10 : x10.toInt = x9.toInt - 8) (ex11 : x11 = k1 - (8 : Int32)) (tx11 : x11.toInt = k1.toInt - 8) : ((0 : Int32).toInt = 0 ∨ (0 : Int32).toInt = 1) ∧ (¬ (0 : Int32).toInt = 0 → k1.toInt = 5 ∨ ((σ.2.1 51) k0.toNatClampNeg).toInt = k1.toInt ∨ ((σ.2.1 51) k0.toNatClampNeg).toInt = 0 ∨ 8 ≤ ((σ.2.1 51) k0.toNatClampNeg).toInt) := by
  have q0 : (0 : Int32).toInt = 0 := by decide +kernel
  have q8 : (8 : Int32).toInt = 8 := by decide +kernel
  have cv_hpre_5 := id hpre_5
  unfold CV at cv_hpre_5
  refine ⟨?_, ?_⟩ <;> first | assumption | omega | (subst_vars; omega) | trivial
-- post2 @85
theorem v_fitsType_17 (σ : RS) (k0 : Int32) (k1 : Int32) (x2 : Int32) (x4 : Int32) (x6 : Int32) (x9 : Int32) (x10 : Int32) (x11 : Int32) (r12 : Int32) (hpre_0 : 0 ≤ (σ.1 35).toInt) (hpre_1 : (σ.1 35).toInt ≤ 5) (hpre_2 : CLS (σ.1 35).toInt (σ.2.1 36) (σ.2.1 37) (σ.2.1 40)) (hpre_3 : 0 ≤ k0.toInt) (hpre_4 : k0.toInt < 980) (hpre_5 : CV (σ.2.1 51) (σ.2.2.1 52) (σ.1 35).toInt (σ.1 47).toInt k0.toNatClampNeg) (hpre_6 : 0 ≤ k1.toInt) (hpre_7 : k1.toInt ≤ 12) (c1 : ¬ k1.toInt = 5) (ex2 : x2 = (σ.2.1 51) k0.toNatClampNeg) (tx2 : x2.toInt = ((σ.2.1 51) k0.toNatClampNeg).toInt) (c3 : ¬ x2.toInt = k1.toInt) (ex4 : x4 = (σ.2.1 51) k0.toNatClampNeg) (tx4 : x4.toInt = ((σ.2.1 51) k0.toNatClampNeg).toInt) (c5 : ¬ x4.toInt = 0) (ex6 : x6 = (σ.2.1 51) k0.toNatClampNeg) (tx6 : x6.toInt = ((σ.2.1 51) k0.toNatClampNeg).toInt) (c7 : 8 ≤ x6.toInt) (c8 : 8 ≤ k1.toInt) (ex9 : x9 = (σ.2.1 51) k0.toNatClampNeg) (tx9 : x9.toInt = ((σ.2.1 51) k0.toNatClampNeg).toInt) (ex10 : x10 = x9 - (8 : Int32)) (tx10 : x10.toInt = x9.toInt - 8) (ex11 : x11 = k1 - (8 : Int32)) (tx11 : x11.toInt = k1.toInt - 8) (hr12y : r12.toInt = qSteps (qAnc (qH (σ.2.1 36) (σ.2.1 37) (σ.2.1 38) (σ.2.1 39) (σ.2.1 40) (σ.2.1 41) (σ.2.1 42) (σ.2.1 43) (σ.2.1 44) (σ.2.1 45) (σ.2.1 46) (σ.2.1 48)) (x10.toInt)) x11.toInt) (hr12_0 : -1 ≤ r12.toInt) (hr12_1 : r12.toInt ≤ 5) (c13 : r12.toInt ≤ 0) : ∀ v9 : QV, QAT (qH (σ.2.1 36) (σ.2.1 37) (σ.2.1 38) (σ.2.1 39) (σ.2.1 40) (σ.2.1 41) (σ.2.1 42) (σ.2.1 43) (σ.2.1 44) (σ.2.1 45) (σ.2.1 46) (σ.2.1 48)) (σ.1 47).toInt ((σ.2.1 51), (σ.2.2.1 52), (σ.2.2.1 53), (σ.2.2.2)) k0.toNatClampNeg v9 → ((0 : Int32).toInt = 0 → qFits (qH (σ.2.1 36) (σ.2.1 37) (σ.2.1 38) (σ.2.1 39) (σ.2.1 40) (σ.2.1 41) (σ.2.1 42) (σ.2.1 43) (σ.2.1 44) (σ.2.1 45) (σ.2.1 46) (σ.2.1 48)) v9 k1.toInt = false) ∧ (¬ (0 : Int32).toInt = 0 → qFits (qH (σ.2.1 36) (σ.2.1 37) (σ.2.1 38) (σ.2.1 39) (σ.2.1 40) (σ.2.1 41) (σ.2.1 42) (σ.2.1 43) (σ.2.1 44) (σ.2.1 45) (σ.2.1 46) (σ.2.1 48)) v9 k1.toInt = true) := by
  have q0 : (0 : Int32).toInt = 0 := by decide +kernel
  have q8 : (8 : Int32).toInt = 8 := by decide +kernel
  have cv_hpre_5 := id hpre_5
  unfold CV at cv_hpre_5
  intro v9 h9
  have kd := h9.kd
  dsimp only at kd
  have kk := h9.ok.kd
  have st := hr12y
  rw [show x10.toInt = v9.1 - 8 by omega, show x11.toInt = k1.toInt - 8 by omega] at st
  unfold qFits
  refine ⟨fun h => decide_eq_false ?_, fun h => decide_eq_true ?_⟩ <;> omega
-- post @85
theorem v_fitsType_18 (σ : RS) (k0 : Int32) (k1 : Int32) (x2 : Int32) (x4 : Int32) (x6 : Int32) (x9 : Int32) (x10 : Int32) (x11 : Int32) (hpre_0 : 0 ≤ (σ.1 35).toInt) (hpre_1 : (σ.1 35).toInt ≤ 5) (hpre_2 : CLS (σ.1 35).toInt (σ.2.1 36) (σ.2.1 37) (σ.2.1 40)) (hpre_3 : 0 ≤ k0.toInt) (hpre_4 : k0.toInt < 980) (hpre_5 : CV (σ.2.1 51) (σ.2.2.1 52) (σ.1 35).toInt (σ.1 47).toInt k0.toNatClampNeg) (hpre_6 : 0 ≤ k1.toInt) (hpre_7 : k1.toInt ≤ 12) (c1 : ¬ k1.toInt = 5) (ex2 : x2 = (σ.2.1 51) k0.toNatClampNeg) (tx2 : x2.toInt = ((σ.2.1 51) k0.toNatClampNeg).toInt) (c3 : ¬ x2.toInt = k1.toInt) (ex4 : x4 = (σ.2.1 51) k0.toNatClampNeg) (tx4 : x4.toInt = ((σ.2.1 51) k0.toNatClampNeg).toInt) (c5 : ¬ x4.toInt = 0) (ex6 : x6 = (σ.2.1 51) k0.toNatClampNeg) (tx6 : x6.toInt = ((σ.2.1 51) k0.toNatClampNeg).toInt) (c7 : 8 ≤ x6.toInt) (c8 : 8 ≤ k1.toInt) (ex9 : x9 = (σ.2.1 51) k0.toNatClampNeg) (tx9 : x9.toInt = ((σ.2.1 51) k0.toNatClampNeg).toInt) (ex10 : x10 = x9 - (8 : Int32)) (tx10 : x10.toInt = x9.toInt - 8) (ex11 : x11 = k1 - (8 : Int32)) (tx11 : x11.toInt = k1.toInt - 8) : ((1 : Int32).toInt = 0 ∨ (1 : Int32).toInt = 1) ∧ (¬ (1 : Int32).toInt = 0 → k1.toInt = 5 ∨ ((σ.2.1 51) k0.toNatClampNeg).toInt = k1.toInt ∨ ((σ.2.1 51) k0.toNatClampNeg).toInt = 0 ∨ 8 ≤ ((σ.2.1 51) k0.toNatClampNeg).toInt) := by
  have q1 : (1 : Int32).toInt = 1 := by decide +kernel
  have q8 : (8 : Int32).toInt = 8 := by decide +kernel
  have cv_hpre_5 := id hpre_5
  unfold CV at cv_hpre_5
  refine ⟨?_, ?_⟩ <;> first | assumption | omega | (subst_vars; omega) | trivial
-- post2 @85
theorem v_fitsType_19 (σ : RS) (k0 : Int32) (k1 : Int32) (x2 : Int32) (x4 : Int32) (x6 : Int32) (x9 : Int32) (x10 : Int32) (x11 : Int32) (r12 : Int32) (hpre_0 : 0 ≤ (σ.1 35).toInt) (hpre_1 : (σ.1 35).toInt ≤ 5) (hpre_2 : CLS (σ.1 35).toInt (σ.2.1 36) (σ.2.1 37) (σ.2.1 40)) (hpre_3 : 0 ≤ k0.toInt) (hpre_4 : k0.toInt < 980) (hpre_5 : CV (σ.2.1 51) (σ.2.2.1 52) (σ.1 35).toInt (σ.1 47).toInt k0.toNatClampNeg) (hpre_6 : 0 ≤ k1.toInt) (hpre_7 : k1.toInt ≤ 12) (c1 : ¬ k1.toInt = 5) (ex2 : x2 = (σ.2.1 51) k0.toNatClampNeg) (tx2 : x2.toInt = ((σ.2.1 51) k0.toNatClampNeg).toInt) (c3 : ¬ x2.toInt = k1.toInt) (ex4 : x4 = (σ.2.1 51) k0.toNatClampNeg) (tx4 : x4.toInt = ((σ.2.1 51) k0.toNatClampNeg).toInt) (c5 : ¬ x4.toInt = 0) (ex6 : x6 = (σ.2.1 51) k0.toNatClampNeg) (tx6 : x6.toInt = ((σ.2.1 51) k0.toNatClampNeg).toInt) (c7 : 8 ≤ x6.toInt) (c8 : 8 ≤ k1.toInt) (ex9 : x9 = (σ.2.1 51) k0.toNatClampNeg) (tx9 : x9.toInt = ((σ.2.1 51) k0.toNatClampNeg).toInt) (ex10 : x10 = x9 - (8 : Int32)) (tx10 : x10.toInt = x9.toInt - 8) (ex11 : x11 = k1 - (8 : Int32)) (tx11 : x11.toInt = k1.toInt - 8) (hr12y : r12.toInt = qSteps (qAnc (qH (σ.2.1 36) (σ.2.1 37) (σ.2.1 38) (σ.2.1 39) (σ.2.1 40) (σ.2.1 41) (σ.2.1 42) (σ.2.1 43) (σ.2.1 44) (σ.2.1 45) (σ.2.1 46) (σ.2.1 48)) (x10.toInt)) x11.toInt) (hr12_0 : -1 ≤ r12.toInt) (hr12_1 : r12.toInt ≤ 5) (c13 : 0 < r12.toInt) : ∀ v9 : QV, QAT (qH (σ.2.1 36) (σ.2.1 37) (σ.2.1 38) (σ.2.1 39) (σ.2.1 40) (σ.2.1 41) (σ.2.1 42) (σ.2.1 43) (σ.2.1 44) (σ.2.1 45) (σ.2.1 46) (σ.2.1 48)) (σ.1 47).toInt ((σ.2.1 51), (σ.2.2.1 52), (σ.2.2.1 53), (σ.2.2.2)) k0.toNatClampNeg v9 → ((1 : Int32).toInt = 0 → qFits (qH (σ.2.1 36) (σ.2.1 37) (σ.2.1 38) (σ.2.1 39) (σ.2.1 40) (σ.2.1 41) (σ.2.1 42) (σ.2.1 43) (σ.2.1 44) (σ.2.1 45) (σ.2.1 46) (σ.2.1 48)) v9 k1.toInt = false) ∧ (¬ (1 : Int32).toInt = 0 → qFits (qH (σ.2.1 36) (σ.2.1 37) (σ.2.1 38) (σ.2.1 39) (σ.2.1 40) (σ.2.1 41) (σ.2.1 42) (σ.2.1 43) (σ.2.1 44) (σ.2.1 45) (σ.2.1 46) (σ.2.1 48)) v9 k1.toInt = true) := by
  have q1 : (1 : Int32).toInt = 1 := by decide +kernel
  have q8 : (8 : Int32).toInt = 8 := by decide +kernel
  have cv_hpre_5 := id hpre_5
  unfold CV at cv_hpre_5
  intro v9 h9
  have kd := h9.kd
  dsimp only at kd
  have kk := h9.ok.kd
  have st := hr12y
  rw [show x10.toInt = v9.1 - 8 by omega, show x11.toInt = k1.toInt - 8 by omega] at st
  unfold qFits
  refine ⟨fun h => decide_eq_false ?_, fun h => decide_eq_true ?_⟩ <;> omega
-- post @42
theorem v_fitsType_20 (σ : RS) (k0 : Int32) (k1 : Int32) (x2 : Int32) (x4 : Int32) (hpre_0 : 0 ≤ (σ.1 35).toInt) (hpre_1 : (σ.1 35).toInt ≤ 5) (hpre_2 : CLS (σ.1 35).toInt (σ.2.1 36) (σ.2.1 37) (σ.2.1 40)) (hpre_3 : 0 ≤ k0.toInt) (hpre_4 : k0.toInt < 980) (hpre_5 : CV (σ.2.1 51) (σ.2.2.1 52) (σ.1 35).toInt (σ.1 47).toInt k0.toNatClampNeg) (hpre_6 : 0 ≤ k1.toInt) (hpre_7 : k1.toInt ≤ 12) (c1 : ¬ k1.toInt = 5) (ex2 : x2 = (σ.2.1 51) k0.toNatClampNeg) (tx2 : x2.toInt = ((σ.2.1 51) k0.toNatClampNeg).toInt) (c3 : ¬ x2.toInt = k1.toInt) (ex4 : x4 = (σ.2.1 51) k0.toNatClampNeg) (tx4 : x4.toInt = ((σ.2.1 51) k0.toNatClampNeg).toInt) (c5 : x4.toInt = 0) (c14 : k1.toInt = 4) : ((1 : Int32).toInt = 0 ∨ (1 : Int32).toInt = 1) ∧ (¬ (1 : Int32).toInt = 0 → k1.toInt = 5 ∨ ((σ.2.1 51) k0.toNatClampNeg).toInt = k1.toInt ∨ ((σ.2.1 51) k0.toNatClampNeg).toInt = 0 ∨ 8 ≤ ((σ.2.1 51) k0.toNatClampNeg).toInt) := by
  have q1 : (1 : Int32).toInt = 1 := by decide +kernel
  have cv_hpre_5 := id hpre_5
  unfold CV at cv_hpre_5
  refine ⟨?_, ?_⟩ <;> first | assumption | omega | (subst_vars; omega) | trivial
-- post2 @42
theorem v_fitsType_21 (σ : RS) (k0 : Int32) (k1 : Int32) (x2 : Int32) (x4 : Int32) (hpre_0 : 0 ≤ (σ.1 35).toInt) (hpre_1 : (σ.1 35).toInt ≤ 5) (hpre_2 : CLS (σ.1 35).toInt (σ.2.1 36) (σ.2.1 37) (σ.2.1 40)) (hpre_3 : 0 ≤ k0.toInt) (hpre_4 : k0.toInt < 980) (hpre_5 : CV (σ.2.1 51) (σ.2.2.1 52) (σ.1 35).toInt (σ.1 47).toInt k0.toNatClampNeg) (hpre_6 : 0 ≤ k1.toInt) (hpre_7 : k1.toInt ≤ 12) (c1 : ¬ k1.toInt = 5) (ex2 : x2 = (σ.2.1 51) k0.toNatClampNeg) (tx2 : x2.toInt = ((σ.2.1 51) k0.toNatClampNeg).toInt) (c3 : ¬ x2.toInt = k1.toInt) (ex4 : x4 = (σ.2.1 51) k0.toNatClampNeg) (tx4 : x4.toInt = ((σ.2.1 51) k0.toNatClampNeg).toInt) (c5 : x4.toInt = 0) (c14 : k1.toInt = 4) : ∀ v9 : QV, QAT (qH (σ.2.1 36) (σ.2.1 37) (σ.2.1 38) (σ.2.1 39) (σ.2.1 40) (σ.2.1 41) (σ.2.1 42) (σ.2.1 43) (σ.2.1 44) (σ.2.1 45) (σ.2.1 46) (σ.2.1 48)) (σ.1 47).toInt ((σ.2.1 51), (σ.2.2.1 52), (σ.2.2.1 53), (σ.2.2.2)) k0.toNatClampNeg v9 → ((1 : Int32).toInt = 0 → qFits (qH (σ.2.1 36) (σ.2.1 37) (σ.2.1 38) (σ.2.1 39) (σ.2.1 40) (σ.2.1 41) (σ.2.1 42) (σ.2.1 43) (σ.2.1 44) (σ.2.1 45) (σ.2.1 46) (σ.2.1 48)) v9 k1.toInt = false) ∧ (¬ (1 : Int32).toInt = 0 → qFits (qH (σ.2.1 36) (σ.2.1 37) (σ.2.1 38) (σ.2.1 39) (σ.2.1 40) (σ.2.1 41) (σ.2.1 42) (σ.2.1 43) (σ.2.1 44) (σ.2.1 45) (σ.2.1 46) (σ.2.1 48)) v9 k1.toInt = true) := by
  have q1 : (1 : Int32).toInt = 1 := by decide +kernel
  have cv_hpre_5 := id hpre_5
  unfold CV at cv_hpre_5
  intro v9 h9
  have kd := h9.kd
  dsimp only at kd
  have kk := h9.ok.kd
  unfold qFits
  refine ⟨fun h => decide_eq_false ?_, fun h => decide_eq_true ?_⟩ <;> omega
-- post @42
theorem v_fitsType_22 (σ : RS) (k0 : Int32) (k1 : Int32) (x2 : Int32) (x4 : Int32) (hpre_0 : 0 ≤ (σ.1 35).toInt) (hpre_1 : (σ.1 35).toInt ≤ 5) (hpre_2 : CLS (σ.1 35).toInt (σ.2.1 36) (σ.2.1 37) (σ.2.1 40)) (hpre_3 : 0 ≤ k0.toInt) (hpre_4 : k0.toInt < 980) (hpre_5 : CV (σ.2.1 51) (σ.2.2.1 52) (σ.1 35).toInt (σ.1 47).toInt k0.toNatClampNeg) (hpre_6 : 0 ≤ k1.toInt) (hpre_7 : k1.toInt ≤ 12) (c1 : ¬ k1.toInt = 5) (ex2 : x2 = (σ.2.1 51) k0.toNatClampNeg) (tx2 : x2.toInt = ((σ.2.1 51) k0.toNatClampNeg).toInt) (c3 : ¬ x2.toInt = k1.toInt) (ex4 : x4 = (σ.2.1 51) k0.toNatClampNeg) (tx4 : x4.toInt = ((σ.2.1 51) k0.toNatClampNeg).toInt) (c5 : x4.toInt = 0) (c14 : ¬ k1.toInt = 4) (c15 : k1.toInt < 8) : ((0 : Int32).toInt = 0 ∨ (0 : Int32).toInt = 1) ∧ (¬ (0 : Int32).toInt = 0 → k1.toInt = 5 ∨ ((σ.2.1 51) k0.toNatClampNeg).toInt = k1.toInt ∨ ((σ.2.1 51) k0.toNatClampNeg).toInt = 0 ∨ 8 ≤ ((σ.2.1 51) k0.toNatClampNeg).toInt) := by
  have q0 : (0 : Int32).toInt = 0 := by decide +kernel
  have cv_hpre_5 := id hpre_5
  unfold CV at cv_hpre_5
  refine ⟨?_, ?_⟩ <;> first | assumption | omega | (subst_vars; omega) | trivial
-- post2 @42
theorem v_fitsType_23 (σ : RS) (k0 : Int32) (k1 : Int32) (x2 : Int32) (x4 : Int32) (hpre_0 : 0 ≤ (σ.1 35).toInt) (hpre_1 : (σ.1 35).toInt ≤ 5) (hpre_2 : CLS (σ.1 35).toInt (σ.2.1 36) (σ.2.1 37) (σ.2.1 40)) (hpre_3 : 0 ≤ k0.toInt) (hpre_4 : k0.toInt < 980) (hpre_5 : CV (σ.2.1 51) (σ.2.2.1 52) (σ.1 35).toInt (σ.1 47).toInt k0.toNatClampNeg) (hpre_6 : 0 ≤ k1.toInt) (hpre_7 : k1.toInt ≤ 12) (c1 : ¬ k1.toInt = 5) (ex2 : x2 = (σ.2.1 51) k0.toNatClampNeg) (tx2 : x2.toInt = ((σ.2.1 51) k0.toNatClampNeg).toInt) (c3 : ¬ x2.toInt = k1.toInt) (ex4 : x4 = (σ.2.1 51) k0.toNatClampNeg) (tx4 : x4.toInt = ((σ.2.1 51) k0.toNatClampNeg).toInt) (c5 : x4.toInt = 0) (c14 : ¬ k1.toInt = 4) (c15 : k1.toInt < 8) : ∀ v9 : QV, QAT (qH (σ.2.1 36) (σ.2.1 37) (σ.2.1 38) (σ.2.1 39) (σ.2.1 40) (σ.2.1 41) (σ.2.1 42) (σ.2.1 43) (σ.2.1 44) (σ.2.1 45) (σ.2.1 46) (σ.2.1 48)) (σ.1 47).toInt ((σ.2.1 51), (σ.2.2.1 52), (σ.2.2.1 53), (σ.2.2.2)) k0.toNatClampNeg v9 → ((0 : Int32).toInt = 0 → qFits (qH (σ.2.1 36) (σ.2.1 37) (σ.2.1 38) (σ.2.1 39) (σ.2.1 40) (σ.2.1 41) (σ.2.1 42) (σ.2.1 43) (σ.2.1 44) (σ.2.1 45) (σ.2.1 46) (σ.2.1 48)) v9 k1.toInt = false) ∧ (¬ (0 : Int32).toInt = 0 → qFits (qH (σ.2.1 36) (σ.2.1 37) (σ.2.1 38) (σ.2.1 39) (σ.2.1 40) (σ.2.1 41) (σ.2.1 42) (σ.2.1 43) (σ.2.1 44) (σ.2.1 45) (σ.2.1 46) (σ.2.1 48)) v9 k1.toInt = true) := by
  have q0 : (0 : Int32).toInt = 0 := by decide +kernel
  have cv_hpre_5 := id hpre_5
  unfold CV at cv_hpre_5
  intro v9 h9
  have kd := h9.kd
  dsimp only at kd
  have kk := h9.ok.kd
  unfold qFits
  refine ⟨fun h => decide_eq_false ?_, fun h => decide_eq_true ?_⟩ <;> omega
-- post @42
theorem v_fitsType_24 (σ : RS) (k0 : Int32) (k1 : Int32) (x2 : Int32) (x4 : Int32) (hpre_0 : 0 ≤ (σ.1 35).toInt) (hpre_1 : (σ.1 35).toInt ≤ 5) (hpre_2 : CLS (σ.1 35).toInt (σ.2.1 36) (σ.2.1 37) (σ.2.1 40)) (hpre_3 : 0 ≤ k0.toInt) (hpre_4 : k0.toInt < 980) (hpre_5 : CV (σ.2.1 51) (σ.2.2.1 52) (σ.1 35).toInt (σ.1 47).toInt k0.toNatClampNeg) (hpre_6 : 0 ≤ k1.toInt) (hpre_7 : k1.toInt ≤ 12) (c1 : ¬ k1.toInt = 5) (ex2 : x2 = (σ.2.1 51) k0.toNatClampNeg) (tx2 : x2.toInt = ((σ.2.1 51) k0.toNatClampNeg).toInt) (c3 : ¬ x2.toInt = k1.toInt) (ex4 : x4 = (σ.2.1 51) k0.toNatClampNeg) (tx4 : x4.toInt = ((σ.2.1 51) k0.toNatClampNeg).toInt) (c5 : x4.toInt = 0) (c14 : ¬ k1.toInt = 4) (c15 : 8 ≤ k1.toInt) : ((1 : Int32).toInt = 0 ∨ (1 : Int32).toInt = 1) ∧ (¬ (1 : Int32).toInt = 0 → k1.toInt = 5 ∨ ((σ.2.1 51) k0.toNatClampNeg).toInt = k1.toInt ∨ ((σ.2.1 51) k0.toNatClampNeg).toInt = 0 ∨ 8 ≤ ((σ.2.1 51) k0.toNatClampNeg).toInt) := by
  have q1 : (1 : Int32).toInt = 1 := by decide +kernel
  have cv_hpre_5 := id hpre_5
  unfold CV at cv_hpre_5
  refine ⟨?_, ?_⟩ <;> first | assumption | omega | (subst_vars; omega) | trivial
-- post2 @42
theorem v_fitsType_25 (σ : RS) (k0 : Int32) (k1 : Int32) (x2 : Int32) (x4 : Int32) (hpre_0 : 0 ≤ (σ.1 35).toInt) (hpre_1 : (σ.1 35).toInt ≤ 5) (hpre_2 : CLS (σ.1 35).toInt (σ.2.1 36) (σ.2.1 37) (σ.2.1 40)) (hpre_3 : 0 ≤ k0.toInt) (hpre_4 : k0.toInt < 980) (hpre_5 : CV (σ.2.1 51) (σ.2.2.1 52) (σ.1 35).toInt (σ.1 47).toInt k0.toNatClampNeg) (hpre_6 : 0 ≤ k1.toInt) (hpre_7 : k1.toInt ≤ 12) (c1 : ¬ k1.toInt = 5) (ex2 : x2 = (σ.2.1 51) k0.toNatClampNeg) (tx2 : x2.toInt = ((σ.2.1 51) k0.toNatClampNeg).toInt) (c3 : ¬ x2.toInt = k1.toInt) (ex4 : x4 = (σ.2.1 51) k0.toNatClampNeg) (tx4 : x4.toInt = ((σ.2.1 51) k0.toNatClampNeg).toInt) (c5 : x4.toInt = 0) (c14 : ¬ k1.toInt = 4) (c15 : 8 ≤ k1.toInt) : ∀ v9 : QV, QAT (qH (σ.2.1 36) (σ.2.1 37) (σ.2.1 38) (σ.2.1 39) (σ.2.1 40) (σ.2.1 41) (σ.2.1 42) (σ.2.1 43) (σ.2.1 44) (σ.2.1 45) (σ.2.1 46) (σ.2.1 48)) (σ.1 47).toInt ((σ.2.1 51), (σ.2.2.1 52), (σ.2.2.1 53), (σ.2.2.2)) k0.toNatClampNeg v9 → ((1 : Int32).toInt = 0 → qFits (qH (σ.2.1 36) (σ.2.1 37) (σ.2.1 38) (σ.2.1 39) (σ.2.1 40) (σ.2.1 41) (σ.2.1 42) (σ.2.1 43) (σ.2.1 44) (σ.2.1 45) (σ.2.1 46) (σ.2.1 48)) v9 k1.toInt = false) ∧ (¬ (1 : Int32).toInt = 0 → qFits (qH (σ.2.1 36) (σ.2.1 37) (σ.2.1 38) (σ.2.1 39) (σ.2.1 40) (σ.2.1 41) (σ.2.1 42) (σ.2.1 43) (σ.2.1 44) (σ.2.1 45) (σ.2.1 46) (σ.2.1 48)) v9 k1.toInt = true) := by
  have q1 : (1 : Int32).toInt = 1 := by decide +kernel
  have cv_hpre_5 := id hpre_5
  unfold CV at cv_hpre_5
  intro v9 h9
  have kd := h9.kd
  dsimp only at kd
  have kk := h9.ok.kd
  unfold qFits
  refine ⟨fun h => decide_eq_false ?_, fun h => decide_eq_true ?_⟩ <;> omega
-- post @16
theorem v_fitsType_26 (σ : RS) (k0 : Int32) (k1 : Int32) (x2 : Int32) (hpre_0 : 0 ≤ (σ.1 35).toInt) (hpre_1 : (σ.1 35).toInt ≤ 5) (hpre_2 : CLS (σ.1 35).toInt (σ.2.1 36) (σ.2.1 37) (σ.2.1 40)) (hpre_3 : 0 ≤ k0.toInt) (hpre_4 : k0.toInt < 980) (hpre_5 : CV (σ.2.1 51) (σ.2.2.1 52) (σ.1 35).toInt (σ.1 47).toInt k0.toNatClampNeg) (hpre_6 : 0 ≤ k1.toInt) (hpre_7 : k1.toInt ≤ 12) (c1 : ¬ k1.toInt = 5) (ex2 : x2 = (σ.2.1 51) k0.toNatClampNeg) (tx2 : x2.toInt = ((σ.2.1 51) k0.toNatClampNeg).toInt) (c3 : x2.toInt = k1.toInt) : ((1 : Int32).toInt = 0 ∨ (1 : Int32).toInt = 1) ∧ (¬ (1 : Int32).toInt = 0 → k1.toInt = 5 ∨ ((σ.2.1 51) k0.toNatClampNeg).toInt = k1.toInt ∨ ((σ.2.1 51) k0.toNatClampNeg).toInt = 0 ∨ 8 ≤ ((σ.2.1 51) k0.toNatClampNeg).toInt) := by
  have q1 : (1 : Int32).toInt = 1 := by decide +kernel
  have cv_hpre_5 := id hpre_5
  unfold CV at cv_hpre_5
  refine ⟨?_, ?_⟩ <;> first | assumption | omega | (subst_vars; omega) | trivial
-- post2 @16
theorem v_fitsType_27 (σ : RS) (k0 : Int32) (k1 : Int32) (x2 : Int32) (hpre_0 : 0 ≤ (σ.1 35).toInt) (hpre_1 : (σ.1 35).toInt ≤ 5) (hpre_2 : CLS (σ.1 35).toInt (σ.2.1 36) (σ.2.1 37) (σ.2.1 40)) (hpre_3 : 0 ≤ k0.toInt) (hpre_4 : k0.toInt < 980) (hpre_5 : CV (σ.2.1 51) (σ.2.2.1 52) (σ.1 35).toInt (σ.1 47).toInt k0.toNatClampNeg) (hpre_6 : 0 ≤ k1.toInt) (hpre_7 : k1.toInt ≤ 12) (c1 : ¬ k1.toInt = 5) (ex2 : x2 = (σ.2.1 51) k0.toNatClampNeg) (tx2 : x2.toInt = ((σ.2.1 51) k0.toNatClampNeg).toInt) (c3 : x2.toInt = k1.toInt) : ∀ v9 : QV, QAT (qH (σ.2.1 36) (σ.2.1 37) (σ.2.1 38) (σ.2.1 39) (σ.2.1 40) (σ.2.1 41) (σ.2.1 42) (σ.2.1 43) (σ.2.1 44) (σ.2.1 45) (σ.2.1 46) (σ.2.1 48)) (σ.1 47).toInt ((σ.2.1 51), (σ.2.2.1 52), (σ.2.2.1 53), (σ.2.2.2)) k0.toNatClampNeg v9 → ((1 : Int32).toInt = 0 → qFits (qH (σ.2.1 36) (σ.2.1 37) (σ.2.1 38) (σ.2.1 39) (σ.2.1 40) (σ.2.1 41) (σ.2.1 42) (σ.2.1 43) (σ.2.1 44) (σ.2.1 45) (σ.2.1 46) (σ.2.1 48)) v9 k1.toInt = false) ∧ (¬ (1 : Int32).toInt = 0 → qFits (qH (σ.2.1 36) (σ.2.1 37) (σ.2.1 38) (σ.2.1 39) (σ.2.1 40) (σ.2.1 41) (σ.2.1 42) (σ.2.1 43) (σ.2.1 44) (σ.2.1 45) (σ.2.1 46) (σ.2.1 48)) v9 k1.toInt = true) := by
  have q1 : (1 : Int32).toInt = 1 := by decide +kernel
  have cv_hpre_5 := id hpre_5
  unfold CV at cv_hpre_5
  intro v9 h9
  have kd := h9.kd
  dsimp only at kd
  have kk := h9.ok.kd
  unfold qFits
  refine ⟨fun h => decide_eq_false ?_, fun h => decide_eq_true ?_⟩ <;> omega
set_option maxHeartbeats 4000000 in
set_option maxRecDepth 100000 in
theorem M_fitsType (l : Launch) (D : va_G) (cy : Nat → ClassId) (sz0 : Nat) (sa : Nat → Nat) (ad : Nat → Nat) (σ : RS) (sz : Nat) (k0 : Int32) (k1 : Int32) (hpre : 0 ≤ (σ.1 35).toInt ∧ (σ.1 35).toInt ≤ 5 ∧ CLS (σ.1 35).toInt (σ.2.1 36) (σ.2.1 37) (σ.2.1 40) ∧ 0 ≤ k0.toInt ∧ k0.toInt < 980 ∧ CV (σ.2.1 51) (σ.2.2.1 52) (σ.1 35).toInt (σ.1 47).toInt k0.toNatClampNeg ∧ 0 ≤ k1.toInt ∧ k1.toInt ≤ 12) : Met l yX12_fitsType (Cond.code yX12_fitsType cX12_fitsType 3 (some .boolean) :: GWm) ({ frames := 1, cells := 0, slots := 0, locals := 24 }) (PcR D cy sz0 sa ad [.ref (ad 0), .int k0, .int k1] σ sz) (va_Qi (fun (r : Int32) (u : Unit) => ((r.toInt = 0 ∨ r.toInt = 1) ∧ (¬ r.toInt = 0 → k1.toInt = 5 ∨ ((σ.2.1 51) k0.toNatClampNeg).toInt = k1.toInt ∨ ((σ.2.1 51) k0.toNatClampNeg).toInt = 0 ∨ 8 ≤ ((σ.2.1 51) k0.toNatClampNeg).toInt)) ∧ (∀ v9 : QV, QAT (qH (σ.2.1 36) (σ.2.1 37) (σ.2.1 38) (σ.2.1 39) (σ.2.1 40) (σ.2.1 41) (σ.2.1 42) (σ.2.1 43) (σ.2.1 44) (σ.2.1 45) (σ.2.1 46) (σ.2.1 48)) (σ.1 47).toInt ((σ.2.1 51), (σ.2.2.1 52), (σ.2.2.1 53), (σ.2.2.2)) k0.toNatClampNeg v9 → (r.toInt = 0 → qFits (qH (σ.2.1 36) (σ.2.1 37) (σ.2.1 38) (σ.2.1 39) (σ.2.1 40) (σ.2.1 41) (σ.2.1 42) (σ.2.1 43) (σ.2.1 44) (σ.2.1 45) (σ.2.1 46) (σ.2.1 48)) v9 k1.toInt = false) ∧ (¬ r.toInt = 0 → qFits (qH (σ.2.1 36) (σ.2.1 37) (σ.2.1 38) (σ.2.1 39) (σ.2.1 40) (σ.2.1 41) (σ.2.1 42) (σ.2.1 43) (σ.2.1 44) (σ.2.1 45) (σ.2.1 46) (σ.2.1 48)) v9 k1.toInt = true))) (fun (u : Unit) (t : State) => RP D cy ad σ t.heap) (AR cy ad sz)) 0 0 (AR cy ad sz) := by
  refine RM_of (loc0 := [(0, .ref (ad 0)), (1, .int k0), (2, .int k1)]) (by decide) rfl rfl (Nat.le_of_ble_eq_true rfl) ?_
  intro p e s m below meth c ls hsz C hP hS hl
  have hx := C.1
  have hb := C.2.1
  have hown := C.2.2.2.2.1
  have hw := C.2.2.2.2.2.1
  clear hsz
  obtain ⟨hpre_0, hpre_1, hpre_2, hpre_3, hpre_4, hpre_5, hpre_6, hpre_7⟩ := hpre
  refine lv_iload_n hx hb dX12_fitsType_0 rfl (lv_at hl 2 rfl) ?_
  refine lv_iconst (v := 5) hx hb dX12_fitsType_1 (by decide +kernel) ?_
  refine lv_icmp_eq (tgt := 15) hx hb dX12_fitsType_2 (by decide) (fun c1 => ?_) (fun c1 => ?_)
  · have c1 : k1.toInt = 5 := by have h := z_eq c1; rw [show (5 : Int32).toInt = 5 from by decide +kernel] at h; exact h
    refine lv_iconst (v := 1) hx hb dX12_fitsType_15 (by decide +kernel) ?_
    exact r_retz C () (v_fitsType_3  ) ⟨(v_fitsType_1 σ k0 k1 hpre_0 hpre_1 hpre_2 hpre_3 hpre_4 hpre_5 hpre_6 hpre_7 c1), (v_fitsType_2 σ k0 k1 hpre_0 hpre_1 hpre_2 hpre_3 hpre_4 hpre_5 hpre_6 hpre_7 c1)⟩ hP hS dX12_fitsType_16
  · have c1 : ¬ k1.toInt = 5 := by have h := z_ne c1; rw [show (5 : Int32).toInt = 5 from by decide +kernel] at h; exact h
    refine lv_aload_n hx hb dX12_fitsType_5 rfl (lv_at hl 0 rfl) ?_
    refine rg_51 C hP wm_205 dX12_fitsType_6 ?_
    refine lv_iload_n hx hb dX12_fitsType_9 rfl (lv_at hl 1 rfl) ?_
    refine ra_51 (f := (σ.2.1 51)) C hP rfl (v_fitsType_4 σ k0 hpre_0 hpre_1 hpre_2 hpre_3 hpre_4 hpre_5) dX12_fitsType_10 (fun x2 ex2 => ?_)
    have tx2 : x2.toInt = ((σ.2.1 51) k0.toNatClampNeg).toInt := by rw [ex2]
    refine lv_iload_n hx hb dX12_fitsType_11 rfl (lv_at hl 2 rfl) ?_
    refine lv_icmp_ne (tgt := 17) hx hb dX12_fitsType_12 (by decide) (fun c3 => ?_) (fun c3 => ?_)
    · have c3 : ¬ x2.toInt = k1.toInt := by have h := z_ne c3; exact h
      refine lv_aload_n hx hb dX12_fitsType_17 rfl (lv_at hl 0 rfl) ?_
      refine rg_51 C hP wm_205 dX12_fitsType_18 ?_
      refine lv_iload_n hx hb dX12_fitsType_21 rfl (lv_at hl 1 rfl) ?_
      refine ra_51 (f := (σ.2.1 51)) C hP rfl (v_fitsType_5 σ k0 k1 x2 hpre_0 hpre_1 hpre_2 hpre_3 hpre_4 hpre_5 hpre_6 hpre_7 c1 ex2 tx2 c3) dX12_fitsType_22 (fun x4 ex4 => ?_)
      have tx4 : x4.toInt = ((σ.2.1 51) k0.toNatClampNeg).toInt := by rw [ex4]
      refine lv_if_ne (tgt := 43) hx hb dX12_fitsType_23 (by decide) (fun c5 => ?_) (fun c5 => ?_)
      · have c5 : ¬ x4.toInt = 0 := by have h := z_ne c5; rw [show (0 : Int32).toInt = 0 from by decide +kernel] at h; exact h
        refine lv_aload_n hx hb dX12_fitsType_43 rfl (lv_at hl 0 rfl) ?_
        refine rg_51 C hP wm_205 dX12_fitsType_44 ?_
        refine lv_iload_n hx hb dX12_fitsType_47 rfl (lv_at hl 1 rfl) ?_
        refine ra_51 (f := (σ.2.1 51)) C hP rfl (v_fitsType_6 σ k0 k1 x2 x4 hpre_0 hpre_1 hpre_2 hpre_3 hpre_4 hpre_5 hpre_6 hpre_7 c1 ex2 tx2 c3 ex4 tx4 c5) dX12_fitsType_48 (fun x6 ex6 => ?_)
        have tx6 : x6.toInt = ((σ.2.1 51) k0.toNatClampNeg).toInt := by rw [ex6]
        refine lv_bipush (v := 8) hx hb dX12_fitsType_49 (by decide +kernel) ?_
        refine lv_icmp_lt (tgt := 84) hx hb dX12_fitsType_51 (by decide) (fun c7 => ?_) (fun c7 => ?_)
        · have c7 : x6.toInt < 8 := by have h := z_lt c7; rw [show (8 : Int32).toInt = 8 from by decide +kernel] at h; exact h
          refine lv_iconst (v := 0) hx hb dX12_fitsType_84 (by decide +kernel) ?_
          exact r_retz C () (v_fitsType_9  ) ⟨(v_fitsType_7 σ k0 k1 x2 x4 x6 hpre_0 hpre_1 hpre_2 hpre_3 hpre_4 hpre_5 hpre_6 hpre_7 c1 ex2 tx2 c3 ex4 tx4 c5 ex6 tx6 c7), (v_fitsType_8 σ k0 k1 x2 x4 x6 hpre_0 hpre_1 hpre_2 hpre_3 hpre_4 hpre_5 hpre_6 hpre_7 c1 ex2 tx2 c3 ex4 tx4 c5 ex6 tx6 c7)⟩ hP hS dX12_fitsType_85
        · have c7 : 8 ≤ x6.toInt := by have h := z_nlt c7; rw [show (8 : Int32).toInt = 8 from by decide +kernel] at h; exact h
          refine lv_iload_n hx hb dX12_fitsType_54 rfl (lv_at hl 2 rfl) ?_
          refine lv_bipush (v := 8) hx hb dX12_fitsType_55 (by decide +kernel) ?_
          refine lv_icmp_lt (tgt := 84) hx hb dX12_fitsType_57 (by decide) (fun c8 => ?_) (fun c8 => ?_)
          · have c8 : k1.toInt < 8 := by have h := z_lt c8; rw [show (8 : Int32).toInt = 8 from by decide +kernel] at h; exact h
            refine lv_iconst (v := 0) hx hb dX12_fitsType_84 (by decide +kernel) ?_
            exact r_retz C () (v_fitsType_9  ) ⟨(v_fitsType_10 σ k0 k1 x2 x4 x6 hpre_0 hpre_1 hpre_2 hpre_3 hpre_4 hpre_5 hpre_6 hpre_7 c1 ex2 tx2 c3 ex4 tx4 c5 ex6 tx6 c7 c8), (v_fitsType_11 σ k0 k1 x2 x4 x6 hpre_0 hpre_1 hpre_2 hpre_3 hpre_4 hpre_5 hpre_6 hpre_7 c1 ex2 tx2 c3 ex4 tx4 c5 ex6 tx6 c7 c8)⟩ hP hS dX12_fitsType_85
          · have c8 : 8 ≤ k1.toInt := by have h := z_nlt c8; rw [show (8 : Int32).toInt = 8 from by decide +kernel] at h; exact h
            refine lv_aload_n hx hb dX12_fitsType_60 rfl (lv_at hl 0 rfl) ?_
            refine lv_aload_n hx hb dX12_fitsType_61 rfl (lv_at hl 0 rfl) ?_
            refine rg_51 C hP wm_205 dX12_fitsType_62 ?_
            refine lv_iload_n hx hb dX12_fitsType_65 rfl (lv_at hl 1 rfl) ?_
            refine ra_51 (f := (σ.2.1 51)) C hP rfl (v_fitsType_12 σ k0 k1 x2 x4 x6 hpre_0 hpre_1 hpre_2 hpre_3 hpre_4 hpre_5 hpre_6 hpre_7 c1 ex2 tx2 c3 ex4 tx4 c5 ex6 tx6 c7 c8) dX12_fitsType_66 (fun x9 ex9 => ?_)
            have tx9 : x9.toInt = ((σ.2.1 51) k0.toNatClampNeg).toInt := by rw [ex9]
            refine lv_bipush (v := 8) hx hb dX12_fitsType_67 (by decide +kernel) ?_
            refine lv_isub hx hb dX12_fitsType_69 ?_
            refine lv_topi (fun x10 ex10 => ?_)
            have tx10 : x10.toInt = x9.toInt - 8 := (v_fitsType_13 σ k0 k1 x2 x4 x6 x9 x10 hpre_0 hpre_1 hpre_2 hpre_3 hpre_4 hpre_5 hpre_6 hpre_7 c1 ex2 tx2 c3 ex4 tx4 c5 ex6 tx6 c7 c8 ex9 tx9 ex10)
            refine lv_iload_n hx hb dX12_fitsType_70 rfl (lv_at hl 2 rfl) ?_
            refine lv_bipush (v := 8) hx hb dX12_fitsType_71 (by decide +kernel) ?_
            refine lv_isub hx hb dX12_fitsType_73 ?_
            refine lv_topi (fun x11 ex11 => ?_)
            have tx11 : x11.toInt = k1.toInt - 8 := (v_fitsType_14 σ k0 k1 x2 x4 x6 x9 x10 x11 hpre_0 hpre_1 hpre_2 hpre_3 hpre_4 hpre_5 hpre_6 hpre_7 c1 ex2 tx2 c3 ex4 tx4 c5 ex6 tx6 c7 c8 ex9 tx9 ex10 tx10 ex11)
            refine r_callVi (As := [.int x10, .int x11]) (rest := []) C hP hS hl.1 ⟨Nat.zero_le _, Nat.zero_le _⟩ (M_steps l D cy sz0 sa ad σ s.heap.size x10 x11 (v_fitsType_15 σ k0 k1 x2 x4 x6 x9 x10 x11 hpre_0 hpre_1 hpre_2 hpre_3 hpre_4 hpre_5 hpre_6 hpre_7 c1 ex2 tx2 c3 ex4 tx4 c5 ex6 tx6 c7 c8 ex9 tx9 ex10 tx10 ex11 tx11)) (n := 2) ⟨wm_267, wm_265, by decide +kernel⟩ ⟨wm_268, wm_269, wm_10⟩ rfl rfl (lv_room (Nat.le_of_ble_eq_true rfl)) ⟨Nat.le_of_ble_eq_true rfl, Nat.le_of_ble_eq_true rfl⟩ dX12_fitsType_74 (fun r12 u H locs hr12 hP hS => ?_)
            obtain ⟨hr12, hr12y⟩ := hr12
            have hr12y : r12.toInt = qSteps (qAnc (qH (σ.2.1 36) (σ.2.1 37) (σ.2.1 38) (σ.2.1 39) (σ.2.1 40) (σ.2.1 41) (σ.2.1 42) (σ.2.1 43) (σ.2.1 44) (σ.2.1 45) (σ.2.1 46) (σ.2.1 48)) (x10.toInt)) x11.toInt := hr12y
            have hr12 : -1 ≤ r12.toInt ∧ r12.toInt ≤ 5 := hr12
            obtain ⟨hr12_0, hr12_1⟩ := hr12
            refine lv_if_le (tgt := 84) hx hb dX12_fitsType_77 (by decide) (fun c13 => ?_) (fun c13 => ?_)
            · have c13 : r12.toInt ≤ 0 := by have h := z_le c13; rw [show (0 : Int32).toInt = 0 from by decide +kernel] at h; exact h
              refine lv_iconst (v := 0) hx hb dX12_fitsType_84 (by decide +kernel) ?_
              exact r_retz C () (v_fitsType_9  ) ⟨(v_fitsType_16 σ k0 k1 x2 x4 x6 x9 x10 x11 hpre_0 hpre_1 hpre_2 hpre_3 hpre_4 hpre_5 hpre_6 hpre_7 c1 ex2 tx2 c3 ex4 tx4 c5 ex6 tx6 c7 c8 ex9 tx9 ex10 tx10 ex11 tx11), (v_fitsType_17 σ k0 k1 x2 x4 x6 x9 x10 x11 r12 hpre_0 hpre_1 hpre_2 hpre_3 hpre_4 hpre_5 hpre_6 hpre_7 c1 ex2 tx2 c3 ex4 tx4 c5 ex6 tx6 c7 c8 ex9 tx9 ex10 tx10 ex11 tx11 hr12y hr12_0 hr12_1 c13)⟩ hP hS dX12_fitsType_85
            · have c13 : 0 < r12.toInt := by have h := z_nle c13; rw [show (0 : Int32).toInt = 0 from by decide +kernel] at h; exact h
              refine lv_iconst (v := 1) hx hb dX12_fitsType_80 (by decide +kernel) ?_
              refine lv_goto (tgt := 85) hx hb dX12_fitsType_81 (by decide) ?_
              exact r_retz C () (v_fitsType_3  ) ⟨(v_fitsType_18 σ k0 k1 x2 x4 x6 x9 x10 x11 hpre_0 hpre_1 hpre_2 hpre_3 hpre_4 hpre_5 hpre_6 hpre_7 c1 ex2 tx2 c3 ex4 tx4 c5 ex6 tx6 c7 c8 ex9 tx9 ex10 tx10 ex11 tx11), (v_fitsType_19 σ k0 k1 x2 x4 x6 x9 x10 x11 r12 hpre_0 hpre_1 hpre_2 hpre_3 hpre_4 hpre_5 hpre_6 hpre_7 c1 ex2 tx2 c3 ex4 tx4 c5 ex6 tx6 c7 c8 ex9 tx9 ex10 tx10 ex11 tx11 hr12y hr12_0 hr12_1 c13)⟩ hP hS dX12_fitsType_85
      · have c5 : x4.toInt = 0 := by have h := z_eq c5; rw [show (0 : Int32).toInt = 0 from by decide +kernel] at h; exact h
        refine lv_iload_n hx hb dX12_fitsType_26 rfl (lv_at hl 2 rfl) ?_
        refine lv_iconst (v := 4) hx hb dX12_fitsType_27 (by decide +kernel) ?_
        refine lv_icmp_eq (tgt := 37) hx hb dX12_fitsType_28 (by decide) (fun c14 => ?_) (fun c14 => ?_)
        · have c14 : k1.toInt = 4 := by have h := z_eq c14; rw [show (4 : Int32).toInt = 4 from by decide +kernel] at h; exact h
          refine lv_iconst (v := 1) hx hb dX12_fitsType_37 (by decide +kernel) ?_
          refine lv_goto (tgt := 42) hx hb dX12_fitsType_38 (by decide) ?_
          exact r_retz C () (v_fitsType_3  ) ⟨(v_fitsType_20 σ k0 k1 x2 x4 hpre_0 hpre_1 hpre_2 hpre_3 hpre_4 hpre_5 hpre_6 hpre_7 c1 ex2 tx2 c3 ex4 tx4 c5 c14), (v_fitsType_21 σ k0 k1 x2 x4 hpre_0 hpre_1 hpre_2 hpre_3 hpre_4 hpre_5 hpre_6 hpre_7 c1 ex2 tx2 c3 ex4 tx4 c5 c14)⟩ hP hS dX12_fitsType_42
        · have c14 : ¬ k1.toInt = 4 := by have h := z_ne c14; rw [show (4 : Int32).toInt = 4 from by decide +kernel] at h; exact h
          refine lv_iload_n hx hb dX12_fitsType_31 rfl (lv_at hl 2 rfl) ?_
          refine lv_bipush (v := 8) hx hb dX12_fitsType_32 (by decide +kernel) ?_
          refine lv_icmp_lt (tgt := 41) hx hb dX12_fitsType_34 (by decide) (fun c15 => ?_) (fun c15 => ?_)
          · have c15 : k1.toInt < 8 := by have h := z_lt c15; rw [show (8 : Int32).toInt = 8 from by decide +kernel] at h; exact h
            refine lv_iconst (v := 0) hx hb dX12_fitsType_41 (by decide +kernel) ?_
            exact r_retz C () (v_fitsType_9  ) ⟨(v_fitsType_22 σ k0 k1 x2 x4 hpre_0 hpre_1 hpre_2 hpre_3 hpre_4 hpre_5 hpre_6 hpre_7 c1 ex2 tx2 c3 ex4 tx4 c5 c14 c15), (v_fitsType_23 σ k0 k1 x2 x4 hpre_0 hpre_1 hpre_2 hpre_3 hpre_4 hpre_5 hpre_6 hpre_7 c1 ex2 tx2 c3 ex4 tx4 c5 c14 c15)⟩ hP hS dX12_fitsType_42
          · have c15 : 8 ≤ k1.toInt := by have h := z_nlt c15; rw [show (8 : Int32).toInt = 8 from by decide +kernel] at h; exact h
            refine lv_iconst (v := 1) hx hb dX12_fitsType_37 (by decide +kernel) ?_
            refine lv_goto (tgt := 42) hx hb dX12_fitsType_38 (by decide) ?_
            exact r_retz C () (v_fitsType_3  ) ⟨(v_fitsType_24 σ k0 k1 x2 x4 hpre_0 hpre_1 hpre_2 hpre_3 hpre_4 hpre_5 hpre_6 hpre_7 c1 ex2 tx2 c3 ex4 tx4 c5 c14 c15), (v_fitsType_25 σ k0 k1 x2 x4 hpre_0 hpre_1 hpre_2 hpre_3 hpre_4 hpre_5 hpre_6 hpre_7 c1 ex2 tx2 c3 ex4 tx4 c5 c14 c15)⟩ hP hS dX12_fitsType_42
    · have c3 : x2.toInt = k1.toInt := by have h := z_eq c3; exact h
      refine lv_iconst (v := 1) hx hb dX12_fitsType_15 (by decide +kernel) ?_
      exact r_retz C () (v_fitsType_3  ) ⟨(v_fitsType_26 σ k0 k1 x2 hpre_0 hpre_1 hpre_2 hpre_3 hpre_4 hpre_5 hpre_6 hpre_7 c1 ex2 tx2 c3), (v_fitsType_27 σ k0 k1 x2 hpre_0 hpre_1 hpre_2 hpre_3 hpre_4 hpre_5 hpre_6 hpre_7 c1 ex2 tx2 c3)⟩ hP hS dX12_fitsType_16

-- nw@14 @14
theorem v_convertible_1 (k1 : Int32) (x2 : Int32) (hpre_7 : 0 ≤ k1.toInt) (hpre_8 : k1.toInt ≤ 12) (c1 : k1.toInt ≤ 4) (ex2 : x2 = (25 : Int32) + k1) : x2.toInt = 25 + k1.toInt := by
  have q25 : (25 : Int32).toInt = 25 := by decide +kernel
  have w0 : (25 : Int32).toInt = 25 := by decide +kernel
  rw [ex2, z_add (by omega) (by omega)]; first | done | omega
-- in@15 @15
theorem v_convertible_2 (k1 : Int32) (x2 : Int32) (hpre_7 : 0 ≤ k1.toInt) (hpre_8 : k1.toInt ≤ 12) (c1 : k1.toInt ≤ 4) (ex2 : x2 = (25 : Int32) + k1) (tx2 : x2.toInt = 25 + k1.toInt) : vp_in x2 65 := by
  have q25 : (25 : Int32).toInt = 25 := by decide +kernel
  exact vp_in_iff.mpr ⟨by omega, by omega⟩
-- in@22 @22
theorem v_convertible_3 (σ : RS) (k0 : Int32) (hpre_1 : 0 ≤ (σ.1 35).toInt) (hpre_2 : (σ.1 35).toInt ≤ 5) (hpre_3 : CLS (σ.1 35).toInt (σ.2.1 36) (σ.2.1 37) (σ.2.1 40)) (hpre_4 : 0 ≤ k0.toInt) (hpre_5 : k0.toInt < 980) (hpre_6 : CV (σ.2.1 51) (σ.2.2.1 52) (σ.1 35).toInt (σ.1 47).toInt k0.toNatClampNeg) : vp_in k0 980 := by
  have cv_hpre_6 := id hpre_6
  unfold CV at cv_hpre_6
  exact vp_in_iff.mpr ⟨by omega, by omega⟩
-- post @121
theorem v_convertible_4 (σ : RS) (k1 : Int32) (x2 : Int32) (x3 : Int32) (hpre_0 : BLS (σ.2.1 46)) (hpre_7 : 0 ≤ k1.toInt) (hpre_8 : k1.toInt ≤ 12) (c1 : k1.toInt ≤ 4) (ex2 : x2 = (25 : Int32) + k1) (tx2 : x2.toInt = 25 + k1.toInt) (ex3 : x3 = (σ.2.1 46) x2.toNatClampNeg) (tx3 : x3.toInt = ((σ.2.1 46) (25 + k1.toInt).toNat).toInt) (c6 : ¬ x3.toInt = 0) : ((1 : Int32).toInt = 0 ∨ (1 : Int32).toInt = 1) ∧ (¬ (1 : Int32).toInt = 0 → k1.toInt ≤ 4) := by
  have q1 : (1 : Int32).toInt = 1 := by decide +kernel
  have q25 : (25 : Int32).toInt = 25 := by decide +kernel
  have bl_x3 := hpre_0 ((25 + k1.toInt).toNat)
  refine ⟨?_, ?_⟩ <;> first | assumption | omega | (subst_vars; omega) | trivial
-- post2 @121
theorem v_convertible_5 (σ : RS) (k0 : Int32) (k1 : Int32) (x2 : Int32) (x3 : Int32) (x4 : Int32) (hpre_0 : BLS (σ.2.1 46)) (hpre_1 : 0 ≤ (σ.1 35).toInt) (hpre_2 : (σ.1 35).toInt ≤ 5) (hpre_3 : CLS (σ.1 35).toInt (σ.2.1 36) (σ.2.1 37) (σ.2.1 40)) (hpre_4 : 0 ≤ k0.toInt) (hpre_5 : k0.toInt < 980) (hpre_6 : CV (σ.2.1 51) (σ.2.2.1 52) (σ.1 35).toInt (σ.1 47).toInt k0.toNatClampNeg) (hpre_7 : 0 ≤ k1.toInt) (hpre_8 : k1.toInt ≤ 12) (c1 : k1.toInt ≤ 4) (ex2 : x2 = (25 : Int32) + k1) (tx2 : x2.toInt = 25 + k1.toInt) (ex3 : x3 = (σ.2.1 46) x2.toNatClampNeg) (tx3 : x3.toInt = ((σ.2.1 46) (25 + k1.toInt).toNat).toInt) (ex4 : x4 = (σ.2.1 51) k0.toNatClampNeg) (tx4 : x4.toInt = ((σ.2.1 51) k0.toNatClampNeg).toInt) (c5 : x4.toInt < 8) (c6 : ¬ x3.toInt = 0) : ∀ v9 : QV, QAT (qH (σ.2.1 36) (σ.2.1 37) (σ.2.1 38) (σ.2.1 39) (σ.2.1 40) (σ.2.1 41) (σ.2.1 42) (σ.2.1 43) (σ.2.1 44) (σ.2.1 45) (σ.2.1 46) (σ.2.1 48)) (σ.1 47).toInt ((σ.2.1 51), (σ.2.2.1 52), (σ.2.2.1 53), (σ.2.2.2)) k0.toNatClampNeg v9 → ((1 : Int32).toInt = 0 → qReach (qH (σ.2.1 36) (σ.2.1 37) (σ.2.1 38) (σ.2.1 39) (σ.2.1 40) (σ.2.1 41) (σ.2.1 42) (σ.2.1 43) (σ.2.1 44) (σ.2.1 45) (σ.2.1 46) (σ.2.1 48)) v9 k1.toInt = false) ∧ (¬ (1 : Int32).toInt = 0 → qReach (qH (σ.2.1 36) (σ.2.1 37) (σ.2.1 38) (σ.2.1 39) (σ.2.1 40) (σ.2.1 41) (σ.2.1 42) (σ.2.1 43) (σ.2.1 44) (σ.2.1 45) (σ.2.1 46) (σ.2.1 48)) v9 k1.toInt = true) := by
  have q1 : (1 : Int32).toInt = 1 := by decide +kernel
  have q25 : (25 : Int32).toInt = 25 := by decide +kernel
  have cv_hpre_6 := id hpre_6
  unfold CV at cv_hpre_6
  have bl_x3 := hpre_0 ((25 + k1.toInt).toNat)
  intro v9 h9
  have kd := h9.kd
  dsimp only at kd
  have kk := h9.ok.kd
  rw [qReach_0 (by omega) (by omega)]
  have t5 : (¬ x3.toInt = 0 → qThere (qH (σ.2.1 36) (σ.2.1 37) (σ.2.1 38) (σ.2.1 39) (σ.2.1 40) (σ.2.1 41) (σ.2.1 42) (σ.2.1 43) (σ.2.1 44) (σ.2.1 45) (σ.2.1 46) (σ.2.1 48)) 5 k1.toInt = true) ∧ (x3.toInt = 0 → qThere (qH (σ.2.1 36) (σ.2.1 37) (σ.2.1 38) (σ.2.1 39) (σ.2.1 40) (σ.2.1 41) (σ.2.1 42) (σ.2.1 43) (σ.2.1 44) (σ.2.1 45) (σ.2.1 46) (σ.2.1 48)) 5 k1.toInt = false) := by
    have e9 : x3.toInt = (((σ.2.1 46) (5 * 5 + k1.toInt).toNat)).toInt := by rw [ex3, clampN, show x2.toInt = 5 * 5 + k1.toInt by omega]
    exact ⟨fun h => qThere_t (by show ¬ (((σ.2.1 46) (5 * 5 + k1.toInt).toNat)).toInt = 0; omega), fun h => qThere_f (by show (((σ.2.1 46) (5 * 5 + k1.toInt).toNat)).toInt = 0; omega)⟩
  first
  | (rw [t5.1 (by omega)]; exact ⟨fun h => by omega, fun _ => rfl⟩)
  | (rw [t5.2 (by omega), decide_eq_false (by omega)]; exact ⟨fun _ => rfl, fun h => by omega⟩)
-- bool@ret @121
theorem v_convertible_6   : (1 : Int32) = 0 ∨ (1 : Int32) = 1 := by
  have q1 : (1 : Int32).toInt = 1 := by decide +kernel
  first | exact Or.inl rfl | exact Or.inr rfl | exact bool_of (by omega)
-- in@94 @94
theorem v_convertible_7 (σ : RS) (k0 : Int32) (x4 : Int32) (hpre_1 : 0 ≤ (σ.1 35).toInt) (hpre_2 : (σ.1 35).toInt ≤ 5) (hpre_3 : CLS (σ.1 35).toInt (σ.2.1 36) (σ.2.1 37) (σ.2.1 40)) (hpre_4 : 0 ≤ k0.toInt) (hpre_5 : k0.toInt < 980) (hpre_6 : CV (σ.2.1 51) (σ.2.2.1 52) (σ.1 35).toInt (σ.1 47).toInt k0.toNatClampNeg) (ex4 : x4 = (σ.2.1 51) k0.toNatClampNeg) (tx4 : x4.toInt = ((σ.2.1 51) k0.toNatClampNeg).toInt) (c5 : x4.toInt < 8) : vp_in k0 980 := by
  have cv_hpre_6 := id hpre_6
  unfold CV at cv_hpre_6
  exact vp_in_iff.mpr ⟨by omega, by omega⟩
-- post @121
theorem v_convertible_8 (σ : RS) (k1 : Int32) (x2 : Int32) (x3 : Int32) (hpre_0 : BLS (σ.2.1 46)) (hpre_7 : 0 ≤ k1.toInt) (hpre_8 : k1.toInt ≤ 12) (c1 : k1.toInt ≤ 4) (ex2 : x2 = (25 : Int32) + k1) (tx2 : x2.toInt = 25 + k1.toInt) (ex3 : x3 = (σ.2.1 46) x2.toNatClampNeg) (tx3 : x3.toInt = ((σ.2.1 46) (25 + k1.toInt).toNat).toInt) (c6 : x3.toInt = 0) : ((0 : Int32).toInt = 0 ∨ (0 : Int32).toInt = 1) ∧ (¬ (0 : Int32).toInt = 0 → k1.toInt ≤ 4) := by
  have q0 : (0 : Int32).toInt = 0 := by decide +kernel
  have q25 : (25 : Int32).toInt = 25 := by decide +kernel
  have bl_x3 := hpre_0 ((25 + k1.toInt).toNat)
  refine ⟨?_, ?_⟩ <;> first | assumption | omega | (subst_vars; omega) | trivial
-- post2 @121
theorem v_convertible_9 (σ : RS) (k0 : Int32) (k1 : Int32) (x2 : Int32) (x3 : Int32) (x4 : Int32) (x7 : Int32) (hpre_0 : BLS (σ.2.1 46)) (hpre_1 : 0 ≤ (σ.1 35).toInt) (hpre_2 : (σ.1 35).toInt ≤ 5) (hpre_3 : CLS (σ.1 35).toInt (σ.2.1 36) (σ.2.1 37) (σ.2.1 40)) (hpre_4 : 0 ≤ k0.toInt) (hpre_5 : k0.toInt < 980) (hpre_6 : CV (σ.2.1 51) (σ.2.2.1 52) (σ.1 35).toInt (σ.1 47).toInt k0.toNatClampNeg) (hpre_7 : 0 ≤ k1.toInt) (hpre_8 : k1.toInt ≤ 12) (c1 : k1.toInt ≤ 4) (ex2 : x2 = (25 : Int32) + k1) (tx2 : x2.toInt = 25 + k1.toInt) (ex3 : x3 = (σ.2.1 46) x2.toNatClampNeg) (tx3 : x3.toInt = ((σ.2.1 46) (25 + k1.toInt).toNat).toInt) (ex4 : x4 = (σ.2.1 51) k0.toNatClampNeg) (tx4 : x4.toInt = ((σ.2.1 51) k0.toNatClampNeg).toInt) (c5 : x4.toInt < 8) (c6 : x3.toInt = 0) (ex7 : x7 = (σ.2.1 51) k0.toNatClampNeg) (tx7 : x7.toInt = ((σ.2.1 51) k0.toNatClampNeg).toInt) (c8 : x7.toInt = 0) : ∀ v9 : QV, QAT (qH (σ.2.1 36) (σ.2.1 37) (σ.2.1 38) (σ.2.1 39) (σ.2.1 40) (σ.2.1 41) (σ.2.1 42) (σ.2.1 43) (σ.2.1 44) (σ.2.1 45) (σ.2.1 46) (σ.2.1 48)) (σ.1 47).toInt ((σ.2.1 51), (σ.2.2.1 52), (σ.2.2.1 53), (σ.2.2.2)) k0.toNatClampNeg v9 → ((0 : Int32).toInt = 0 → qReach (qH (σ.2.1 36) (σ.2.1 37) (σ.2.1 38) (σ.2.1 39) (σ.2.1 40) (σ.2.1 41) (σ.2.1 42) (σ.2.1 43) (σ.2.1 44) (σ.2.1 45) (σ.2.1 46) (σ.2.1 48)) v9 k1.toInt = false) ∧ (¬ (0 : Int32).toInt = 0 → qReach (qH (σ.2.1 36) (σ.2.1 37) (σ.2.1 38) (σ.2.1 39) (σ.2.1 40) (σ.2.1 41) (σ.2.1 42) (σ.2.1 43) (σ.2.1 44) (σ.2.1 45) (σ.2.1 46) (σ.2.1 48)) v9 k1.toInt = true) := by
  have q0 : (0 : Int32).toInt = 0 := by decide +kernel
  have q25 : (25 : Int32).toInt = 25 := by decide +kernel
  have cv_hpre_6 := id hpre_6
  unfold CV at cv_hpre_6
  have bl_x3 := hpre_0 ((25 + k1.toInt).toNat)
  intro v9 h9
  have kd := h9.kd
  dsimp only at kd
  have kk := h9.ok.kd
  rw [qReach_0 (by omega) (by omega)]
  have t5 : (¬ x3.toInt = 0 → qThere (qH (σ.2.1 36) (σ.2.1 37) (σ.2.1 38) (σ.2.1 39) (σ.2.1 40) (σ.2.1 41) (σ.2.1 42) (σ.2.1 43) (σ.2.1 44) (σ.2.1 45) (σ.2.1 46) (σ.2.1 48)) 5 k1.toInt = true) ∧ (x3.toInt = 0 → qThere (qH (σ.2.1 36) (σ.2.1 37) (σ.2.1 38) (σ.2.1 39) (σ.2.1 40) (σ.2.1 41) (σ.2.1 42) (σ.2.1 43) (σ.2.1 44) (σ.2.1 45) (σ.2.1 46) (σ.2.1 48)) 5 k1.toInt = false) := by
    have e9 : x3.toInt = (((σ.2.1 46) (5 * 5 + k1.toInt).toNat)).toInt := by rw [ex3, clampN, show x2.toInt = 5 * 5 + k1.toInt by omega]
    exact ⟨fun h => qThere_t (by show ¬ (((σ.2.1 46) (5 * 5 + k1.toInt).toNat)).toInt = 0; omega), fun h => qThere_f (by show (((σ.2.1 46) (5 * 5 + k1.toInt).toNat)).toInt = 0; omega)⟩
  first
  | (rw [t5.1 (by omega)]; exact ⟨fun h => by omega, fun _ => rfl⟩)
  | (rw [t5.2 (by omega), decide_eq_false (by omega)]; exact ⟨fun _ => rfl, fun h => by omega⟩)
-- bool@ret @121
theorem v_convertible_10   : (0 : Int32) = 0 ∨ (0 : Int32) = 1 := by
  have q0 : (0 : Int32).toInt = 0 := by decide +kernel
  first | exact Or.inl rfl | exact Or.inr rfl | exact bool_of (by omega)
-- in@108 @108
theorem v_convertible_11 (σ : RS) (k0 : Int32) (x4 : Int32) (x7 : Int32) (hpre_1 : 0 ≤ (σ.1 35).toInt) (hpre_2 : (σ.1 35).toInt ≤ 5) (hpre_3 : CLS (σ.1 35).toInt (σ.2.1 36) (σ.2.1 37) (σ.2.1 40)) (hpre_4 : 0 ≤ k0.toInt) (hpre_5 : k0.toInt < 980) (hpre_6 : CV (σ.2.1 51) (σ.2.2.1 52) (σ.1 35).toInt (σ.1 47).toInt k0.toNatClampNeg) (ex4 : x4 = (σ.2.1 51) k0.toNatClampNeg) (tx4 : x4.toInt = ((σ.2.1 51) k0.toNatClampNeg).toInt) (c5 : x4.toInt < 8) (ex7 : x7 = (σ.2.1 51) k0.toNatClampNeg) (tx7 : x7.toInt = ((σ.2.1 51) k0.toNatClampNeg).toInt) (c8 : ¬ x7.toInt = 0) : vp_in k0 980 := by
  have cv_hpre_6 := id hpre_6
  unfold CV at cv_hpre_6
  exact vp_in_iff.mpr ⟨by omega, by omega⟩
-- nw@109 @109
theorem v_convertible_12 (σ : RS) (k0 : Int32) (x4 : Int32) (x7 : Int32) (x9 : Int32) (x10 : Int32) (hpre_1 : 0 ≤ (σ.1 35).toInt) (hpre_2 : (σ.1 35).toInt ≤ 5) (hpre_3 : CLS (σ.1 35).toInt (σ.2.1 36) (σ.2.1 37) (σ.2.1 40)) (hpre_4 : 0 ≤ k0.toInt) (hpre_5 : k0.toInt < 980) (hpre_6 : CV (σ.2.1 51) (σ.2.2.1 52) (σ.1 35).toInt (σ.1 47).toInt k0.toNatClampNeg) (ex4 : x4 = (σ.2.1 51) k0.toNatClampNeg) (tx4 : x4.toInt = ((σ.2.1 51) k0.toNatClampNeg).toInt) (c5 : x4.toInt < 8) (ex7 : x7 = (σ.2.1 51) k0.toNatClampNeg) (tx7 : x7.toInt = ((σ.2.1 51) k0.toNatClampNeg).toInt) (c8 : ¬ x7.toInt = 0) (ex9 : x9 = (σ.2.1 51) k0.toNatClampNeg) (tx9 : x9.toInt = ((σ.2.1 51) k0.toNatClampNeg).toInt) (ex10 : x10 = (5 : Int32) * x9) : x10.toInt = 5 * x9.toInt := by
  have q5 : (5 : Int32).toInt = 5 := by decide +kernel
  have cv_hpre_6 := id hpre_6
  unfold CV at cv_hpre_6
  have w0 : (5 : Int32).toInt = 5 := by decide +kernel
  rw [ex10, z_mulc 5 w0 (by omega) (by omega)]
-- nw@111 @111
theorem v_convertible_13 (σ : RS) (k0 : Int32) (k1 : Int32) (x2 : Int32) (x3 : Int32) (x4 : Int32) (x7 : Int32) (x9 : Int32) (x10 : Int32) (x11 : Int32) (hpre_0 : BLS (σ.2.1 46)) (hpre_1 : 0 ≤ (σ.1 35).toInt) (hpre_2 : (σ.1 35).toInt ≤ 5) (hpre_3 : CLS (σ.1 35).toInt (σ.2.1 36) (σ.2.1 37) (σ.2.1 40)) (hpre_4 : 0 ≤ k0.toInt) (hpre_5 : k0.toInt < 980) (hpre_6 : CV (σ.2.1 51) (σ.2.2.1 52) (σ.1 35).toInt (σ.1 47).toInt k0.toNatClampNeg) (hpre_7 : 0 ≤ k1.toInt) (hpre_8 : k1.toInt ≤ 12) (c1 : k1.toInt ≤ 4) (ex2 : x2 = (25 : Int32) + k1) (tx2 : x2.toInt = 25 + k1.toInt) (ex3 : x3 = (σ.2.1 46) x2.toNatClampNeg) (tx3 : x3.toInt = ((σ.2.1 46) (25 + k1.toInt).toNat).toInt) (ex4 : x4 = (σ.2.1 51) k0.toNatClampNeg) (tx4 : x4.toInt = ((σ.2.1 51) k0.toNatClampNeg).toInt) (c5 : x4.toInt < 8) (c6 : x3.toInt = 0) (ex7 : x7 = (σ.2.1 51) k0.toNatClampNeg) (tx7 : x7.toInt = ((σ.2.1 51) k0.toNatClampNeg).toInt) (c8 : ¬ x7.toInt = 0) (ex9 : x9 = (σ.2.1 51) k0.toNatClampNeg) (tx9 : x9.toInt = ((σ.2.1 51) k0.toNatClampNeg).toInt) (ex10 : x10 = (5 : Int32) * x9) (tx10 : x10.toInt = 5 * x9.toInt) (ex11 : x11 = x10 + k1) : x11.toInt = x10.toInt + k1.toInt := by
  have q5 : (5 : Int32).toInt = 5 := by decide +kernel
  have q25 : (25 : Int32).toInt = 25 := by decide +kernel
  have cv_hpre_6 := id hpre_6
  unfold CV at cv_hpre_6
  have bl_x3 := hpre_0 ((25 + k1.toInt).toNat)
  rw [ex11, z_add (by omega) (by omega)]; first | done | omega
-- in@112 @112
theorem v_convertible_14 (σ : RS) (k0 : Int32) (k1 : Int32) (x2 : Int32) (x3 : Int32) (x4 : Int32) (x7 : Int32) (x9 : Int32) (x10 : Int32) (x11 : Int32) (hpre_0 : BLS (σ.2.1 46)) (hpre_1 : 0 ≤ (σ.1 35).toInt) (hpre_2 : (σ.1 35).toInt ≤ 5) (hpre_3 : CLS (σ.1 35).toInt (σ.2.1 36) (σ.2.1 37) (σ.2.1 40)) (hpre_4 : 0 ≤ k0.toInt) (hpre_5 : k0.toInt < 980) (hpre_6 : CV (σ.2.1 51) (σ.2.2.1 52) (σ.1 35).toInt (σ.1 47).toInt k0.toNatClampNeg) (hpre_7 : 0 ≤ k1.toInt) (hpre_8 : k1.toInt ≤ 12) (c1 : k1.toInt ≤ 4) (ex2 : x2 = (25 : Int32) + k1) (tx2 : x2.toInt = 25 + k1.toInt) (ex3 : x3 = (σ.2.1 46) x2.toNatClampNeg) (tx3 : x3.toInt = ((σ.2.1 46) (25 + k1.toInt).toNat).toInt) (ex4 : x4 = (σ.2.1 51) k0.toNatClampNeg) (tx4 : x4.toInt = ((σ.2.1 51) k0.toNatClampNeg).toInt) (c5 : x4.toInt < 8) (c6 : x3.toInt = 0) (ex7 : x7 = (σ.2.1 51) k0.toNatClampNeg) (tx7 : x7.toInt = ((σ.2.1 51) k0.toNatClampNeg).toInt) (c8 : ¬ x7.toInt = 0) (ex9 : x9 = (σ.2.1 51) k0.toNatClampNeg) (tx9 : x9.toInt = ((σ.2.1 51) k0.toNatClampNeg).toInt) (ex10 : x10 = (5 : Int32) * x9) (tx10 : x10.toInt = 5 * x9.toInt) (ex11 : x11 = x10 + k1) (tx11 : x11.toInt = x10.toInt + k1.toInt) : vp_in x11 65 := by
  have q5 : (5 : Int32).toInt = 5 := by decide +kernel
  have q25 : (25 : Int32).toInt = 25 := by decide +kernel
  have cv_hpre_6 := id hpre_6
  unfold CV at cv_hpre_6
  have bl_x3 := hpre_0 ((25 + k1.toInt).toNat)
  exact vp_in_iff.mpr ⟨by omega, by omega⟩
-- post @121
theorem v_convertible_15 (σ : RS) (k0 : Int32) (k1 : Int32) (x2 : Int32) (x3 : Int32) (x4 : Int32) (x7 : Int32) (x9 : Int32) (x10 : Int32) (x11 : Int32) (x12 : Int32) (hpre_0 : BLS (σ.2.1 46)) (hpre_1 : 0 ≤ (σ.1 35).toInt) (hpre_2 : (σ.1 35).toInt ≤ 5) (hpre_3 : CLS (σ.1 35).toInt (σ.2.1 36) (σ.2.1 37) (σ.2.1 40)) (hpre_4 : 0 ≤ k0.toInt) (hpre_5 : k0.toInt < 980) (hpre_6 : CV (σ.2.1 51) (σ.2.2.1 52) (σ.1 35).toInt (σ.1 47).toInt k0.toNatClampNeg) (hpre_7 : 0 ≤ k1.toInt) (hpre_8 : k1.toInt ≤ 12) (c1 : k1.toInt ≤ 4) (ex2 : x2 = (25 : Int32) + k1) (tx2 : x2.toInt = 25 + k1.toInt) (ex3 : x3 = (σ.2.1 46) x2.toNatClampNeg) (tx3 : x3.toInt = ((σ.2.1 46) (25 + k1.toInt).toNat).toInt) (ex4 : x4 = (σ.2.1 51) k0.toNatClampNeg) (tx4 : x4.toInt = ((σ.2.1 51) k0.toNatClampNeg).toInt) (c5 : x4.toInt < 8) (c6 : x3.toInt = 0) (ex7 : x7 = (σ.2.1 51) k0.toNatClampNeg) (tx7 : x7.toInt = ((σ.2.1 51) k0.toNatClampNeg).toInt) (c8 : ¬ x7.toInt = 0) (ex9 : x9 = (σ.2.1 51) k0.toNatClampNeg) (tx9 : x9.toInt = ((σ.2.1 51) k0.toNatClampNeg).toInt) (ex10 : x10 = (5 : Int32) * x9) (tx10 : x10.toInt = 5 * x9.toInt) (ex11 : x11 = x10 + k1) (tx11 : x11.toInt = x10.toInt + k1.toInt) (ex12 : x12 = (σ.2.1 46) x11.toNatClampNeg) (tx12 : x12.toInt = ((σ.2.1 46) (x10.toInt + k1.toInt).toNat).toInt) (c13 : x12.toInt = 0) : ((0 : Int32).toInt = 0 ∨ (0 : Int32).toInt = 1) ∧ (¬ (0 : Int32).toInt = 0 → k1.toInt ≤ 4) := by
  have q0 : (0 : Int32).toInt = 0 := by decide +kernel
  have q5 : (5 : Int32).toInt = 5 := by decide +kernel
  have q25 : (25 : Int32).toInt = 25 := by decide +kernel
  have cv_hpre_6 := id hpre_6
  unfold CV at cv_hpre_6
  have bl_x3 := hpre_0 ((25 + k1.toInt).toNat)
  have bl_x12 := hpre_0 ((x10.toInt + k1.toInt).toNat)
  refine ⟨?_, ?_⟩ <;> first | assumption | omega | (subst_vars; omega) | trivial
-- post2 @121
theorem v_convertible_16 (σ : RS) (k0 : Int32) (k1 : Int32) (x2 : Int32) (x3 : Int32) (x4 : Int32) (x7 : Int32) (x9 : Int32) (x10 : Int32) (x11 : Int32) (x12 : Int32) (hpre_0 : BLS (σ.2.1 46)) (hpre_1 : 0 ≤ (σ.1 35).toInt) (hpre_2 : (σ.1 35).toInt ≤ 5) (hpre_3 : CLS (σ.1 35).toInt (σ.2.1 36) (σ.2.1 37) (σ.2.1 40)) (hpre_4 : 0 ≤ k0.toInt) (hpre_5 : k0.toInt < 980) (hpre_6 : CV (σ.2.1 51) (σ.2.2.1 52) (σ.1 35).toInt (σ.1 47).toInt k0.toNatClampNeg) (hpre_7 : 0 ≤ k1.toInt) (hpre_8 : k1.toInt ≤ 12) (c1 : k1.toInt ≤ 4) (ex2 : x2 = (25 : Int32) + k1) (tx2 : x2.toInt = 25 + k1.toInt) (ex3 : x3 = (σ.2.1 46) x2.toNatClampNeg) (tx3 : x3.toInt = ((σ.2.1 46) (25 + k1.toInt).toNat).toInt) (ex4 : x4 = (σ.2.1 51) k0.toNatClampNeg) (tx4 : x4.toInt = ((σ.2.1 51) k0.toNatClampNeg).toInt) (c5 : x4.toInt < 8) (c6 : x3.toInt = 0) (ex7 : x7 = (σ.2.1 51) k0.toNatClampNeg) (tx7 : x7.toInt = ((σ.2.1 51) k0.toNatClampNeg).toInt) (c8 : ¬ x7.toInt = 0) (ex9 : x9 = (σ.2.1 51) k0.toNatClampNeg) (tx9 : x9.toInt = ((σ.2.1 51) k0.toNatClampNeg).toInt) (ex10 : x10 = (5 : Int32) * x9) (tx10 : x10.toInt = 5 * x9.toInt) (ex11 : x11 = x10 + k1) (tx11 : x11.toInt = x10.toInt + k1.toInt) (ex12 : x12 = (σ.2.1 46) x11.toNatClampNeg) (tx12 : x12.toInt = ((σ.2.1 46) (x10.toInt + k1.toInt).toNat).toInt) (c13 : x12.toInt = 0) : ∀ v9 : QV, QAT (qH (σ.2.1 36) (σ.2.1 37) (σ.2.1 38) (σ.2.1 39) (σ.2.1 40) (σ.2.1 41) (σ.2.1 42) (σ.2.1 43) (σ.2.1 44) (σ.2.1 45) (σ.2.1 46) (σ.2.1 48)) (σ.1 47).toInt ((σ.2.1 51), (σ.2.2.1 52), (σ.2.2.1 53), (σ.2.2.2)) k0.toNatClampNeg v9 → ((0 : Int32).toInt = 0 → qReach (qH (σ.2.1 36) (σ.2.1 37) (σ.2.1 38) (σ.2.1 39) (σ.2.1 40) (σ.2.1 41) (σ.2.1 42) (σ.2.1 43) (σ.2.1 44) (σ.2.1 45) (σ.2.1 46) (σ.2.1 48)) v9 k1.toInt = false) ∧ (¬ (0 : Int32).toInt = 0 → qReach (qH (σ.2.1 36) (σ.2.1 37) (σ.2.1 38) (σ.2.1 39) (σ.2.1 40) (σ.2.1 41) (σ.2.1 42) (σ.2.1 43) (σ.2.1 44) (σ.2.1 45) (σ.2.1 46) (σ.2.1 48)) v9 k1.toInt = true) := by
  have q0 : (0 : Int32).toInt = 0 := by decide +kernel
  have q5 : (5 : Int32).toInt = 5 := by decide +kernel
  have q25 : (25 : Int32).toInt = 25 := by decide +kernel
  have cv_hpre_6 := id hpre_6
  unfold CV at cv_hpre_6
  have bl_x3 := hpre_0 ((25 + k1.toInt).toNat)
  have bl_x12 := hpre_0 ((x10.toInt + k1.toInt).toNat)
  intro v9 h9
  have kd := h9.kd
  dsimp only at kd
  have kk := h9.ok.kd
  rw [qReach_0 (by omega) (by omega)]
  have t5 : (¬ x3.toInt = 0 → qThere (qH (σ.2.1 36) (σ.2.1 37) (σ.2.1 38) (σ.2.1 39) (σ.2.1 40) (σ.2.1 41) (σ.2.1 42) (σ.2.1 43) (σ.2.1 44) (σ.2.1 45) (σ.2.1 46) (σ.2.1 48)) 5 k1.toInt = true) ∧ (x3.toInt = 0 → qThere (qH (σ.2.1 36) (σ.2.1 37) (σ.2.1 38) (σ.2.1 39) (σ.2.1 40) (σ.2.1 41) (σ.2.1 42) (σ.2.1 43) (σ.2.1 44) (σ.2.1 45) (σ.2.1 46) (σ.2.1 48)) 5 k1.toInt = false) := by
    have e9 : x3.toInt = (((σ.2.1 46) (5 * 5 + k1.toInt).toNat)).toInt := by rw [ex3, clampN, show x2.toInt = 5 * 5 + k1.toInt by omega]
    exact ⟨fun h => qThere_t (by show ¬ (((σ.2.1 46) (5 * 5 + k1.toInt).toNat)).toInt = 0; omega), fun h => qThere_f (by show (((σ.2.1 46) (5 * 5 + k1.toInt).toNat)).toInt = 0; omega)⟩
  have tc : (¬ x12.toInt = 0 → qThere (qH (σ.2.1 36) (σ.2.1 37) (σ.2.1 38) (σ.2.1 39) (σ.2.1 40) (σ.2.1 41) (σ.2.1 42) (σ.2.1 43) (σ.2.1 44) (σ.2.1 45) (σ.2.1 46) (σ.2.1 48)) v9.1 k1.toInt = true) ∧ (x12.toInt = 0 → qThere (qH (σ.2.1 36) (σ.2.1 37) (σ.2.1 38) (σ.2.1 39) (σ.2.1 40) (σ.2.1 41) (σ.2.1 42) (σ.2.1 43) (σ.2.1 44) (σ.2.1 45) (σ.2.1 46) (σ.2.1 48)) v9.1 k1.toInt = false) := by
    have e9 : x12.toInt = (((σ.2.1 46) (5 * v9.1 + k1.toInt).toNat)).toInt := by rw [ex12, clampN, show x11.toInt = 5 * v9.1 + k1.toInt by omega]
    exact ⟨fun h => qThere_t (by show ¬ (((σ.2.1 46) (5 * v9.1 + k1.toInt).toNat)).toInt = 0; omega), fun h => qThere_f (by show (((σ.2.1 46) (5 * v9.1 + k1.toInt).toNat)).toInt = 0; omega)⟩
  first
  | (rw [t5.1 (by omega)]; exact ⟨fun h => by omega, fun _ => rfl⟩)
  | (rw [t5.2 (by omega), decide_eq_false (by omega)]; exact ⟨fun _ => rfl, fun h => by omega⟩)
  | (rw [t5.2 (by omega), decide_eq_true (by omega), tc.1 (by omega)]; exact ⟨fun h => by omega, fun _ => rfl⟩)
  | (rw [t5.2 (by omega), decide_eq_true (by omega), tc.2 (by omega)]; exact ⟨fun _ => rfl, fun h => by omega⟩)
-- post @121
theorem v_convertible_17 (σ : RS) (k0 : Int32) (k1 : Int32) (x2 : Int32) (x3 : Int32) (x4 : Int32) (x7 : Int32) (x9 : Int32) (x10 : Int32) (x11 : Int32) (x12 : Int32) (hpre_0 : BLS (σ.2.1 46)) (hpre_1 : 0 ≤ (σ.1 35).toInt) (hpre_2 : (σ.1 35).toInt ≤ 5) (hpre_3 : CLS (σ.1 35).toInt (σ.2.1 36) (σ.2.1 37) (σ.2.1 40)) (hpre_4 : 0 ≤ k0.toInt) (hpre_5 : k0.toInt < 980) (hpre_6 : CV (σ.2.1 51) (σ.2.2.1 52) (σ.1 35).toInt (σ.1 47).toInt k0.toNatClampNeg) (hpre_7 : 0 ≤ k1.toInt) (hpre_8 : k1.toInt ≤ 12) (c1 : k1.toInt ≤ 4) (ex2 : x2 = (25 : Int32) + k1) (tx2 : x2.toInt = 25 + k1.toInt) (ex3 : x3 = (σ.2.1 46) x2.toNatClampNeg) (tx3 : x3.toInt = ((σ.2.1 46) (25 + k1.toInt).toNat).toInt) (ex4 : x4 = (σ.2.1 51) k0.toNatClampNeg) (tx4 : x4.toInt = ((σ.2.1 51) k0.toNatClampNeg).toInt) (c5 : x4.toInt < 8) (c6 : x3.toInt = 0) (ex7 : x7 = (σ.2.1 51) k0.toNatClampNeg) (tx7 : x7.toInt = ((σ.2.1 51) k0.toNatClampNeg).toInt) (c8 : ¬ x7.toInt = 0) (ex9 : x9 = (σ.2.1 51) k0.toNatClampNeg) (tx9 : x9.toInt = ((σ.2.1 51) k0.toNatClampNeg).toInt) (ex10 : x10 = (5 : Int32) * x9) (tx10 : x10.toInt = 5 * x9.toInt) (ex11 : x11 = x10 + k1) (tx11 : x11.toInt = x10.toInt + k1.toInt) (ex12 : x12 = (σ.2.1 46) x11.toNatClampNeg) (tx12 : x12.toInt = ((σ.2.1 46) (x10.toInt + k1.toInt).toNat).toInt) (c13 : ¬ x12.toInt = 0) : ((1 : Int32).toInt = 0 ∨ (1 : Int32).toInt = 1) ∧ (¬ (1 : Int32).toInt = 0 → k1.toInt ≤ 4) := by
  have q1 : (1 : Int32).toInt = 1 := by decide +kernel
  have q5 : (5 : Int32).toInt = 5 := by decide +kernel
  have q25 : (25 : Int32).toInt = 25 := by decide +kernel
  have cv_hpre_6 := id hpre_6
  unfold CV at cv_hpre_6
  have bl_x3 := hpre_0 ((25 + k1.toInt).toNat)
  have bl_x12 := hpre_0 ((x10.toInt + k1.toInt).toNat)
  refine ⟨?_, ?_⟩ <;> first | assumption | omega | (subst_vars; omega) | trivial
-- post2 @121
theorem v_convertible_18 (σ : RS) (k0 : Int32) (k1 : Int32) (x2 : Int32) (x3 : Int32) (x4 : Int32) (x7 : Int32) (x9 : Int32) (x10 : Int32) (x11 : Int32) (x12 : Int32) (hpre_0 : BLS (σ.2.1 46)) (hpre_1 : 0 ≤ (σ.1 35).toInt) (hpre_2 : (σ.1 35).toInt ≤ 5) (hpre_3 : CLS (σ.1 35).toInt (σ.2.1 36) (σ.2.1 37) (σ.2.1 40)) (hpre_4 : 0 ≤ k0.toInt) (hpre_5 : k0.toInt < 980) (hpre_6 : CV (σ.2.1 51) (σ.2.2.1 52) (σ.1 35).toInt (σ.1 47).toInt k0.toNatClampNeg) (hpre_7 : 0 ≤ k1.toInt) (hpre_8 : k1.toInt ≤ 12) (c1 : k1.toInt ≤ 4) (ex2 : x2 = (25 : Int32) + k1) (tx2 : x2.toInt = 25 + k1.toInt) (ex3 : x3 = (σ.2.1 46) x2.toNatClampNeg) (tx3 : x3.toInt = ((σ.2.1 46) (25 + k1.toInt).toNat).toInt) (ex4 : x4 = (σ.2.1 51) k0.toNatClampNeg) (tx4 : x4.toInt = ((σ.2.1 51) k0.toNatClampNeg).toInt) (c5 : x4.toInt < 8) (c6 : x3.toInt = 0) (ex7 : x7 = (σ.2.1 51) k0.toNatClampNeg) (tx7 : x7.toInt = ((σ.2.1 51) k0.toNatClampNeg).toInt) (c8 : ¬ x7.toInt = 0) (ex9 : x9 = (σ.2.1 51) k0.toNatClampNeg) (tx9 : x9.toInt = ((σ.2.1 51) k0.toNatClampNeg).toInt) (ex10 : x10 = (5 : Int32) * x9) (tx10 : x10.toInt = 5 * x9.toInt) (ex11 : x11 = x10 + k1) (tx11 : x11.toInt = x10.toInt + k1.toInt) (ex12 : x12 = (σ.2.1 46) x11.toNatClampNeg) (tx12 : x12.toInt = ((σ.2.1 46) (x10.toInt + k1.toInt).toNat).toInt) (c13 : ¬ x12.toInt = 0) : ∀ v9 : QV, QAT (qH (σ.2.1 36) (σ.2.1 37) (σ.2.1 38) (σ.2.1 39) (σ.2.1 40) (σ.2.1 41) (σ.2.1 42) (σ.2.1 43) (σ.2.1 44) (σ.2.1 45) (σ.2.1 46) (σ.2.1 48)) (σ.1 47).toInt ((σ.2.1 51), (σ.2.2.1 52), (σ.2.2.1 53), (σ.2.2.2)) k0.toNatClampNeg v9 → ((1 : Int32).toInt = 0 → qReach (qH (σ.2.1 36) (σ.2.1 37) (σ.2.1 38) (σ.2.1 39) (σ.2.1 40) (σ.2.1 41) (σ.2.1 42) (σ.2.1 43) (σ.2.1 44) (σ.2.1 45) (σ.2.1 46) (σ.2.1 48)) v9 k1.toInt = false) ∧ (¬ (1 : Int32).toInt = 0 → qReach (qH (σ.2.1 36) (σ.2.1 37) (σ.2.1 38) (σ.2.1 39) (σ.2.1 40) (σ.2.1 41) (σ.2.1 42) (σ.2.1 43) (σ.2.1 44) (σ.2.1 45) (σ.2.1 46) (σ.2.1 48)) v9 k1.toInt = true) := by
  have q1 : (1 : Int32).toInt = 1 := by decide +kernel
  have q5 : (5 : Int32).toInt = 5 := by decide +kernel
  have q25 : (25 : Int32).toInt = 25 := by decide +kernel
  have cv_hpre_6 := id hpre_6
  unfold CV at cv_hpre_6
  have bl_x3 := hpre_0 ((25 + k1.toInt).toNat)
  have bl_x12 := hpre_0 ((x10.toInt + k1.toInt).toNat)
  intro v9 h9
  have kd := h9.kd
  dsimp only at kd
  have kk := h9.ok.kd
  rw [qReach_0 (by omega) (by omega)]
  have t5 : (¬ x3.toInt = 0 → qThere (qH (σ.2.1 36) (σ.2.1 37) (σ.2.1 38) (σ.2.1 39) (σ.2.1 40) (σ.2.1 41) (σ.2.1 42) (σ.2.1 43) (σ.2.1 44) (σ.2.1 45) (σ.2.1 46) (σ.2.1 48)) 5 k1.toInt = true) ∧ (x3.toInt = 0 → qThere (qH (σ.2.1 36) (σ.2.1 37) (σ.2.1 38) (σ.2.1 39) (σ.2.1 40) (σ.2.1 41) (σ.2.1 42) (σ.2.1 43) (σ.2.1 44) (σ.2.1 45) (σ.2.1 46) (σ.2.1 48)) 5 k1.toInt = false) := by
    have e9 : x3.toInt = (((σ.2.1 46) (5 * 5 + k1.toInt).toNat)).toInt := by rw [ex3, clampN, show x2.toInt = 5 * 5 + k1.toInt by omega]
    exact ⟨fun h => qThere_t (by show ¬ (((σ.2.1 46) (5 * 5 + k1.toInt).toNat)).toInt = 0; omega), fun h => qThere_f (by show (((σ.2.1 46) (5 * 5 + k1.toInt).toNat)).toInt = 0; omega)⟩
  have tc : (¬ x12.toInt = 0 → qThere (qH (σ.2.1 36) (σ.2.1 37) (σ.2.1 38) (σ.2.1 39) (σ.2.1 40) (σ.2.1 41) (σ.2.1 42) (σ.2.1 43) (σ.2.1 44) (σ.2.1 45) (σ.2.1 46) (σ.2.1 48)) v9.1 k1.toInt = true) ∧ (x12.toInt = 0 → qThere (qH (σ.2.1 36) (σ.2.1 37) (σ.2.1 38) (σ.2.1 39) (σ.2.1 40) (σ.2.1 41) (σ.2.1 42) (σ.2.1 43) (σ.2.1 44) (σ.2.1 45) (σ.2.1 46) (σ.2.1 48)) v9.1 k1.toInt = false) := by
    have e9 : x12.toInt = (((σ.2.1 46) (5 * v9.1 + k1.toInt).toNat)).toInt := by rw [ex12, clampN, show x11.toInt = 5 * v9.1 + k1.toInt by omega]
    exact ⟨fun h => qThere_t (by show ¬ (((σ.2.1 46) (5 * v9.1 + k1.toInt).toNat)).toInt = 0; omega), fun h => qThere_f (by show (((σ.2.1 46) (5 * v9.1 + k1.toInt).toNat)).toInt = 0; omega)⟩
  first
  | (rw [t5.1 (by omega)]; exact ⟨fun h => by omega, fun _ => rfl⟩)
  | (rw [t5.2 (by omega), decide_eq_false (by omega)]; exact ⟨fun _ => rfl, fun h => by omega⟩)
  | (rw [t5.2 (by omega), decide_eq_true (by omega), tc.1 (by omega)]; exact ⟨fun h => by omega, fun _ => rfl⟩)
  | (rw [t5.2 (by omega), decide_eq_true (by omega), tc.2 (by omega)]; exact ⟨fun _ => rfl, fun h => by omega⟩)
-- in@33 @33
theorem v_convertible_19 (σ : RS) (k0 : Int32) (x4 : Int32) (hpre_1 : 0 ≤ (σ.1 35).toInt) (hpre_2 : (σ.1 35).toInt ≤ 5) (hpre_3 : CLS (σ.1 35).toInt (σ.2.1 36) (σ.2.1 37) (σ.2.1 40)) (hpre_4 : 0 ≤ k0.toInt) (hpre_5 : k0.toInt < 980) (hpre_6 : CV (σ.2.1 51) (σ.2.2.1 52) (σ.1 35).toInt (σ.1 47).toInt k0.toNatClampNeg) (ex4 : x4 = (σ.2.1 51) k0.toNatClampNeg) (tx4 : x4.toInt = ((σ.2.1 51) k0.toNatClampNeg).toInt) (c5 : 8 ≤ x4.toInt) : vp_in k0 980 := by
  have cv_hpre_6 := id hpre_6
  unfold CV at cv_hpre_6
  exact vp_in_iff.mpr ⟨by omega, by omega⟩
-- nw@36 @36
theorem v_convertible_20 (σ : RS) (k0 : Int32) (x4 : Int32) (x14 : Int32) (x15 : Int32) (hpre_1 : 0 ≤ (σ.1 35).toInt) (hpre_2 : (σ.1 35).toInt ≤ 5) (hpre_3 : CLS (σ.1 35).toInt (σ.2.1 36) (σ.2.1 37) (σ.2.1 40)) (hpre_4 : 0 ≤ k0.toInt) (hpre_5 : k0.toInt < 980) (hpre_6 : CV (σ.2.1 51) (σ.2.2.1 52) (σ.1 35).toInt (σ.1 47).toInt k0.toNatClampNeg) (ex4 : x4 = (σ.2.1 51) k0.toNatClampNeg) (tx4 : x4.toInt = ((σ.2.1 51) k0.toNatClampNeg).toInt) (c5 : 8 ≤ x4.toInt) (ex14 : x14 = (σ.2.1 51) k0.toNatClampNeg) (tx14 : x14.toInt = ((σ.2.1 51) k0.toNatClampNeg).toInt) (ex15 : x15 = x14 - (8 : Int32)) : x15.toInt = x14.toInt - 8 := by
  have q8 : (8 : Int32).toInt = 8 := by decide +kernel
  have cv_hpre_6 := id hpre_6
  unfold CV at cv_hpre_6
  have w1 : (8 : Int32).toInt = 8 := by decide +kernel
  rw [ex15, z_sub (by omega) (by omega)]; first | done | omega
-- init@39 @39
theorem v_convertible_21 (σ : RS) (k0 : Int32) (k1 : Int32) (x2 : Int32) (x3 : Int32) (x4 : Int32) (x14 : Int32) (x15 : Int32) (hpre_0 : BLS (σ.2.1 46)) (hpre_1 : 0 ≤ (σ.1 35).toInt) (hpre_2 : (σ.1 35).toInt ≤ 5) (hpre_3 : CLS (σ.1 35).toInt (σ.2.1 36) (σ.2.1 37) (σ.2.1 40)) (hpre_4 : 0 ≤ k0.toInt) (hpre_5 : k0.toInt < 980) (hpre_6 : CV (σ.2.1 51) (σ.2.2.1 52) (σ.1 35).toInt (σ.1 47).toInt k0.toNatClampNeg) (hpre_7 : 0 ≤ k1.toInt) (hpre_8 : k1.toInt ≤ 12) (c1 : k1.toInt ≤ 4) (ex2 : x2 = (25 : Int32) + k1) (tx2 : x2.toInt = 25 + k1.toInt) (ex3 : x3 = (σ.2.1 46) x2.toNatClampNeg) (tx3 : x3.toInt = ((σ.2.1 46) (25 + k1.toInt).toNat).toInt) (ex4 : x4 = (σ.2.1 51) k0.toNatClampNeg) (tx4 : x4.toInt = ((σ.2.1 51) k0.toNatClampNeg).toInt) (c5 : 8 ≤ x4.toInt) (ex14 : x14 = (σ.2.1 51) k0.toNatClampNeg) (tx14 : x14.toInt = ((σ.2.1 51) k0.toNatClampNeg).toInt) (ex15 : x15 = x14 - (8 : Int32)) (tx15 : x15.toInt = x14.toInt - 8) : -1 ≤ x15.toInt ∧ x15.toInt < (σ.1 35).toInt ∧ (x3.toInt = 0 ∨ x3.toInt = 1) := by
  have q8 : (8 : Int32).toInt = 8 := by decide +kernel
  have q25 : (25 : Int32).toInt = 25 := by decide +kernel
  have cv_hpre_6 := id hpre_6
  unfold CV at cv_hpre_6
  have bl_x3 := hpre_0 ((25 + k1.toInt).toNat)
  refine ⟨?_, ?_, ?_⟩ <;> first | assumption | omega | (subst_vars; omega) | trivial
-- init2@39 @39
theorem v_convertible_22 (σ : RS) (k0 : Int32) (k1 : Int32) (x2 : Int32) (x3 : Int32) (x4 : Int32) (x14 : Int32) (x15 : Int32) (hpre_0 : BLS (σ.2.1 46)) (hpre_1 : 0 ≤ (σ.1 35).toInt) (hpre_2 : (σ.1 35).toInt ≤ 5) (hpre_3 : CLS (σ.1 35).toInt (σ.2.1 36) (σ.2.1 37) (σ.2.1 40)) (hpre_4 : 0 ≤ k0.toInt) (hpre_5 : k0.toInt < 980) (hpre_6 : CV (σ.2.1 51) (σ.2.2.1 52) (σ.1 35).toInt (σ.1 47).toInt k0.toNatClampNeg) (hpre_7 : 0 ≤ k1.toInt) (hpre_8 : k1.toInt ≤ 12) (c1 : k1.toInt ≤ 4) (ex2 : x2 = (25 : Int32) + k1) (tx2 : x2.toInt = 25 + k1.toInt) (ex3 : x3 = (σ.2.1 46) x2.toNatClampNeg) (tx3 : x3.toInt = ((σ.2.1 46) (25 + k1.toInt).toNat).toInt) (ex4 : x4 = (σ.2.1 51) k0.toNatClampNeg) (tx4 : x4.toInt = ((σ.2.1 51) k0.toNatClampNeg).toInt) (c5 : 8 ≤ x4.toInt) (ex14 : x14 = (σ.2.1 51) k0.toNatClampNeg) (tx14 : x14.toInt = ((σ.2.1 51) k0.toNatClampNeg).toInt) (ex15 : x15 = x14 - (8 : Int32)) (tx15 : x15.toInt = x14.toInt - 8) : QRC (qH (σ.2.1 36) (σ.2.1 37) (σ.2.1 38) (σ.2.1 39) (σ.2.1 40) (σ.2.1 41) (σ.2.1 42) (σ.2.1 43) (σ.2.1 44) (σ.2.1 45) (σ.2.1 46) (σ.2.1 48)) (((σ.2.1 51) k0.toNatClampNeg).toInt - 8) k1.toInt x15.toInt x3.toInt := by
  have q8 : (8 : Int32).toInt = 8 := by decide +kernel
  have q25 : (25 : Int32).toInt = 25 := by decide +kernel
  have cv_hpre_6 := id hpre_6
  unfold CV at cv_hpre_6
  have bl_x3 := hpre_0 ((25 + k1.toInt).toNat)
  have t5 : (¬ x3.toInt = 0 → qThere (qH (σ.2.1 36) (σ.2.1 37) (σ.2.1 38) (σ.2.1 39) (σ.2.1 40) (σ.2.1 41) (σ.2.1 42) (σ.2.1 43) (σ.2.1 44) (σ.2.1 45) (σ.2.1 46) (σ.2.1 48)) 5 k1.toInt = true) ∧ (x3.toInt = 0 → qThere (qH (σ.2.1 36) (σ.2.1 37) (σ.2.1 38) (σ.2.1 39) (σ.2.1 40) (σ.2.1 41) (σ.2.1 42) (σ.2.1 43) (σ.2.1 44) (σ.2.1 45) (σ.2.1 46) (σ.2.1 48)) 5 k1.toInt = false) := by
    have e9 : x3.toInt = (((σ.2.1 46) (5 * 5 + k1.toInt).toNat)).toInt := by rw [ex3, clampN, show x2.toInt = 5 * 5 + k1.toInt by omega]
    exact ⟨fun h => qThere_t (by show ¬ (((σ.2.1 46) (5 * 5 + k1.toInt).toNat)).toInt = 0; omega), fun h => qThere_f (by show (((σ.2.1 46) (5 * 5 + k1.toInt).toNat)).toInt = 0; omega)⟩
  refine QRC.start (by omega) ?_
  by_cases hz : x3.toInt = 0
  · exact Or.inr ⟨hz, t5.2 hz⟩
  · exact Or.inl ⟨by omega, t5.1 hz⟩
-- post @84
theorem v_convertible_23 (σ : RS) (k1 : Int32) (x2 : Int32) (x3 : Int32) (y16 : Int32) (hpre_0 : BLS (σ.2.1 46)) (hpre_7 : 0 ≤ k1.toInt) (hpre_8 : k1.toInt ≤ 12) (c1 : k1.toInt ≤ 4) (ex2 : x2 = (25 : Int32) + k1) (tx2 : x2.toInt = 25 + k1.toInt) (ex3 : x3 = (σ.2.1 46) x2.toNatClampNeg) (tx3 : x3.toInt = ((σ.2.1 46) (25 + k1.toInt).toNat).toInt) (hi39_2 : y16.toInt = 0 ∨ y16.toInt = 1) : (y16.toInt = 0 ∨ y16.toInt = 1) ∧ (¬ y16.toInt = 0 → k1.toInt ≤ 4) := by
  have q25 : (25 : Int32).toInt = 25 := by decide +kernel
  have bl_x3 := hpre_0 ((25 + k1.toInt).toNat)
  refine ⟨?_, ?_⟩ <;> first | assumption | omega | (subst_vars; omega) | trivial
-- post2 @84
theorem v_convertible_24 (σ : RS) (k0 : Int32) (k1 : Int32) (x2 : Int32) (x3 : Int32) (x4 : Int32) (x14 : Int32) (x15 : Int32) (y16 : Int32) (y17 : Int32) (hpre_0 : BLS (σ.2.1 46)) (hpre_1 : 0 ≤ (σ.1 35).toInt) (hpre_2 : (σ.1 35).toInt ≤ 5) (hpre_3 : CLS (σ.1 35).toInt (σ.2.1 36) (σ.2.1 37) (σ.2.1 40)) (hpre_4 : 0 ≤ k0.toInt) (hpre_5 : k0.toInt < 980) (hpre_6 : CV (σ.2.1 51) (σ.2.2.1 52) (σ.1 35).toInt (σ.1 47).toInt k0.toNatClampNeg) (hpre_7 : 0 ≤ k1.toInt) (hpre_8 : k1.toInt ≤ 12) (c1 : k1.toInt ≤ 4) (ex2 : x2 = (25 : Int32) + k1) (tx2 : x2.toInt = 25 + k1.toInt) (ex3 : x3 = (σ.2.1 46) x2.toNatClampNeg) (tx3 : x3.toInt = ((σ.2.1 46) (25 + k1.toInt).toNat).toInt) (ex4 : x4 = (σ.2.1 51) k0.toNatClampNeg) (tx4 : x4.toInt = ((σ.2.1 51) k0.toNatClampNeg).toInt) (c5 : 8 ≤ x4.toInt) (ex14 : x14 = (σ.2.1 51) k0.toNatClampNeg) (tx14 : x14.toInt = ((σ.2.1 51) k0.toNatClampNeg).toInt) (ex15 : x15 = x14 - (8 : Int32)) (tx15 : x15.toInt = x14.toInt - 8) (hi39_0 : -1 ≤ y17.toInt) (hi39_1 : y17.toInt < (σ.1 35).toInt) (hi39_2 : y16.toInt = 0 ∨ y16.toInt = 1) (hi39y : QRC (qH (σ.2.1 36) (σ.2.1 37) (σ.2.1 38) (σ.2.1 39) (σ.2.1 40) (σ.2.1 41) (σ.2.1 42) (σ.2.1 43) (σ.2.1 44) (σ.2.1 45) (σ.2.1 46) (σ.2.1 48)) (((σ.2.1 51) k0.toNatClampNeg).toInt - 8) k1.toInt y17.toInt y16.toInt) (c18 : y17.toInt < 0) : ∀ v9 : QV, QAT (qH (σ.2.1 36) (σ.2.1 37) (σ.2.1 38) (σ.2.1 39) (σ.2.1 40) (σ.2.1 41) (σ.2.1 42) (σ.2.1 43) (σ.2.1 44) (σ.2.1 45) (σ.2.1 46) (σ.2.1 48)) (σ.1 47).toInt ((σ.2.1 51), (σ.2.2.1 52), (σ.2.2.1 53), (σ.2.2.2)) k0.toNatClampNeg v9 → (y16.toInt = 0 → qReach (qH (σ.2.1 36) (σ.2.1 37) (σ.2.1 38) (σ.2.1 39) (σ.2.1 40) (σ.2.1 41) (σ.2.1 42) (σ.2.1 43) (σ.2.1 44) (σ.2.1 45) (σ.2.1 46) (σ.2.1 48)) v9 k1.toInt = false) ∧ (¬ y16.toInt = 0 → qReach (qH (σ.2.1 36) (σ.2.1 37) (σ.2.1 38) (σ.2.1 39) (σ.2.1 40) (σ.2.1 41) (σ.2.1 42) (σ.2.1 43) (σ.2.1 44) (σ.2.1 45) (σ.2.1 46) (σ.2.1 48)) v9 k1.toInt = true) := by
  have q8 : (8 : Int32).toInt = 8 := by decide +kernel
  have q25 : (25 : Int32).toInt = 25 := by decide +kernel
  have cv_hpre_6 := id hpre_6
  unfold CV at cv_hpre_6
  have bl_x3 := hpre_0 ((25 + k1.toInt).toNat)
  intro v9 h9
  have kd := h9.kd
  dsimp only at kd
  have kk := h9.ok.kd
  rw [qReach_8 (by omega) (by omega), show v9.1 - 8 = ((σ.2.1 51) k0.toNatClampNeg).toInt - 8 by omega, hi39y.fin (by omega)]
  have z := hi39y.1
  exact ⟨fun h => decide_eq_false (by omega), fun h => decide_eq_true (by omega)⟩
-- bool@ret @84
theorem v_convertible_25 (y16 : Int32) (hi39_2 : y16.toInt = 0 ∨ y16.toInt = 1) : y16 = 0 ∨ y16 = 1 := by
  first | exact Or.inl rfl | exact Or.inr rfl | exact bool_of (by omega)
-- in@77 @77
theorem v_convertible_26 (σ : RS) (k0 : Int32) (x4 : Int32) (x14 : Int32) (x15 : Int32) (y17 : Int32) (hpre_1 : 0 ≤ (σ.1 35).toInt) (hpre_2 : (σ.1 35).toInt ≤ 5) (hpre_3 : CLS (σ.1 35).toInt (σ.2.1 36) (σ.2.1 37) (σ.2.1 40)) (hpre_4 : 0 ≤ k0.toInt) (hpre_5 : k0.toInt < 980) (hpre_6 : CV (σ.2.1 51) (σ.2.2.1 52) (σ.1 35).toInt (σ.1 47).toInt k0.toNatClampNeg) (ex4 : x4 = (σ.2.1 51) k0.toNatClampNeg) (tx4 : x4.toInt = ((σ.2.1 51) k0.toNatClampNeg).toInt) (c5 : 8 ≤ x4.toInt) (ex14 : x14 = (σ.2.1 51) k0.toNatClampNeg) (tx14 : x14.toInt = ((σ.2.1 51) k0.toNatClampNeg).toInt) (ex15 : x15 = x14 - (8 : Int32)) (tx15 : x15.toInt = x14.toInt - 8) (hi39_0 : -1 ≤ y17.toInt) (hi39_1 : y17.toInt < (σ.1 35).toInt) (c18 : 0 ≤ y17.toInt) : vp_in y17 5 := by
  have q8 : (8 : Int32).toInt = 8 := by decide +kernel
  have cv_hpre_6 := id hpre_6
  unfold CV at cv_hpre_6
  exact vp_in_iff.mpr ⟨by omega, by omega⟩
-- inv@39 @39
theorem v_convertible_27 (σ : RS) (k0 : Int32) (x4 : Int32) (x14 : Int32) (x15 : Int32) (y17 : Int32) (x20 : Int32) (hpre_1 : 0 ≤ (σ.1 35).toInt) (hpre_2 : (σ.1 35).toInt ≤ 5) (hpre_3 : CLS (σ.1 35).toInt (σ.2.1 36) (σ.2.1 37) (σ.2.1 40)) (hpre_4 : 0 ≤ k0.toInt) (hpre_5 : k0.toInt < 980) (hpre_6 : CV (σ.2.1 51) (σ.2.2.1 52) (σ.1 35).toInt (σ.1 47).toInt k0.toNatClampNeg) (ex4 : x4 = (σ.2.1 51) k0.toNatClampNeg) (tx4 : x4.toInt = ((σ.2.1 51) k0.toNatClampNeg).toInt) (c5 : 8 ≤ x4.toInt) (ex14 : x14 = (σ.2.1 51) k0.toNatClampNeg) (tx14 : x14.toInt = ((σ.2.1 51) k0.toNatClampNeg).toInt) (ex15 : x15 = x14 - (8 : Int32)) (tx15 : x15.toInt = x14.toInt - 8) (hi39_0 : -1 ≤ y17.toInt) (hi39_1 : y17.toInt < (σ.1 35).toInt) (c18 : 0 ≤ y17.toInt) (ex20 : x20 = (σ.2.1 36) y17.toNatClampNeg) (tx20 : x20.toInt = ((σ.2.1 36) y17.toNatClampNeg).toInt) : -1 ≤ x20.toInt ∧ x20.toInt < (σ.1 35).toInt ∧ ((1 : Int32).toInt = 0 ∨ (1 : Int32).toInt = 1) := by
  have q1 : (1 : Int32).toInt = 1 := by decide +kernel
  have q8 : (8 : Int32).toInt = 8 := by decide +kernel
  have cl_x20 := hpre_3 y17.toNatClampNeg (by rw [clampZ (by omega)]; omega)
  rw [clampZ (by omega)] at cl_x20
  have cv_hpre_6 := id hpre_6
  unfold CV at cv_hpre_6
  refine ⟨?_, ?_, ?_⟩ <;> first | assumption | omega | (subst_vars; omega) | trivial
-- inv2@39 @39
theorem v_convertible_28 (σ : RS) (k0 : Int32) (k1 : Int32) (x2 : Int32) (x3 : Int32) (x4 : Int32) (x14 : Int32) (x15 : Int32) (y16 : Int32) (y17 : Int32) (x20 : Int32) (hpre_0 : BLS (σ.2.1 46)) (hpre_1 : 0 ≤ (σ.1 35).toInt) (hpre_2 : (σ.1 35).toInt ≤ 5) (hpre_3 : CLS (σ.1 35).toInt (σ.2.1 36) (σ.2.1 37) (σ.2.1 40)) (hpre_4 : 0 ≤ k0.toInt) (hpre_5 : k0.toInt < 980) (hpre_6 : CV (σ.2.1 51) (σ.2.2.1 52) (σ.1 35).toInt (σ.1 47).toInt k0.toNatClampNeg) (hpre_7 : 0 ≤ k1.toInt) (hpre_8 : k1.toInt ≤ 12) (c1 : k1.toInt ≤ 4) (ex2 : x2 = (25 : Int32) + k1) (tx2 : x2.toInt = 25 + k1.toInt) (ex3 : x3 = (σ.2.1 46) x2.toNatClampNeg) (tx3 : x3.toInt = ((σ.2.1 46) (25 + k1.toInt).toNat).toInt) (ex4 : x4 = (σ.2.1 51) k0.toNatClampNeg) (tx4 : x4.toInt = ((σ.2.1 51) k0.toNatClampNeg).toInt) (c5 : 8 ≤ x4.toInt) (ex14 : x14 = (σ.2.1 51) k0.toNatClampNeg) (tx14 : x14.toInt = ((σ.2.1 51) k0.toNatClampNeg).toInt) (ex15 : x15 = x14 - (8 : Int32)) (tx15 : x15.toInt = x14.toInt - 8) (hi39_0 : -1 ≤ y17.toInt) (hi39_1 : y17.toInt < (σ.1 35).toInt) (hi39_2 : y16.toInt = 0 ∨ y16.toInt = 1) (hi39y : QRC (qH (σ.2.1 36) (σ.2.1 37) (σ.2.1 38) (σ.2.1 39) (σ.2.1 40) (σ.2.1 41) (σ.2.1 42) (σ.2.1 43) (σ.2.1 44) (σ.2.1 45) (σ.2.1 46) (σ.2.1 48)) (((σ.2.1 51) k0.toNatClampNeg).toInt - 8) k1.toInt y17.toInt y16.toInt) (c18 : 0 ≤ y17.toInt) (c19 : ¬ y16.toInt = 0) (ex20 : x20 = (σ.2.1 36) y17.toNatClampNeg) (tx20 : x20.toInt = ((σ.2.1 36) y17.toNatClampNeg).toInt) : QRC (qH (σ.2.1 36) (σ.2.1 37) (σ.2.1 38) (σ.2.1 39) (σ.2.1 40) (σ.2.1 41) (σ.2.1 42) (σ.2.1 43) (σ.2.1 44) (σ.2.1 45) (σ.2.1 46) (σ.2.1 48)) (((σ.2.1 51) k0.toNatClampNeg).toInt - 8) k1.toInt x20.toInt (1 : Int32).toInt := by
  have q1 : (1 : Int32).toInt = 1 := by decide +kernel
  have q8 : (8 : Int32).toInt = 8 := by decide +kernel
  have q25 : (25 : Int32).toInt = 25 := by decide +kernel
  have cl_x20 := hpre_3 y17.toNatClampNeg (by rw [clampZ (by omega)]; omega)
  rw [clampZ (by omega)] at cl_x20
  have cv_hpre_6 := id hpre_6
  unfold CV at cv_hpre_6
  have bl_x3 := hpre_0 ((25 + k1.toInt).toNat)
  refine hi39y.step (CLS.qpa hpre_3) (by omega) (by omega) (by omega) (by show x20.toInt = ((σ.2.1 36) y17.toInt.toNat).toInt; rw [ex20, clampN]) ?_
  exact Or.inl ⟨by omega, Or.inl (by omega)⟩
-- meas@39 @39
theorem v_convertible_29 (σ : RS) (k0 : Int32) (x4 : Int32) (x14 : Int32) (x15 : Int32) (y17 : Int32) (x20 : Int32) (hpre_1 : 0 ≤ (σ.1 35).toInt) (hpre_2 : (σ.1 35).toInt ≤ 5) (hpre_3 : CLS (σ.1 35).toInt (σ.2.1 36) (σ.2.1 37) (σ.2.1 40)) (hpre_4 : 0 ≤ k0.toInt) (hpre_5 : k0.toInt < 980) (hpre_6 : CV (σ.2.1 51) (σ.2.2.1 52) (σ.1 35).toInt (σ.1 47).toInt k0.toNatClampNeg) (ex4 : x4 = (σ.2.1 51) k0.toNatClampNeg) (tx4 : x4.toInt = ((σ.2.1 51) k0.toNatClampNeg).toInt) (c5 : 8 ≤ x4.toInt) (ex14 : x14 = (σ.2.1 51) k0.toNatClampNeg) (tx14 : x14.toInt = ((σ.2.1 51) k0.toNatClampNeg).toInt) (ex15 : x15 = x14 - (8 : Int32)) (tx15 : x15.toInt = x14.toInt - 8) (hi39_0 : -1 ≤ y17.toInt) (hi39_1 : y17.toInt < (σ.1 35).toInt) (c18 : 0 ≤ y17.toInt) (ex20 : x20 = (σ.2.1 36) y17.toNatClampNeg) (tx20 : x20.toInt = ((σ.2.1 36) y17.toNatClampNeg).toInt) : (x20.toInt + 1).toNat < (y17.toInt + 1).toNat := by
  have q8 : (8 : Int32).toInt = 8 := by decide +kernel
  have cl_x20 := hpre_3 y17.toNatClampNeg (by rw [clampZ (by omega)]; omega)
  rw [clampZ (by omega)] at cl_x20
  have cv_hpre_6 := id hpre_6
  unfold CV at cv_hpre_6
  first | assumption | omega | (subst_vars; omega) | trivial
-- nw@57 @57
theorem v_convertible_30 (σ : RS) (k0 : Int32) (x4 : Int32) (x14 : Int32) (x15 : Int32) (y17 : Int32) (x21 : Int32) (hpre_1 : 0 ≤ (σ.1 35).toInt) (hpre_2 : (σ.1 35).toInt ≤ 5) (hpre_3 : CLS (σ.1 35).toInt (σ.2.1 36) (σ.2.1 37) (σ.2.1 40)) (hpre_4 : 0 ≤ k0.toInt) (hpre_5 : k0.toInt < 980) (hpre_6 : CV (σ.2.1 51) (σ.2.2.1 52) (σ.1 35).toInt (σ.1 47).toInt k0.toNatClampNeg) (ex4 : x4 = (σ.2.1 51) k0.toNatClampNeg) (tx4 : x4.toInt = ((σ.2.1 51) k0.toNatClampNeg).toInt) (c5 : 8 ≤ x4.toInt) (ex14 : x14 = (σ.2.1 51) k0.toNatClampNeg) (tx14 : x14.toInt = ((σ.2.1 51) k0.toNatClampNeg).toInt) (ex15 : x15 = x14 - (8 : Int32)) (tx15 : x15.toInt = x14.toInt - 8) (hi39_0 : -1 ≤ y17.toInt) (hi39_1 : y17.toInt < (σ.1 35).toInt) (c18 : 0 ≤ y17.toInt) (ex21 : x21 = (8 : Int32) + y17) : x21.toInt = 8 + y17.toInt := by
  have q8 : (8 : Int32).toInt = 8 := by decide +kernel
  have cv_hpre_6 := id hpre_6
  unfold CV at cv_hpre_6
  have w0 : (8 : Int32).toInt = 8 := by decide +kernel
  rw [ex21, z_add (by omega) (by omega)]; first | done | omega
-- nw@58 @58
theorem v_convertible_31 (σ : RS) (k0 : Int32) (x4 : Int32) (x14 : Int32) (x15 : Int32) (y17 : Int32) (x21 : Int32) (x22 : Int32) (hpre_1 : 0 ≤ (σ.1 35).toInt) (hpre_2 : (σ.1 35).toInt ≤ 5) (hpre_3 : CLS (σ.1 35).toInt (σ.2.1 36) (σ.2.1 37) (σ.2.1 40)) (hpre_4 : 0 ≤ k0.toInt) (hpre_5 : k0.toInt < 980) (hpre_6 : CV (σ.2.1 51) (σ.2.2.1 52) (σ.1 35).toInt (σ.1 47).toInt k0.toNatClampNeg) (ex4 : x4 = (σ.2.1 51) k0.toNatClampNeg) (tx4 : x4.toInt = ((σ.2.1 51) k0.toNatClampNeg).toInt) (c5 : 8 ≤ x4.toInt) (ex14 : x14 = (σ.2.1 51) k0.toNatClampNeg) (tx14 : x14.toInt = ((σ.2.1 51) k0.toNatClampNeg).toInt) (ex15 : x15 = x14 - (8 : Int32)) (tx15 : x15.toInt = x14.toInt - 8) (hi39_0 : -1 ≤ y17.toInt) (hi39_1 : y17.toInt < (σ.1 35).toInt) (c18 : 0 ≤ y17.toInt) (ex21 : x21 = (8 : Int32) + y17) (tx21 : x21.toInt = 8 + y17.toInt) (ex22 : x22 = (5 : Int32) * x21) : x22.toInt = 5 * x21.toInt := by
  have q5 : (5 : Int32).toInt = 5 := by decide +kernel
  have q8 : (8 : Int32).toInt = 8 := by decide +kernel
  have cv_hpre_6 := id hpre_6
  unfold CV at cv_hpre_6
  have w0 : (5 : Int32).toInt = 5 := by decide +kernel
  rw [ex22, z_mulc 5 w0 (by omega) (by omega)]
-- nw@60 @60
theorem v_convertible_32 (σ : RS) (k0 : Int32) (k1 : Int32) (x2 : Int32) (x3 : Int32) (x4 : Int32) (x14 : Int32) (x15 : Int32) (y17 : Int32) (x21 : Int32) (x22 : Int32) (x23 : Int32) (hpre_0 : BLS (σ.2.1 46)) (hpre_1 : 0 ≤ (σ.1 35).toInt) (hpre_2 : (σ.1 35).toInt ≤ 5) (hpre_3 : CLS (σ.1 35).toInt (σ.2.1 36) (σ.2.1 37) (σ.2.1 40)) (hpre_4 : 0 ≤ k0.toInt) (hpre_5 : k0.toInt < 980) (hpre_6 : CV (σ.2.1 51) (σ.2.2.1 52) (σ.1 35).toInt (σ.1 47).toInt k0.toNatClampNeg) (hpre_7 : 0 ≤ k1.toInt) (hpre_8 : k1.toInt ≤ 12) (c1 : k1.toInt ≤ 4) (ex2 : x2 = (25 : Int32) + k1) (tx2 : x2.toInt = 25 + k1.toInt) (ex3 : x3 = (σ.2.1 46) x2.toNatClampNeg) (tx3 : x3.toInt = ((σ.2.1 46) (25 + k1.toInt).toNat).toInt) (ex4 : x4 = (σ.2.1 51) k0.toNatClampNeg) (tx4 : x4.toInt = ((σ.2.1 51) k0.toNatClampNeg).toInt) (c5 : 8 ≤ x4.toInt) (ex14 : x14 = (σ.2.1 51) k0.toNatClampNeg) (tx14 : x14.toInt = ((σ.2.1 51) k0.toNatClampNeg).toInt) (ex15 : x15 = x14 - (8 : Int32)) (tx15 : x15.toInt = x14.toInt - 8) (hi39_0 : -1 ≤ y17.toInt) (hi39_1 : y17.toInt < (σ.1 35).toInt) (c18 : 0 ≤ y17.toInt) (ex21 : x21 = (8 : Int32) + y17) (tx21 : x21.toInt = 8 + y17.toInt) (ex22 : x22 = (5 : Int32) * x21) (tx22 : x22.toInt = 5 * x21.toInt) (ex23 : x23 = x22 + k1) : x23.toInt = x22.toInt + k1.toInt := by
  have q5 : (5 : Int32).toInt = 5 := by decide +kernel
  have q8 : (8 : Int32).toInt = 8 := by decide +kernel
  have q25 : (25 : Int32).toInt = 25 := by decide +kernel
  have cv_hpre_6 := id hpre_6
  unfold CV at cv_hpre_6
  have bl_x3 := hpre_0 ((25 + k1.toInt).toNat)
  rw [ex23, z_add (by omega) (by omega)]; first | done | omega
-- in@61 @61
theorem v_convertible_33 (σ : RS) (k0 : Int32) (k1 : Int32) (x2 : Int32) (x3 : Int32) (x4 : Int32) (x14 : Int32) (x15 : Int32) (y17 : Int32) (x21 : Int32) (x22 : Int32) (x23 : Int32) (hpre_0 : BLS (σ.2.1 46)) (hpre_1 : 0 ≤ (σ.1 35).toInt) (hpre_2 : (σ.1 35).toInt ≤ 5) (hpre_3 : CLS (σ.1 35).toInt (σ.2.1 36) (σ.2.1 37) (σ.2.1 40)) (hpre_4 : 0 ≤ k0.toInt) (hpre_5 : k0.toInt < 980) (hpre_6 : CV (σ.2.1 51) (σ.2.2.1 52) (σ.1 35).toInt (σ.1 47).toInt k0.toNatClampNeg) (hpre_7 : 0 ≤ k1.toInt) (hpre_8 : k1.toInt ≤ 12) (c1 : k1.toInt ≤ 4) (ex2 : x2 = (25 : Int32) + k1) (tx2 : x2.toInt = 25 + k1.toInt) (ex3 : x3 = (σ.2.1 46) x2.toNatClampNeg) (tx3 : x3.toInt = ((σ.2.1 46) (25 + k1.toInt).toNat).toInt) (ex4 : x4 = (σ.2.1 51) k0.toNatClampNeg) (tx4 : x4.toInt = ((σ.2.1 51) k0.toNatClampNeg).toInt) (c5 : 8 ≤ x4.toInt) (ex14 : x14 = (σ.2.1 51) k0.toNatClampNeg) (tx14 : x14.toInt = ((σ.2.1 51) k0.toNatClampNeg).toInt) (ex15 : x15 = x14 - (8 : Int32)) (tx15 : x15.toInt = x14.toInt - 8) (hi39_0 : -1 ≤ y17.toInt) (hi39_1 : y17.toInt < (σ.1 35).toInt) (c18 : 0 ≤ y17.toInt) (ex21 : x21 = (8 : Int32) + y17) (tx21 : x21.toInt = 8 + y17.toInt) (ex22 : x22 = (5 : Int32) * x21) (tx22 : x22.toInt = 5 * x21.toInt) (ex23 : x23 = x22 + k1) (tx23 : x23.toInt = x22.toInt + k1.toInt) : vp_in x23 65 := by
  have q5 : (5 : Int32).toInt = 5 := by decide +kernel
  have q8 : (8 : Int32).toInt = 8 := by decide +kernel
  have q25 : (25 : Int32).toInt = 25 := by decide +kernel
  have cv_hpre_6 := id hpre_6
  unfold CV at cv_hpre_6
  have bl_x3 := hpre_0 ((25 + k1.toInt).toNat)
  exact vp_in_iff.mpr ⟨by omega, by omega⟩
-- in@77 @77
theorem v_convertible_34 (σ : RS) (k0 : Int32) (k1 : Int32) (x2 : Int32) (x3 : Int32) (x4 : Int32) (x14 : Int32) (x15 : Int32) (y17 : Int32) (x21 : Int32) (x22 : Int32) (x23 : Int32) (x24 : Int32) (hpre_0 : BLS (σ.2.1 46)) (hpre_1 : 0 ≤ (σ.1 35).toInt) (hpre_2 : (σ.1 35).toInt ≤ 5) (hpre_3 : CLS (σ.1 35).toInt (σ.2.1 36) (σ.2.1 37) (σ.2.1 40)) (hpre_4 : 0 ≤ k0.toInt) (hpre_5 : k0.toInt < 980) (hpre_6 : CV (σ.2.1 51) (σ.2.2.1 52) (σ.1 35).toInt (σ.1 47).toInt k0.toNatClampNeg) (hpre_7 : 0 ≤ k1.toInt) (hpre_8 : k1.toInt ≤ 12) (c1 : k1.toInt ≤ 4) (ex2 : x2 = (25 : Int32) + k1) (tx2 : x2.toInt = 25 + k1.toInt) (ex3 : x3 = (σ.2.1 46) x2.toNatClampNeg) (tx3 : x3.toInt = ((σ.2.1 46) (25 + k1.toInt).toNat).toInt) (ex4 : x4 = (σ.2.1 51) k0.toNatClampNeg) (tx4 : x4.toInt = ((σ.2.1 51) k0.toNatClampNeg).toInt) (c5 : 8 ≤ x4.toInt) (ex14 : x14 = (σ.2.1 51) k0.toNatClampNeg) (tx14 : x14.toInt = ((σ.2.1 51) k0.toNatClampNeg).toInt) (ex15 : x15 = x14 - (8 : Int32)) (tx15 : x15.toInt = x14.toInt - 8) (hi39_0 : -1 ≤ y17.toInt) (hi39_1 : y17.toInt < (σ.1 35).toInt) (c18 : 0 ≤ y17.toInt) (ex21 : x21 = (8 : Int32) + y17) (tx21 : x21.toInt = 8 + y17.toInt) (ex22 : x22 = (5 : Int32) * x21) (tx22 : x22.toInt = 5 * x21.toInt) (ex23 : x23 = x22 + k1) (tx23 : x23.toInt = x22.toInt + k1.toInt) (ex24 : x24 = (σ.2.1 46) x23.toNatClampNeg) (tx24 : x24.toInt = ((σ.2.1 46) (x22.toInt + k1.toInt).toNat).toInt) (c25 : x24.toInt = 0) : vp_in y17 5 := by
  have q5 : (5 : Int32).toInt = 5 := by decide +kernel
  have q8 : (8 : Int32).toInt = 8 := by decide +kernel
  have q25 : (25 : Int32).toInt = 25 := by decide +kernel
  have cv_hpre_6 := id hpre_6
  unfold CV at cv_hpre_6
  have bl_x3 := hpre_0 ((25 + k1.toInt).toNat)
  have bl_x24 := hpre_0 ((x22.toInt + k1.toInt).toNat)
  exact vp_in_iff.mpr ⟨by omega, by omega⟩
-- inv@39 @39
theorem v_convertible_35 (σ : RS) (k0 : Int32) (k1 : Int32) (x2 : Int32) (x3 : Int32) (x4 : Int32) (x14 : Int32) (x15 : Int32) (y17 : Int32) (x21 : Int32) (x22 : Int32) (x23 : Int32) (x24 : Int32) (x26 : Int32) (hpre_0 : BLS (σ.2.1 46)) (hpre_1 : 0 ≤ (σ.1 35).toInt) (hpre_2 : (σ.1 35).toInt ≤ 5) (hpre_3 : CLS (σ.1 35).toInt (σ.2.1 36) (σ.2.1 37) (σ.2.1 40)) (hpre_4 : 0 ≤ k0.toInt) (hpre_5 : k0.toInt < 980) (hpre_6 : CV (σ.2.1 51) (σ.2.2.1 52) (σ.1 35).toInt (σ.1 47).toInt k0.toNatClampNeg) (hpre_7 : 0 ≤ k1.toInt) (hpre_8 : k1.toInt ≤ 12) (c1 : k1.toInt ≤ 4) (ex2 : x2 = (25 : Int32) + k1) (tx2 : x2.toInt = 25 + k1.toInt) (ex3 : x3 = (σ.2.1 46) x2.toNatClampNeg) (tx3 : x3.toInt = ((σ.2.1 46) (25 + k1.toInt).toNat).toInt) (ex4 : x4 = (σ.2.1 51) k0.toNatClampNeg) (tx4 : x4.toInt = ((σ.2.1 51) k0.toNatClampNeg).toInt) (c5 : 8 ≤ x4.toInt) (ex14 : x14 = (σ.2.1 51) k0.toNatClampNeg) (tx14 : x14.toInt = ((σ.2.1 51) k0.toNatClampNeg).toInt) (ex15 : x15 = x14 - (8 : Int32)) (tx15 : x15.toInt = x14.toInt - 8) (hi39_0 : -1 ≤ y17.toInt) (hi39_1 : y17.toInt < (σ.1 35).toInt) (c18 : 0 ≤ y17.toInt) (ex21 : x21 = (8 : Int32) + y17) (tx21 : x21.toInt = 8 + y17.toInt) (ex22 : x22 = (5 : Int32) * x21) (tx22 : x22.toInt = 5 * x21.toInt) (ex23 : x23 = x22 + k1) (tx23 : x23.toInt = x22.toInt + k1.toInt) (ex24 : x24 = (σ.2.1 46) x23.toNatClampNeg) (tx24 : x24.toInt = ((σ.2.1 46) (x22.toInt + k1.toInt).toNat).toInt) (c25 : x24.toInt = 0) (ex26 : x26 = (σ.2.1 36) y17.toNatClampNeg) (tx26 : x26.toInt = ((σ.2.1 36) y17.toNatClampNeg).toInt) : -1 ≤ x26.toInt ∧ x26.toInt < (σ.1 35).toInt ∧ ((0 : Int32).toInt = 0 ∨ (0 : Int32).toInt = 1) := by
  have q0 : (0 : Int32).toInt = 0 := by decide +kernel
  have q5 : (5 : Int32).toInt = 5 := by decide +kernel
  have q8 : (8 : Int32).toInt = 8 := by decide +kernel
  have q25 : (25 : Int32).toInt = 25 := by decide +kernel
  have cl_x26 := hpre_3 y17.toNatClampNeg (by rw [clampZ (by omega)]; omega)
  rw [clampZ (by omega)] at cl_x26
  have cv_hpre_6 := id hpre_6
  unfold CV at cv_hpre_6
  have bl_x3 := hpre_0 ((25 + k1.toInt).toNat)
  have bl_x24 := hpre_0 ((x22.toInt + k1.toInt).toNat)
  refine ⟨?_, ?_, ?_⟩ <;> first | assumption | omega | (subst_vars; omega) | trivial
-- inv2@39 @39
theorem v_convertible_36 (σ : RS) (k0 : Int32) (k1 : Int32) (x2 : Int32) (x3 : Int32) (x4 : Int32) (x14 : Int32) (x15 : Int32) (y16 : Int32) (y17 : Int32) (x21 : Int32) (x22 : Int32) (x23 : Int32) (x24 : Int32) (x26 : Int32) (hpre_0 : BLS (σ.2.1 46)) (hpre_1 : 0 ≤ (σ.1 35).toInt) (hpre_2 : (σ.1 35).toInt ≤ 5) (hpre_3 : CLS (σ.1 35).toInt (σ.2.1 36) (σ.2.1 37) (σ.2.1 40)) (hpre_4 : 0 ≤ k0.toInt) (hpre_5 : k0.toInt < 980) (hpre_6 : CV (σ.2.1 51) (σ.2.2.1 52) (σ.1 35).toInt (σ.1 47).toInt k0.toNatClampNeg) (hpre_7 : 0 ≤ k1.toInt) (hpre_8 : k1.toInt ≤ 12) (c1 : k1.toInt ≤ 4) (ex2 : x2 = (25 : Int32) + k1) (tx2 : x2.toInt = 25 + k1.toInt) (ex3 : x3 = (σ.2.1 46) x2.toNatClampNeg) (tx3 : x3.toInt = ((σ.2.1 46) (25 + k1.toInt).toNat).toInt) (ex4 : x4 = (σ.2.1 51) k0.toNatClampNeg) (tx4 : x4.toInt = ((σ.2.1 51) k0.toNatClampNeg).toInt) (c5 : 8 ≤ x4.toInt) (ex14 : x14 = (σ.2.1 51) k0.toNatClampNeg) (tx14 : x14.toInt = ((σ.2.1 51) k0.toNatClampNeg).toInt) (ex15 : x15 = x14 - (8 : Int32)) (tx15 : x15.toInt = x14.toInt - 8) (hi39_0 : -1 ≤ y17.toInt) (hi39_1 : y17.toInt < (σ.1 35).toInt) (hi39_2 : y16.toInt = 0 ∨ y16.toInt = 1) (hi39y : QRC (qH (σ.2.1 36) (σ.2.1 37) (σ.2.1 38) (σ.2.1 39) (σ.2.1 40) (σ.2.1 41) (σ.2.1 42) (σ.2.1 43) (σ.2.1 44) (σ.2.1 45) (σ.2.1 46) (σ.2.1 48)) (((σ.2.1 51) k0.toNatClampNeg).toInt - 8) k1.toInt y17.toInt y16.toInt) (c18 : 0 ≤ y17.toInt) (c19 : y16.toInt = 0) (ex21 : x21 = (8 : Int32) + y17) (tx21 : x21.toInt = 8 + y17.toInt) (ex22 : x22 = (5 : Int32) * x21) (tx22 : x22.toInt = 5 * x21.toInt) (ex23 : x23 = x22 + k1) (tx23 : x23.toInt = x22.toInt + k1.toInt) (ex24 : x24 = (σ.2.1 46) x23.toNatClampNeg) (tx24 : x24.toInt = ((σ.2.1 46) (x22.toInt + k1.toInt).toNat).toInt) (c25 : x24.toInt = 0) (ex26 : x26 = (σ.2.1 36) y17.toNatClampNeg) (tx26 : x26.toInt = ((σ.2.1 36) y17.toNatClampNeg).toInt) : QRC (qH (σ.2.1 36) (σ.2.1 37) (σ.2.1 38) (σ.2.1 39) (σ.2.1 40) (σ.2.1 41) (σ.2.1 42) (σ.2.1 43) (σ.2.1 44) (σ.2.1 45) (σ.2.1 46) (σ.2.1 48)) (((σ.2.1 51) k0.toNatClampNeg).toInt - 8) k1.toInt x26.toInt (0 : Int32).toInt := by
  have q0 : (0 : Int32).toInt = 0 := by decide +kernel
  have q5 : (5 : Int32).toInt = 5 := by decide +kernel
  have q8 : (8 : Int32).toInt = 8 := by decide +kernel
  have q25 : (25 : Int32).toInt = 25 := by decide +kernel
  have cl_x26 := hpre_3 y17.toNatClampNeg (by rw [clampZ (by omega)]; omega)
  rw [clampZ (by omega)] at cl_x26
  have cv_hpre_6 := id hpre_6
  unfold CV at cv_hpre_6
  have bl_x3 := hpre_0 ((25 + k1.toInt).toNat)
  have bl_x24 := hpre_0 ((x22.toInt + k1.toInt).toNat)
  have tc : (¬ x24.toInt = 0 → qThere (qH (σ.2.1 36) (σ.2.1 37) (σ.2.1 38) (σ.2.1 39) (σ.2.1 40) (σ.2.1 41) (σ.2.1 42) (σ.2.1 43) (σ.2.1 44) (σ.2.1 45) (σ.2.1 46) (σ.2.1 48)) (8 + y17.toInt) k1.toInt = true) ∧ (x24.toInt = 0 → qThere (qH (σ.2.1 36) (σ.2.1 37) (σ.2.1 38) (σ.2.1 39) (σ.2.1 40) (σ.2.1 41) (σ.2.1 42) (σ.2.1 43) (σ.2.1 44) (σ.2.1 45) (σ.2.1 46) (σ.2.1 48)) (8 + y17.toInt) k1.toInt = false) := by
    have e9 : x24.toInt = (((σ.2.1 46) (5 * (8 + y17.toInt) + k1.toInt).toNat)).toInt := by rw [ex24, clampN, show x23.toInt = 5 * (8 + y17.toInt) + k1.toInt by omega]
    exact ⟨fun h => qThere_t (by show ¬ (((σ.2.1 46) (5 * (8 + y17.toInt) + k1.toInt).toNat)).toInt = 0; omega), fun h => qThere_f (by show (((σ.2.1 46) (5 * (8 + y17.toInt) + k1.toInt).toNat)).toInt = 0; omega)⟩
  refine hi39y.step (CLS.qpa hpre_3) (by omega) (by omega) (by omega) (by show x26.toInt = ((σ.2.1 36) y17.toInt.toNat).toInt; rw [ex26, clampN]) ?_
  first | exact Or.inl ⟨by omega, Or.inr (tc.1 (by omega))⟩ | exact Or.inr ⟨by omega, by omega, tc.2 (by omega)⟩ | exact Or.inl ⟨by omega, Or.inl (by omega)⟩
-- meas@39 @39
theorem v_convertible_37 (σ : RS) (k0 : Int32) (k1 : Int32) (x2 : Int32) (x3 : Int32) (x4 : Int32) (x14 : Int32) (x15 : Int32) (y17 : Int32) (x21 : Int32) (x22 : Int32) (x23 : Int32) (x24 : Int32) (x26 : Int32) (hpre_0 : BLS (σ.2.1 46)) (hpre_1 : 0 ≤ (σ.1 35).toInt) (hpre_2 : (σ.1 35).toInt ≤ 5) (hpre_3 : CLS (σ.1 35).toInt (σ.2.1 36) (σ.2.1 37) (σ.2.1 40)) (hpre_4 : 0 ≤ k0.toInt) (hpre_5 : k0.toInt < 980) (hpre_6 : CV (σ.2.1 51) (σ.2.2.1 52) (σ.1 35).toInt (σ.1 47).toInt k0.toNatClampNeg) (hpre_7 : 0 ≤ k1.toInt) (hpre_8 : k1.toInt ≤ 12) (c1 : k1.toInt ≤ 4) (ex2 : x2 = (25 : Int32) + k1) (tx2 : x2.toInt = 25 + k1.toInt) (ex3 : x3 = (σ.2.1 46) x2.toNatClampNeg) (tx3 : x3.toInt = ((σ.2.1 46) (25 + k1.toInt).toNat).toInt) (ex4 : x4 = (σ.2.1 51) k0.toNatClampNeg) (tx4 : x4.toInt = ((σ.2.1 51) k0.toNatClampNeg).toInt) (c5 : 8 ≤ x4.toInt) (ex14 : x14 = (σ.2.1 51) k0.toNatClampNeg) (tx14 : x14.toInt = ((σ.2.1 51) k0.toNatClampNeg).toInt) (ex15 : x15 = x14 - (8 : Int32)) (tx15 : x15.toInt = x14.toInt - 8) (hi39_0 : -1 ≤ y17.toInt) (hi39_1 : y17.toInt < (σ.1 35).toInt) (c18 : 0 ≤ y17.toInt) (ex21 : x21 = (8 : Int32) + y17) (tx21 : x21.toInt = 8 + y17.toInt) (ex22 : x22 = (5 : Int32) * x21) (tx22 : x22.toInt = 5 * x21.toInt) (ex23 : x23 = x22 + k1) (tx23 : x23.toInt = x22.toInt + k1.toInt) (ex24 : x24 = (σ.2.1 46) x23.toNatClampNeg) (tx24 : x24.toInt = ((σ.2.1 46) (x22.toInt + k1.toInt).toNat).toInt) (c25 : x24.toInt = 0) (ex26 : x26 = (σ.2.1 36) y17.toNatClampNeg) (tx26 : x26.toInt = ((σ.2.1 36) y17.toNatClampNeg).toInt) : (x26.toInt + 1).toNat < (y17.toInt + 1).toNat := by
  have q5 : (5 : Int32).toInt = 5 := by decide +kernel
  have q8 : (8 : Int32).toInt = 8 := by decide +kernel
  have q25 : (25 : Int32).toInt = 25 := by decide +kernel
  have cl_x26 := hpre_3 y17.toNatClampNeg (by rw [clampZ (by omega)]; omega)
  rw [clampZ (by omega)] at cl_x26
  have cv_hpre_6 := id hpre_6
  unfold CV at cv_hpre_6
  have bl_x3 := hpre_0 ((25 + k1.toInt).toNat)
  have bl_x24 := hpre_0 ((x22.toInt + k1.toInt).toNat)
  first | assumption | omega | (subst_vars; omega) | trivial
-- in@77 @77
theorem v_convertible_38 (σ : RS) (k0 : Int32) (k1 : Int32) (x2 : Int32) (x3 : Int32) (x4 : Int32) (x14 : Int32) (x15 : Int32) (y17 : Int32) (x21 : Int32) (x22 : Int32) (x23 : Int32) (x24 : Int32) (hpre_0 : BLS (σ.2.1 46)) (hpre_1 : 0 ≤ (σ.1 35).toInt) (hpre_2 : (σ.1 35).toInt ≤ 5) (hpre_3 : CLS (σ.1 35).toInt (σ.2.1 36) (σ.2.1 37) (σ.2.1 40)) (hpre_4 : 0 ≤ k0.toInt) (hpre_5 : k0.toInt < 980) (hpre_6 : CV (σ.2.1 51) (σ.2.2.1 52) (σ.1 35).toInt (σ.1 47).toInt k0.toNatClampNeg) (hpre_7 : 0 ≤ k1.toInt) (hpre_8 : k1.toInt ≤ 12) (c1 : k1.toInt ≤ 4) (ex2 : x2 = (25 : Int32) + k1) (tx2 : x2.toInt = 25 + k1.toInt) (ex3 : x3 = (σ.2.1 46) x2.toNatClampNeg) (tx3 : x3.toInt = ((σ.2.1 46) (25 + k1.toInt).toNat).toInt) (ex4 : x4 = (σ.2.1 51) k0.toNatClampNeg) (tx4 : x4.toInt = ((σ.2.1 51) k0.toNatClampNeg).toInt) (c5 : 8 ≤ x4.toInt) (ex14 : x14 = (σ.2.1 51) k0.toNatClampNeg) (tx14 : x14.toInt = ((σ.2.1 51) k0.toNatClampNeg).toInt) (ex15 : x15 = x14 - (8 : Int32)) (tx15 : x15.toInt = x14.toInt - 8) (hi39_0 : -1 ≤ y17.toInt) (hi39_1 : y17.toInt < (σ.1 35).toInt) (c18 : 0 ≤ y17.toInt) (ex21 : x21 = (8 : Int32) + y17) (tx21 : x21.toInt = 8 + y17.toInt) (ex22 : x22 = (5 : Int32) * x21) (tx22 : x22.toInt = 5 * x21.toInt) (ex23 : x23 = x22 + k1) (tx23 : x23.toInt = x22.toInt + k1.toInt) (ex24 : x24 = (σ.2.1 46) x23.toNatClampNeg) (tx24 : x24.toInt = ((σ.2.1 46) (x22.toInt + k1.toInt).toNat).toInt) (c25 : ¬ x24.toInt = 0) : vp_in y17 5 := by
  have q5 : (5 : Int32).toInt = 5 := by decide +kernel
  have q8 : (8 : Int32).toInt = 8 := by decide +kernel
  have q25 : (25 : Int32).toInt = 25 := by decide +kernel
  have cv_hpre_6 := id hpre_6
  unfold CV at cv_hpre_6
  have bl_x3 := hpre_0 ((25 + k1.toInt).toNat)
  have bl_x24 := hpre_0 ((x22.toInt + k1.toInt).toNat)
  exact vp_in_iff.mpr ⟨by omega, by omega⟩
-- inv@39 @39
theorem v_convertible_39 (σ : RS) (k0 : Int32) (k1 : Int32) (x2 : Int32) (x3 : Int32) (x4 : Int32) (x14 : Int32) (x15 : Int32) (y17 : Int32) (x21 : Int32) (x22 : Int32) (x23 : Int32) (x24 : Int32) (x27 : Int32) (hpre_0 : BLS (σ.2.1 46)) (hpre_1 : 0 ≤ (σ.1 35).toInt) (hpre_2 : (σ.1 35).toInt ≤ 5) (hpre_3 : CLS (σ.1 35).toInt (σ.2.1 36) (σ.2.1 37) (σ.2.1 40)) (hpre_4 : 0 ≤ k0.toInt) (hpre_5 : k0.toInt < 980) (hpre_6 : CV (σ.2.1 51) (σ.2.2.1 52) (σ.1 35).toInt (σ.1 47).toInt k0.toNatClampNeg) (hpre_7 : 0 ≤ k1.toInt) (hpre_8 : k1.toInt ≤ 12) (c1 : k1.toInt ≤ 4) (ex2 : x2 = (25 : Int32) + k1) (tx2 : x2.toInt = 25 + k1.toInt) (ex3 : x3 = (σ.2.1 46) x2.toNatClampNeg) (tx3 : x3.toInt = ((σ.2.1 46) (25 + k1.toInt).toNat).toInt) (ex4 : x4 = (σ.2.1 51) k0.toNatClampNeg) (tx4 : x4.toInt = ((σ.2.1 51) k0.toNatClampNeg).toInt) (c5 : 8 ≤ x4.toInt) (ex14 : x14 = (σ.2.1 51) k0.toNatClampNeg) (tx14 : x14.toInt = ((σ.2.1 51) k0.toNatClampNeg).toInt) (ex15 : x15 = x14 - (8 : Int32)) (tx15 : x15.toInt = x14.toInt - 8) (hi39_0 : -1 ≤ y17.toInt) (hi39_1 : y17.toInt < (σ.1 35).toInt) (c18 : 0 ≤ y17.toInt) (ex21 : x21 = (8 : Int32) + y17) (tx21 : x21.toInt = 8 + y17.toInt) (ex22 : x22 = (5 : Int32) * x21) (tx22 : x22.toInt = 5 * x21.toInt) (ex23 : x23 = x22 + k1) (tx23 : x23.toInt = x22.toInt + k1.toInt) (ex24 : x24 = (σ.2.1 46) x23.toNatClampNeg) (tx24 : x24.toInt = ((σ.2.1 46) (x22.toInt + k1.toInt).toNat).toInt) (c25 : ¬ x24.toInt = 0) (ex27 : x27 = (σ.2.1 36) y17.toNatClampNeg) (tx27 : x27.toInt = ((σ.2.1 36) y17.toNatClampNeg).toInt) : -1 ≤ x27.toInt ∧ x27.toInt < (σ.1 35).toInt ∧ ((1 : Int32).toInt = 0 ∨ (1 : Int32).toInt = 1) := by
  have q1 : (1 : Int32).toInt = 1 := by decide +kernel
  have q5 : (5 : Int32).toInt = 5 := by decide +kernel
  have q8 : (8 : Int32).toInt = 8 := by decide +kernel
  have q25 : (25 : Int32).toInt = 25 := by decide +kernel
  have cl_x27 := hpre_3 y17.toNatClampNeg (by rw [clampZ (by omega)]; omega)
  rw [clampZ (by omega)] at cl_x27
  have cv_hpre_6 := id hpre_6
  unfold CV at cv_hpre_6
  have bl_x3 := hpre_0 ((25 + k1.toInt).toNat)
  have bl_x24 := hpre_0 ((x22.toInt + k1.toInt).toNat)
  refine ⟨?_, ?_, ?_⟩ <;> first | assumption | omega | (subst_vars; omega) | trivial
-- inv2@39 @39
theorem v_convertible_40 (σ : RS) (k0 : Int32) (k1 : Int32) (x2 : Int32) (x3 : Int32) (x4 : Int32) (x14 : Int32) (x15 : Int32) (y16 : Int32) (y17 : Int32) (x21 : Int32) (x22 : Int32) (x23 : Int32) (x24 : Int32) (x27 : Int32) (hpre_0 : BLS (σ.2.1 46)) (hpre_1 : 0 ≤ (σ.1 35).toInt) (hpre_2 : (σ.1 35).toInt ≤ 5) (hpre_3 : CLS (σ.1 35).toInt (σ.2.1 36) (σ.2.1 37) (σ.2.1 40)) (hpre_4 : 0 ≤ k0.toInt) (hpre_5 : k0.toInt < 980) (hpre_6 : CV (σ.2.1 51) (σ.2.2.1 52) (σ.1 35).toInt (σ.1 47).toInt k0.toNatClampNeg) (hpre_7 : 0 ≤ k1.toInt) (hpre_8 : k1.toInt ≤ 12) (c1 : k1.toInt ≤ 4) (ex2 : x2 = (25 : Int32) + k1) (tx2 : x2.toInt = 25 + k1.toInt) (ex3 : x3 = (σ.2.1 46) x2.toNatClampNeg) (tx3 : x3.toInt = ((σ.2.1 46) (25 + k1.toInt).toNat).toInt) (ex4 : x4 = (σ.2.1 51) k0.toNatClampNeg) (tx4 : x4.toInt = ((σ.2.1 51) k0.toNatClampNeg).toInt) (c5 : 8 ≤ x4.toInt) (ex14 : x14 = (σ.2.1 51) k0.toNatClampNeg) (tx14 : x14.toInt = ((σ.2.1 51) k0.toNatClampNeg).toInt) (ex15 : x15 = x14 - (8 : Int32)) (tx15 : x15.toInt = x14.toInt - 8) (hi39_0 : -1 ≤ y17.toInt) (hi39_1 : y17.toInt < (σ.1 35).toInt) (hi39_2 : y16.toInt = 0 ∨ y16.toInt = 1) (hi39y : QRC (qH (σ.2.1 36) (σ.2.1 37) (σ.2.1 38) (σ.2.1 39) (σ.2.1 40) (σ.2.1 41) (σ.2.1 42) (σ.2.1 43) (σ.2.1 44) (σ.2.1 45) (σ.2.1 46) (σ.2.1 48)) (((σ.2.1 51) k0.toNatClampNeg).toInt - 8) k1.toInt y17.toInt y16.toInt) (c18 : 0 ≤ y17.toInt) (c19 : y16.toInt = 0) (ex21 : x21 = (8 : Int32) + y17) (tx21 : x21.toInt = 8 + y17.toInt) (ex22 : x22 = (5 : Int32) * x21) (tx22 : x22.toInt = 5 * x21.toInt) (ex23 : x23 = x22 + k1) (tx23 : x23.toInt = x22.toInt + k1.toInt) (ex24 : x24 = (σ.2.1 46) x23.toNatClampNeg) (tx24 : x24.toInt = ((σ.2.1 46) (x22.toInt + k1.toInt).toNat).toInt) (c25 : ¬ x24.toInt = 0) (ex27 : x27 = (σ.2.1 36) y17.toNatClampNeg) (tx27 : x27.toInt = ((σ.2.1 36) y17.toNatClampNeg).toInt) : QRC (qH (σ.2.1 36) (σ.2.1 37) (σ.2.1 38) (σ.2.1 39) (σ.2.1 40) (σ.2.1 41) (σ.2.1 42) (σ.2.1 43) (σ.2.1 44) (σ.2.1 45) (σ.2.1 46) (σ.2.1 48)) (((σ.2.1 51) k0.toNatClampNeg).toInt - 8) k1.toInt x27.toInt (1 : Int32).toInt := by
  have q1 : (1 : Int32).toInt = 1 := by decide +kernel
  have q5 : (5 : Int32).toInt = 5 := by decide +kernel
  have q8 : (8 : Int32).toInt = 8 := by decide +kernel
  have q25 : (25 : Int32).toInt = 25 := by decide +kernel
  have cl_x27 := hpre_3 y17.toNatClampNeg (by rw [clampZ (by omega)]; omega)
  rw [clampZ (by omega)] at cl_x27
  have cv_hpre_6 := id hpre_6
  unfold CV at cv_hpre_6
  have bl_x3 := hpre_0 ((25 + k1.toInt).toNat)
  have bl_x24 := hpre_0 ((x22.toInt + k1.toInt).toNat)
  have tc : (¬ x24.toInt = 0 → qThere (qH (σ.2.1 36) (σ.2.1 37) (σ.2.1 38) (σ.2.1 39) (σ.2.1 40) (σ.2.1 41) (σ.2.1 42) (σ.2.1 43) (σ.2.1 44) (σ.2.1 45) (σ.2.1 46) (σ.2.1 48)) (8 + y17.toInt) k1.toInt = true) ∧ (x24.toInt = 0 → qThere (qH (σ.2.1 36) (σ.2.1 37) (σ.2.1 38) (σ.2.1 39) (σ.2.1 40) (σ.2.1 41) (σ.2.1 42) (σ.2.1 43) (σ.2.1 44) (σ.2.1 45) (σ.2.1 46) (σ.2.1 48)) (8 + y17.toInt) k1.toInt = false) := by
    have e9 : x24.toInt = (((σ.2.1 46) (5 * (8 + y17.toInt) + k1.toInt).toNat)).toInt := by rw [ex24, clampN, show x23.toInt = 5 * (8 + y17.toInt) + k1.toInt by omega]
    exact ⟨fun h => qThere_t (by show ¬ (((σ.2.1 46) (5 * (8 + y17.toInt) + k1.toInt).toNat)).toInt = 0; omega), fun h => qThere_f (by show (((σ.2.1 46) (5 * (8 + y17.toInt) + k1.toInt).toNat)).toInt = 0; omega)⟩
  refine hi39y.step (CLS.qpa hpre_3) (by omega) (by omega) (by omega) (by show x27.toInt = ((σ.2.1 36) y17.toInt.toNat).toInt; rw [ex27, clampN]) ?_
  first | exact Or.inl ⟨by omega, Or.inr (tc.1 (by omega))⟩ | exact Or.inr ⟨by omega, by omega, tc.2 (by omega)⟩ | exact Or.inl ⟨by omega, Or.inl (by omega)⟩
-- meas@39 @39
theorem v_convertible_41 (σ : RS) (k0 : Int32) (k1 : Int32) (x2 : Int32) (x3 : Int32) (x4 : Int32) (x14 : Int32) (x15 : Int32) (y17 : Int32) (x21 : Int32) (x22 : Int32) (x23 : Int32) (x24 : Int32) (x27 : Int32) (hpre_0 : BLS (σ.2.1 46)) (hpre_1 : 0 ≤ (σ.1 35).toInt) (hpre_2 : (σ.1 35).toInt ≤ 5) (hpre_3 : CLS (σ.1 35).toInt (σ.2.1 36) (σ.2.1 37) (σ.2.1 40)) (hpre_4 : 0 ≤ k0.toInt) (hpre_5 : k0.toInt < 980) (hpre_6 : CV (σ.2.1 51) (σ.2.2.1 52) (σ.1 35).toInt (σ.1 47).toInt k0.toNatClampNeg) (hpre_7 : 0 ≤ k1.toInt) (hpre_8 : k1.toInt ≤ 12) (c1 : k1.toInt ≤ 4) (ex2 : x2 = (25 : Int32) + k1) (tx2 : x2.toInt = 25 + k1.toInt) (ex3 : x3 = (σ.2.1 46) x2.toNatClampNeg) (tx3 : x3.toInt = ((σ.2.1 46) (25 + k1.toInt).toNat).toInt) (ex4 : x4 = (σ.2.1 51) k0.toNatClampNeg) (tx4 : x4.toInt = ((σ.2.1 51) k0.toNatClampNeg).toInt) (c5 : 8 ≤ x4.toInt) (ex14 : x14 = (σ.2.1 51) k0.toNatClampNeg) (tx14 : x14.toInt = ((σ.2.1 51) k0.toNatClampNeg).toInt) (ex15 : x15 = x14 - (8 : Int32)) (tx15 : x15.toInt = x14.toInt - 8) (hi39_0 : -1 ≤ y17.toInt) (hi39_1 : y17.toInt < (σ.1 35).toInt) (c18 : 0 ≤ y17.toInt) (ex21 : x21 = (8 : Int32) + y17) (tx21 : x21.toInt = 8 + y17.toInt) (ex22 : x22 = (5 : Int32) * x21) (tx22 : x22.toInt = 5 * x21.toInt) (ex23 : x23 = x22 + k1) (tx23 : x23.toInt = x22.toInt + k1.toInt) (ex24 : x24 = (σ.2.1 46) x23.toNatClampNeg) (tx24 : x24.toInt = ((σ.2.1 46) (x22.toInt + k1.toInt).toNat).toInt) (c25 : ¬ x24.toInt = 0) (ex27 : x27 = (σ.2.1 36) y17.toNatClampNeg) (tx27 : x27.toInt = ((σ.2.1 36) y17.toNatClampNeg).toInt) : (x27.toInt + 1).toNat < (y17.toInt + 1).toNat := by
  have q5 : (5 : Int32).toInt = 5 := by decide +kernel
  have q8 : (8 : Int32).toInt = 8 := by decide +kernel
  have q25 : (25 : Int32).toInt = 25 := by decide +kernel
  have cl_x27 := hpre_3 y17.toNatClampNeg (by rw [clampZ (by omega)]; omega)
  rw [clampZ (by omega)] at cl_x27
  have cv_hpre_6 := id hpre_6
  unfold CV at cv_hpre_6
  have bl_x3 := hpre_0 ((25 + k1.toInt).toNat)
  have bl_x24 := hpre_0 ((x22.toInt + k1.toInt).toNat)
  first | assumption | omega | (subst_vars; omega) | trivial
-- post @6
theorem v_convertible_42 (k1 : Int32) (hpre_7 : 0 ≤ k1.toInt) (hpre_8 : k1.toInt ≤ 12) (c1 : 4 < k1.toInt) : ((0 : Int32).toInt = 0 ∨ (0 : Int32).toInt = 1) ∧ (¬ (0 : Int32).toInt = 0 → k1.toInt ≤ 4) := by
  have q0 : (0 : Int32).toInt = 0 := by decide +kernel
  refine ⟨?_, ?_⟩ <;> first | assumption | omega | (subst_vars; omega) | trivial
-- post2 @6
theorem v_convertible_43 (σ : RS) (k0 : Int32) (k1 : Int32) (hpre_0 : BLS (σ.2.1 46)) (hpre_1 : 0 ≤ (σ.1 35).toInt) (hpre_2 : (σ.1 35).toInt ≤ 5) (hpre_3 : CLS (σ.1 35).toInt (σ.2.1 36) (σ.2.1 37) (σ.2.1 40)) (hpre_4 : 0 ≤ k0.toInt) (hpre_5 : k0.toInt < 980) (hpre_6 : CV (σ.2.1 51) (σ.2.2.1 52) (σ.1 35).toInt (σ.1 47).toInt k0.toNatClampNeg) (hpre_7 : 0 ≤ k1.toInt) (hpre_8 : k1.toInt ≤ 12) (c1 : 4 < k1.toInt) : ∀ v9 : QV, QAT (qH (σ.2.1 36) (σ.2.1 37) (σ.2.1 38) (σ.2.1 39) (σ.2.1 40) (σ.2.1 41) (σ.2.1 42) (σ.2.1 43) (σ.2.1 44) (σ.2.1 45) (σ.2.1 46) (σ.2.1 48)) (σ.1 47).toInt ((σ.2.1 51), (σ.2.2.1 52), (σ.2.2.1 53), (σ.2.2.2)) k0.toNatClampNeg v9 → ((0 : Int32).toInt = 0 → qReach (qH (σ.2.1 36) (σ.2.1 37) (σ.2.1 38) (σ.2.1 39) (σ.2.1 40) (σ.2.1 41) (σ.2.1 42) (σ.2.1 43) (σ.2.1 44) (σ.2.1 45) (σ.2.1 46) (σ.2.1 48)) v9 k1.toInt = false) ∧ (¬ (0 : Int32).toInt = 0 → qReach (qH (σ.2.1 36) (σ.2.1 37) (σ.2.1 38) (σ.2.1 39) (σ.2.1 40) (σ.2.1 41) (σ.2.1 42) (σ.2.1 43) (σ.2.1 44) (σ.2.1 45) (σ.2.1 46) (σ.2.1 48)) v9 k1.toInt = true) := by
  have q0 : (0 : Int32).toInt = 0 := by decide +kernel
  have cv_hpre_6 := id hpre_6
  unfold CV at cv_hpre_6
  intro v9 h9
  have kd := h9.kd
  dsimp only at kd
  have kk := h9.ok.kd
  rw [qReach_5 (by omega)]
  exact ⟨fun _ => rfl, fun h => absurd q0 h⟩
set_option maxHeartbeats 4000000 in
set_option maxRecDepth 100000 in
theorem L_convertible_39_1 {p : Program} {e : Env} {s : State} {m : MethodId} {below : List Frame} {meth : Method} {c : Code} (l : Launch) (D : va_G) (cy : Nat → ClassId) (sz0 : Nat) (sa : Nat → Nat) (ad : Nat → Nat) (sz : Nat) (σ : RS) (k0 : Int32) (k1 : Int32) (x2 : Int32) (x3 : Int32) (x4 : Int32) (x14 : Int32) (x15 : Int32) (C : RC p s m #[.ref (ad 0), .int k0, .int k1] meth c cX12_convertible 5 (some .boolean) D cy sz0 sa ad (AR cy ad sz)) (hpre_0 : BLS (σ.2.1 46)) (hpre_1 : 0 ≤ (σ.1 35).toInt) (hpre_2 : (σ.1 35).toInt ≤ 5) (hpre_3 : CLS (σ.1 35).toInt (σ.2.1 36) (σ.2.1 37) (σ.2.1 40)) (hpre_4 : 0 ≤ k0.toInt) (hpre_5 : k0.toInt < 980) (hpre_6 : CV (σ.2.1 51) (σ.2.2.1 52) (σ.1 35).toInt (σ.1 47).toInt k0.toNatClampNeg) (hpre_7 : 0 ≤ k1.toInt) (hpre_8 : k1.toInt ≤ 12) (c1 : k1.toInt ≤ 4) (ex2 : x2 = (25 : Int32) + k1) (tx2 : x2.toInt = 25 + k1.toInt) (ex3 : x3 = (σ.2.1 46) x2.toNatClampNeg) (tx3 : x3.toInt = ((σ.2.1 46) (25 + k1.toInt).toNat).toInt) (ex4 : x4 = (σ.2.1 51) k0.toNatClampNeg) (tx4 : x4.toInt = ((σ.2.1 51) k0.toNatClampNeg).toInt) (c5 : 8 ≤ x4.toInt) (ex14 : x14 = (σ.2.1 51) k0.toNatClampNeg) (tx14 : x14.toInt = ((σ.2.1 51) k0.toNatClampNeg).toInt) (ex15 : x15 = x14 - (8 : Int32)) (tx15 : x15.toInt = x14.toInt - 8) : ∀ (n : Nat) (y16 : Int32) (y17 : Int32) (H : Heap) (locs : List Loc) (ls : Array Slot), (y17.toInt + 1).toNat < n → ((-1 ≤ y17.toInt ∧ y17.toInt < (σ.1 35).toInt ∧ (y16.toInt = 0 ∨ y16.toInt = 1)) ∧ (QRC (qH (σ.2.1 36) (σ.2.1 37) (σ.2.1 38) (σ.2.1 39) (σ.2.1 40) (σ.2.1 41) (σ.2.1 42) (σ.2.1 43) (σ.2.1 44) (σ.2.1 45) (σ.2.1 46) (σ.2.1 48)) (((σ.2.1 51) k0.toNatClampNeg).toInt - 8) k1.toInt y17.toInt y16.toInt)) → RP D cy ad σ H → va_S (AR cy ad sz) s.heap H locs → lv_has ls 5 [(4, .int y17), (3, .int y16), (0, .ref (ad 0)), (1, .int k0), (2, .int k1)] → W p l e (headSpec (Cond.code yX12_convertible cX12_convertible 5 (some .boolean) :: GWm) ({ frames := 0, cells := 0, slots := 0, locals := 0 })).room s m #[.ref (ad 0), .int k0, .int k1] below meth c H locs 0 0 (MQ below (va_Qi (fun (r : Int32) (u : Unit) => ((r.toInt = 0 ∨ r.toInt = 1) ∧ (¬ r.toInt = 0 → k1.toInt ≤ 4)) ∧ (∀ v9 : QV, QAT (qH (σ.2.1 36) (σ.2.1 37) (σ.2.1 38) (σ.2.1 39) (σ.2.1 40) (σ.2.1 41) (σ.2.1 42) (σ.2.1 43) (σ.2.1 44) (σ.2.1 45) (σ.2.1 46) (σ.2.1 48)) (σ.1 47).toInt ((σ.2.1 51), (σ.2.2.1 52), (σ.2.2.1 53), (σ.2.2.2)) k0.toNatClampNeg v9 → (r.toInt = 0 → qReach (qH (σ.2.1 36) (σ.2.1 37) (σ.2.1 38) (σ.2.1 39) (σ.2.1 40) (σ.2.1 41) (σ.2.1 42) (σ.2.1 43) (σ.2.1 44) (σ.2.1 45) (σ.2.1 46) (σ.2.1 48)) v9 k1.toInt = false) ∧ (¬ r.toInt = 0 → qReach (qH (σ.2.1 36) (σ.2.1 37) (σ.2.1 38) (σ.2.1 39) (σ.2.1 40) (σ.2.1 41) (σ.2.1 42) (σ.2.1 43) (σ.2.1 44) (σ.2.1 45) (σ.2.1 46) (σ.2.1 48)) v9 k1.toInt = true))) (fun (u : Unit) (t : State) => RP D cy ad σ t.heap) (AR cy ad sz)) #[.ref (ad 0), .int k0, .int k1] s 0 0 (AR cy ad sz)) (F0 m 39 ls []) := by
  have hx := C.1
  have hb := C.2.1
  have hown := C.2.2.2.2.1
  have hw := C.2.2.2.2.2.1
  intro n
  induction n with
  | zero => intro y16 y17 H locs ls hn; exact absurd hn (Nat.not_lt_zero _)
  | succ n ih39 =>
    intro y16 y17 H locs ls hn39 hi39 hP hS hl
    obtain ⟨hi39, hi39y⟩ := hi39
    obtain ⟨hi39_0, hi39_1, hi39_2⟩ := hi39
    refine lv_iload hx hb dX12_convertible_39 (lv_at hl 0 rfl) ?_
    refine lv_if_lt (tgt := 83) hx hb dX12_convertible_41 (by decide) (fun c18 => ?_) (fun c18 => ?_)
    · have c18 : y17.toInt < 0 := by have h := z_lt c18; rw [show (0 : Int32).toInt = 0 from by decide +kernel] at h; exact h
      refine lv_iload_n hx hb dX12_convertible_83 rfl (lv_at hl 1 rfl) ?_
      exact r_retz C () (v_convertible_25 y16 hi39_2) ⟨(v_convertible_23 σ k1 x2 x3 y16 hpre_0 hpre_7 hpre_8 c1 ex2 tx2 ex3 tx3 hi39_2), (v_convertible_24 σ k0 k1 x2 x3 x4 x14 x15 y16 y17 hpre_0 hpre_1 hpre_2 hpre_3 hpre_4 hpre_5 hpre_6 hpre_7 hpre_8 c1 ex2 tx2 ex3 tx3 ex4 tx4 c5 ex14 tx14 ex15 tx15 hi39_0 hi39_1 hi39_2 hi39y c18)⟩ hP hS dX12_convertible_84
    · have c18 : 0 ≤ y17.toInt := by have h := z_nlt c18; rw [show (0 : Int32).toInt = 0 from by decide +kernel] at h; exact h
      refine lv_iload_n hx hb dX12_convertible_44 rfl (lv_at hl 1 rfl) ?_
      refine lv_if_ne (tgt := 65) hx hb dX12_convertible_45 (by decide) (fun c19 => ?_) (fun c19 => ?_)
      · have c19 : ¬ y16.toInt = 0 := by have h := z_ne c19; rw [show (0 : Int32).toInt = 0 from by decide +kernel] at h; exact h
        refine lv_iconst (v := 1) hx hb dX12_convertible_65 (by decide +kernel) ?_
        refine lv_goto (tgt := 70) hx hb dX12_convertible_66 (by decide) ?_
        refine lv_istore_n (lv' := [(3, .int 1), (4, .int y17), (0, .ref (ad 0)), (1, .int k0), (2, .int k1)]) hx hb dX12_convertible_70 rfl hl (by decide) rfl (fun ls hl => ?_)
        refine lv_aload_n hx hb dX12_convertible_71 rfl (lv_at hl 2 rfl) ?_
        refine rg_36 C hP wm_182 dX12_convertible_72 ?_
        refine lv_iload hx hb dX12_convertible_75 (lv_at hl 1 rfl) ?_
        refine ra_36 (f := (σ.2.1 36)) C hP rfl (v_convertible_26 σ k0 x4 x14 x15 y17 hpre_1 hpre_2 hpre_3 hpre_4 hpre_5 hpre_6 ex4 tx4 c5 ex14 tx14 ex15 tx15 hi39_0 hi39_1 c18) dX12_convertible_77 (fun x20 ex20 => ?_)
        have tx20 : x20.toInt = ((σ.2.1 36) y17.toNatClampNeg).toInt := by rw [ex20]
        refine lv_istore (lv' := [(4, .int x20), (3, .int 1), (0, .ref (ad 0)), (1, .int k0), (2, .int k1)]) hx hb dX12_convertible_78 hl (by decide) rfl (fun ls hl => ?_)
        refine lv_goto (tgt := 39) hx hb dX12_convertible_80 (by decide) ?_
        exact ih39 (1 : Int32) x20 _ _ _ (Nat.lt_of_lt_of_le (v_convertible_29 σ k0 x4 x14 x15 y17 x20 hpre_1 hpre_2 hpre_3 hpre_4 hpre_5 hpre_6 ex4 tx4 c5 ex14 tx14 ex15 tx15 hi39_0 hi39_1 c18 ex20 tx20) (Nat.le_of_lt_succ hn39)) ⟨(v_convertible_27 σ k0 x4 x14 x15 y17 x20 hpre_1 hpre_2 hpre_3 hpre_4 hpre_5 hpre_6 ex4 tx4 c5 ex14 tx14 ex15 tx15 hi39_0 hi39_1 c18 ex20 tx20), (v_convertible_28 σ k0 k1 x2 x3 x4 x14 x15 y16 y17 x20 hpre_0 hpre_1 hpre_2 hpre_3 hpre_4 hpre_5 hpre_6 hpre_7 hpre_8 c1 ex2 tx2 ex3 tx3 ex4 tx4 c5 ex14 tx14 ex15 tx15 hi39_0 hi39_1 hi39_2 hi39y c18 c19 ex20 tx20)⟩ hP hS (lv_sub hl [0, 1, 2, 3, 4] rfl)
      · have c19 : y16.toInt = 0 := by have h := z_eq c19; rw [show (0 : Int32).toInt = 0 from by decide +kernel] at h; exact h
        refine lv_aload_n hx hb dX12_convertible_48 rfl (lv_at hl 2 rfl) ?_
        refine rg_46 C hP wm_203 dX12_convertible_49 ?_
        refine lv_iconst (v := 5) hx hb dX12_convertible_52 (by decide +kernel) ?_
        refine lv_bipush (v := 8) hx hb dX12_convertible_53 (by decide +kernel) ?_
        refine lv_iload hx hb dX12_convertible_55 (lv_at hl 0 rfl) ?_
        refine lv_iadd hx hb dX12_convertible_57 ?_
        refine lv_topi (fun x21 ex21 => ?_)
        have tx21 : x21.toInt = 8 + y17.toInt := (v_convertible_30 σ k0 x4 x14 x15 y17 x21 hpre_1 hpre_2 hpre_3 hpre_4 hpre_5 hpre_6 ex4 tx4 c5 ex14 tx14 ex15 tx15 hi39_0 hi39_1 c18 ex21)
        refine lv_imul hx hb dX12_convertible_58 ?_
        refine lv_topi (fun x22 ex22 => ?_)
        have tx22 : x22.toInt = 5 * x21.toInt := (v_convertible_31 σ k0 x4 x14 x15 y17 x21 x22 hpre_1 hpre_2 hpre_3 hpre_4 hpre_5 hpre_6 ex4 tx4 c5 ex14 tx14 ex15 tx15 hi39_0 hi39_1 c18 ex21 tx21 ex22)
        refine lv_iload_n hx hb dX12_convertible_59 rfl (lv_at hl 4 rfl) ?_
        refine lv_iadd hx hb dX12_convertible_60 ?_
        refine lv_topi (fun x23 ex23 => ?_)
        have tx23 : x23.toInt = x22.toInt + k1.toInt := (v_convertible_32 σ k0 k1 x2 x3 x4 x14 x15 y17 x21 x22 x23 hpre_0 hpre_1 hpre_2 hpre_3 hpre_4 hpre_5 hpre_6 hpre_7 hpre_8 c1 ex2 tx2 ex3 tx3 ex4 tx4 c5 ex14 tx14 ex15 tx15 hi39_0 hi39_1 c18 ex21 tx21 ex22 tx22 ex23)
        refine ra_46 (f := (σ.2.1 46)) C hP rfl (v_convertible_33 σ k0 k1 x2 x3 x4 x14 x15 y17 x21 x22 x23 hpre_0 hpre_1 hpre_2 hpre_3 hpre_4 hpre_5 hpre_6 hpre_7 hpre_8 c1 ex2 tx2 ex3 tx3 ex4 tx4 c5 ex14 tx14 ex15 tx15 hi39_0 hi39_1 c18 ex21 tx21 ex22 tx22 ex23 tx23) dX12_convertible_61 (fun x24 ex24 => ?_)
        have tx24 : x24.toInt = ((σ.2.1 46) (x22.toInt + k1.toInt).toNat).toInt := by rw [ex24, clampN, tx23]
        refine lv_if_eq (tgt := 69) hx hb dX12_convertible_62 (by decide) (fun c25 => ?_) (fun c25 => ?_)
        · have c25 : x24.toInt = 0 := by have h := z_eq c25; rw [show (0 : Int32).toInt = 0 from by decide +kernel] at h; exact h
          refine lv_iconst (v := 0) hx hb dX12_convertible_69 (by decide +kernel) ?_
          refine lv_istore_n (lv' := [(3, .int 0), (4, .int y17), (0, .ref (ad 0)), (1, .int k0), (2, .int k1)]) hx hb dX12_convertible_70 rfl hl (by decide) rfl (fun ls hl => ?_)
          refine lv_aload_n hx hb dX12_convertible_71 rfl (lv_at hl 2 rfl) ?_
          refine rg_36 C hP wm_182 dX12_convertible_72 ?_
          refine lv_iload hx hb dX12_convertible_75 (lv_at hl 1 rfl) ?_
          refine ra_36 (f := (σ.2.1 36)) C hP rfl (v_convertible_34 σ k0 k1 x2 x3 x4 x14 x15 y17 x21 x22 x23 x24 hpre_0 hpre_1 hpre_2 hpre_3 hpre_4 hpre_5 hpre_6 hpre_7 hpre_8 c1 ex2 tx2 ex3 tx3 ex4 tx4 c5 ex14 tx14 ex15 tx15 hi39_0 hi39_1 c18 ex21 tx21 ex22 tx22 ex23 tx23 ex24 tx24 c25) dX12_convertible_77 (fun x26 ex26 => ?_)
          have tx26 : x26.toInt = ((σ.2.1 36) y17.toNatClampNeg).toInt := by rw [ex26]
          refine lv_istore (lv' := [(4, .int x26), (3, .int 0), (0, .ref (ad 0)), (1, .int k0), (2, .int k1)]) hx hb dX12_convertible_78 hl (by decide) rfl (fun ls hl => ?_)
          refine lv_goto (tgt := 39) hx hb dX12_convertible_80 (by decide) ?_
          exact ih39 (0 : Int32) x26 _ _ _ (Nat.lt_of_lt_of_le (v_convertible_37 σ k0 k1 x2 x3 x4 x14 x15 y17 x21 x22 x23 x24 x26 hpre_0 hpre_1 hpre_2 hpre_3 hpre_4 hpre_5 hpre_6 hpre_7 hpre_8 c1 ex2 tx2 ex3 tx3 ex4 tx4 c5 ex14 tx14 ex15 tx15 hi39_0 hi39_1 c18 ex21 tx21 ex22 tx22 ex23 tx23 ex24 tx24 c25 ex26 tx26) (Nat.le_of_lt_succ hn39)) ⟨(v_convertible_35 σ k0 k1 x2 x3 x4 x14 x15 y17 x21 x22 x23 x24 x26 hpre_0 hpre_1 hpre_2 hpre_3 hpre_4 hpre_5 hpre_6 hpre_7 hpre_8 c1 ex2 tx2 ex3 tx3 ex4 tx4 c5 ex14 tx14 ex15 tx15 hi39_0 hi39_1 c18 ex21 tx21 ex22 tx22 ex23 tx23 ex24 tx24 c25 ex26 tx26), (v_convertible_36 σ k0 k1 x2 x3 x4 x14 x15 y16 y17 x21 x22 x23 x24 x26 hpre_0 hpre_1 hpre_2 hpre_3 hpre_4 hpre_5 hpre_6 hpre_7 hpre_8 c1 ex2 tx2 ex3 tx3 ex4 tx4 c5 ex14 tx14 ex15 tx15 hi39_0 hi39_1 hi39_2 hi39y c18 c19 ex21 tx21 ex22 tx22 ex23 tx23 ex24 tx24 c25 ex26 tx26)⟩ hP hS (lv_sub hl [0, 1, 2, 3, 4] rfl)
        · have c25 : ¬ x24.toInt = 0 := by have h := z_ne c25; rw [show (0 : Int32).toInt = 0 from by decide +kernel] at h; exact h
          refine lv_iconst (v := 1) hx hb dX12_convertible_65 (by decide +kernel) ?_
          refine lv_goto (tgt := 70) hx hb dX12_convertible_66 (by decide) ?_
          refine lv_istore_n (lv' := [(3, .int 1), (4, .int y17), (0, .ref (ad 0)), (1, .int k0), (2, .int k1)]) hx hb dX12_convertible_70 rfl hl (by decide) rfl (fun ls hl => ?_)
          refine lv_aload_n hx hb dX12_convertible_71 rfl (lv_at hl 2 rfl) ?_
          refine rg_36 C hP wm_182 dX12_convertible_72 ?_
          refine lv_iload hx hb dX12_convertible_75 (lv_at hl 1 rfl) ?_
          refine ra_36 (f := (σ.2.1 36)) C hP rfl (v_convertible_38 σ k0 k1 x2 x3 x4 x14 x15 y17 x21 x22 x23 x24 hpre_0 hpre_1 hpre_2 hpre_3 hpre_4 hpre_5 hpre_6 hpre_7 hpre_8 c1 ex2 tx2 ex3 tx3 ex4 tx4 c5 ex14 tx14 ex15 tx15 hi39_0 hi39_1 c18 ex21 tx21 ex22 tx22 ex23 tx23 ex24 tx24 c25) dX12_convertible_77 (fun x27 ex27 => ?_)
          have tx27 : x27.toInt = ((σ.2.1 36) y17.toNatClampNeg).toInt := by rw [ex27]
          refine lv_istore (lv' := [(4, .int x27), (3, .int 1), (0, .ref (ad 0)), (1, .int k0), (2, .int k1)]) hx hb dX12_convertible_78 hl (by decide) rfl (fun ls hl => ?_)
          refine lv_goto (tgt := 39) hx hb dX12_convertible_80 (by decide) ?_
          exact ih39 (1 : Int32) x27 _ _ _ (Nat.lt_of_lt_of_le (v_convertible_41 σ k0 k1 x2 x3 x4 x14 x15 y17 x21 x22 x23 x24 x27 hpre_0 hpre_1 hpre_2 hpre_3 hpre_4 hpre_5 hpre_6 hpre_7 hpre_8 c1 ex2 tx2 ex3 tx3 ex4 tx4 c5 ex14 tx14 ex15 tx15 hi39_0 hi39_1 c18 ex21 tx21 ex22 tx22 ex23 tx23 ex24 tx24 c25 ex27 tx27) (Nat.le_of_lt_succ hn39)) ⟨(v_convertible_39 σ k0 k1 x2 x3 x4 x14 x15 y17 x21 x22 x23 x24 x27 hpre_0 hpre_1 hpre_2 hpre_3 hpre_4 hpre_5 hpre_6 hpre_7 hpre_8 c1 ex2 tx2 ex3 tx3 ex4 tx4 c5 ex14 tx14 ex15 tx15 hi39_0 hi39_1 c18 ex21 tx21 ex22 tx22 ex23 tx23 ex24 tx24 c25 ex27 tx27), (v_convertible_40 σ k0 k1 x2 x3 x4 x14 x15 y16 y17 x21 x22 x23 x24 x27 hpre_0 hpre_1 hpre_2 hpre_3 hpre_4 hpre_5 hpre_6 hpre_7 hpre_8 c1 ex2 tx2 ex3 tx3 ex4 tx4 c5 ex14 tx14 ex15 tx15 hi39_0 hi39_1 hi39_2 hi39y c18 c19 ex21 tx21 ex22 tx22 ex23 tx23 ex24 tx24 c25 ex27 tx27)⟩ hP hS (lv_sub hl [0, 1, 2, 3, 4] rfl)
set_option maxHeartbeats 4000000 in
set_option maxRecDepth 100000 in
theorem M_convertible (l : Launch) (D : va_G) (cy : Nat → ClassId) (sz0 : Nat) (sa : Nat → Nat) (ad : Nat → Nat) (σ : RS) (sz : Nat) (k0 : Int32) (k1 : Int32) (hpre : BLS (σ.2.1 46) ∧ 0 ≤ (σ.1 35).toInt ∧ (σ.1 35).toInt ≤ 5 ∧ CLS (σ.1 35).toInt (σ.2.1 36) (σ.2.1 37) (σ.2.1 40) ∧ 0 ≤ k0.toInt ∧ k0.toInt < 980 ∧ CV (σ.2.1 51) (σ.2.2.1 52) (σ.1 35).toInt (σ.1 47).toInt k0.toNatClampNeg ∧ 0 ≤ k1.toInt ∧ k1.toInt ≤ 12) : Met l yX12_convertible (Cond.code yX12_convertible cX12_convertible 5 (some .boolean) :: GWm) ({ frames := 0, cells := 0, slots := 0, locals := 0 }) (PcR D cy sz0 sa ad [.ref (ad 0), .int k0, .int k1] σ sz) (va_Qi (fun (r : Int32) (u : Unit) => ((r.toInt = 0 ∨ r.toInt = 1) ∧ (¬ r.toInt = 0 → k1.toInt ≤ 4)) ∧ (∀ v9 : QV, QAT (qH (σ.2.1 36) (σ.2.1 37) (σ.2.1 38) (σ.2.1 39) (σ.2.1 40) (σ.2.1 41) (σ.2.1 42) (σ.2.1 43) (σ.2.1 44) (σ.2.1 45) (σ.2.1 46) (σ.2.1 48)) (σ.1 47).toInt ((σ.2.1 51), (σ.2.2.1 52), (σ.2.2.1 53), (σ.2.2.2)) k0.toNatClampNeg v9 → (r.toInt = 0 → qReach (qH (σ.2.1 36) (σ.2.1 37) (σ.2.1 38) (σ.2.1 39) (σ.2.1 40) (σ.2.1 41) (σ.2.1 42) (σ.2.1 43) (σ.2.1 44) (σ.2.1 45) (σ.2.1 46) (σ.2.1 48)) v9 k1.toInt = false) ∧ (¬ r.toInt = 0 → qReach (qH (σ.2.1 36) (σ.2.1 37) (σ.2.1 38) (σ.2.1 39) (σ.2.1 40) (σ.2.1 41) (σ.2.1 42) (σ.2.1 43) (σ.2.1 44) (σ.2.1 45) (σ.2.1 46) (σ.2.1 48)) v9 k1.toInt = true))) (fun (u : Unit) (t : State) => RP D cy ad σ t.heap) (AR cy ad sz)) 0 0 (AR cy ad sz) := by
  refine RM_of (loc0 := [(0, .ref (ad 0)), (1, .int k0), (2, .int k1)]) (by decide) rfl rfl (Nat.le_of_ble_eq_true rfl) ?_
  intro p e s m below meth c ls hsz C hP hS hl
  have hx := C.1
  have hb := C.2.1
  have hown := C.2.2.2.2.1
  have hw := C.2.2.2.2.2.1
  clear hsz
  obtain ⟨hpre_0, hpre_1, hpre_2, hpre_3, hpre_4, hpre_5, hpre_6, hpre_7, hpre_8⟩ := hpre
  refine lv_iload_n hx hb dX12_convertible_0 rfl (lv_at hl 2 rfl) ?_
  refine lv_iconst (v := 4) hx hb dX12_convertible_1 (by decide +kernel) ?_
  refine lv_icmp_le (tgt := 7) hx hb dX12_convertible_2 (by decide) (fun c1 => ?_) (fun c1 => ?_)
  · have c1 : k1.toInt ≤ 4 := by have h := z_le c1; rw [show (4 : Int32).toInt = 4 from by decide +kernel] at h; exact h
    refine lv_aload_n hx hb dX12_convertible_7 rfl (lv_at hl 0 rfl) ?_
    refine rg_46 C hP wm_203 dX12_convertible_8 ?_
    refine lv_bipush (v := 25) hx hb dX12_convertible_11 (by decide +kernel) ?_
    refine lv_iload_n hx hb dX12_convertible_13 rfl (lv_at hl 2 rfl) ?_
    refine lv_iadd hx hb dX12_convertible_14 ?_
    refine lv_topi (fun x2 ex2 => ?_)
    have tx2 : x2.toInt = 25 + k1.toInt := (v_convertible_1 k1 x2 hpre_7 hpre_8 c1 ex2)
    refine ra_46 (f := (σ.2.1 46)) C hP rfl (v_convertible_2 k1 x2 hpre_7 hpre_8 c1 ex2 tx2) dX12_convertible_15 (fun x3 ex3 => ?_)
    have tx3 : x3.toInt = ((σ.2.1 46) (25 + k1.toInt).toNat).toInt := by rw [ex3, clampN, tx2]
    refine lv_istore_n (lv' := [(3, .int x3), (0, .ref (ad 0)), (1, .int k0), (2, .int k1)]) hx hb dX12_convertible_16 rfl hl (by decide) rfl (fun ls hl => ?_)
    refine lv_aload_n hx hb dX12_convertible_17 rfl (lv_at hl 1 rfl) ?_
    refine rg_51 C hP wm_205 dX12_convertible_18 ?_
    refine lv_iload_n hx hb dX12_convertible_21 rfl (lv_at hl 2 rfl) ?_
    refine ra_51 (f := (σ.2.1 51)) C hP rfl (v_convertible_3 σ k0 hpre_1 hpre_2 hpre_3 hpre_4 hpre_5 hpre_6) dX12_convertible_22 (fun x4 ex4 => ?_)
    have tx4 : x4.toInt = ((σ.2.1 51) k0.toNatClampNeg).toInt := by rw [ex4]
    refine lv_bipush (v := 8) hx hb dX12_convertible_23 (by decide +kernel) ?_
    refine lv_icmp_lt (tgt := 85) hx hb dX12_convertible_25 (by decide) (fun c5 => ?_) (fun c5 => ?_)
    · have c5 : x4.toInt < 8 := by have h := z_lt c5; rw [show (8 : Int32).toInt = 8 from by decide +kernel] at h; exact h
      refine lv_iload_n hx hb dX12_convertible_85 rfl (lv_at hl 0 rfl) ?_
      refine lv_if_ne (tgt := 116) hx hb dX12_convertible_86 (by decide) (fun c6 => ?_) (fun c6 => ?_)
      · have c6 : ¬ x3.toInt = 0 := by have h := z_ne c6; rw [show (0 : Int32).toInt = 0 from by decide +kernel] at h; exact h
        refine lv_iconst (v := 1) hx hb dX12_convertible_116 (by decide +kernel) ?_
        refine lv_goto (tgt := 121) hx hb dX12_convertible_117 (by decide) ?_
        exact r_retz C () (v_convertible_6  ) ⟨(v_convertible_4 σ k1 x2 x3 hpre_0 hpre_7 hpre_8 c1 ex2 tx2 ex3 tx3 c6), (v_convertible_5 σ k0 k1 x2 x3 x4 hpre_0 hpre_1 hpre_2 hpre_3 hpre_4 hpre_5 hpre_6 hpre_7 hpre_8 c1 ex2 tx2 ex3 tx3 ex4 tx4 c5 c6)⟩ hP hS dX12_convertible_121
      · have c6 : x3.toInt = 0 := by have h := z_eq c6; rw [show (0 : Int32).toInt = 0 from by decide +kernel] at h; exact h
        refine lv_aload_n hx hb dX12_convertible_89 rfl (lv_at hl 1 rfl) ?_
        refine rg_51 C hP wm_205 dX12_convertible_90 ?_
        refine lv_iload_n hx hb dX12_convertible_93 rfl (lv_at hl 2 rfl) ?_
        refine ra_51 (f := (σ.2.1 51)) C hP rfl (v_convertible_7 σ k0 x4 hpre_1 hpre_2 hpre_3 hpre_4 hpre_5 hpre_6 ex4 tx4 c5) dX12_convertible_94 (fun x7 ex7 => ?_)
        have tx7 : x7.toInt = ((σ.2.1 51) k0.toNatClampNeg).toInt := by rw [ex7]
        refine lv_if_eq (tgt := 120) hx hb dX12_convertible_95 (by decide) (fun c8 => ?_) (fun c8 => ?_)
        · have c8 : x7.toInt = 0 := by have h := z_eq c8; rw [show (0 : Int32).toInt = 0 from by decide +kernel] at h; exact h
          refine lv_iconst (v := 0) hx hb dX12_convertible_120 (by decide +kernel) ?_
          exact r_retz C () (v_convertible_10  ) ⟨(v_convertible_8 σ k1 x2 x3 hpre_0 hpre_7 hpre_8 c1 ex2 tx2 ex3 tx3 c6), (v_convertible_9 σ k0 k1 x2 x3 x4 x7 hpre_0 hpre_1 hpre_2 hpre_3 hpre_4 hpre_5 hpre_6 hpre_7 hpre_8 c1 ex2 tx2 ex3 tx3 ex4 tx4 c5 c6 ex7 tx7 c8)⟩ hP hS dX12_convertible_121
        · have c8 : ¬ x7.toInt = 0 := by have h := z_ne c8; rw [show (0 : Int32).toInt = 0 from by decide +kernel] at h; exact h
          refine lv_aload_n hx hb dX12_convertible_98 rfl (lv_at hl 1 rfl) ?_
          refine rg_46 C hP wm_203 dX12_convertible_99 ?_
          refine lv_iconst (v := 5) hx hb dX12_convertible_102 (by decide +kernel) ?_
          refine lv_aload_n hx hb dX12_convertible_103 rfl (lv_at hl 1 rfl) ?_
          refine rg_51 C hP wm_205 dX12_convertible_104 ?_
          refine lv_iload_n hx hb dX12_convertible_107 rfl (lv_at hl 2 rfl) ?_
          refine ra_51 (f := (σ.2.1 51)) C hP rfl (v_convertible_11 σ k0 x4 x7 hpre_1 hpre_2 hpre_3 hpre_4 hpre_5 hpre_6 ex4 tx4 c5 ex7 tx7 c8) dX12_convertible_108 (fun x9 ex9 => ?_)
          have tx9 : x9.toInt = ((σ.2.1 51) k0.toNatClampNeg).toInt := by rw [ex9]
          refine lv_imul hx hb dX12_convertible_109 ?_
          refine lv_topi (fun x10 ex10 => ?_)
          have tx10 : x10.toInt = 5 * x9.toInt := (v_convertible_12 σ k0 x4 x7 x9 x10 hpre_1 hpre_2 hpre_3 hpre_4 hpre_5 hpre_6 ex4 tx4 c5 ex7 tx7 c8 ex9 tx9 ex10)
          refine lv_iload_n hx hb dX12_convertible_110 rfl (lv_at hl 3 rfl) ?_
          refine lv_iadd hx hb dX12_convertible_111 ?_
          refine lv_topi (fun x11 ex11 => ?_)
          have tx11 : x11.toInt = x10.toInt + k1.toInt := (v_convertible_13 σ k0 k1 x2 x3 x4 x7 x9 x10 x11 hpre_0 hpre_1 hpre_2 hpre_3 hpre_4 hpre_5 hpre_6 hpre_7 hpre_8 c1 ex2 tx2 ex3 tx3 ex4 tx4 c5 c6 ex7 tx7 c8 ex9 tx9 ex10 tx10 ex11)
          refine ra_46 (f := (σ.2.1 46)) C hP rfl (v_convertible_14 σ k0 k1 x2 x3 x4 x7 x9 x10 x11 hpre_0 hpre_1 hpre_2 hpre_3 hpre_4 hpre_5 hpre_6 hpre_7 hpre_8 c1 ex2 tx2 ex3 tx3 ex4 tx4 c5 c6 ex7 tx7 c8 ex9 tx9 ex10 tx10 ex11 tx11) dX12_convertible_112 (fun x12 ex12 => ?_)
          have tx12 : x12.toInt = ((σ.2.1 46) (x10.toInt + k1.toInt).toNat).toInt := by rw [ex12, clampN, tx11]
          refine lv_if_eq (tgt := 120) hx hb dX12_convertible_113 (by decide) (fun c13 => ?_) (fun c13 => ?_)
          · have c13 : x12.toInt = 0 := by have h := z_eq c13; rw [show (0 : Int32).toInt = 0 from by decide +kernel] at h; exact h
            refine lv_iconst (v := 0) hx hb dX12_convertible_120 (by decide +kernel) ?_
            exact r_retz C () (v_convertible_10  ) ⟨(v_convertible_15 σ k0 k1 x2 x3 x4 x7 x9 x10 x11 x12 hpre_0 hpre_1 hpre_2 hpre_3 hpre_4 hpre_5 hpre_6 hpre_7 hpre_8 c1 ex2 tx2 ex3 tx3 ex4 tx4 c5 c6 ex7 tx7 c8 ex9 tx9 ex10 tx10 ex11 tx11 ex12 tx12 c13), (v_convertible_16 σ k0 k1 x2 x3 x4 x7 x9 x10 x11 x12 hpre_0 hpre_1 hpre_2 hpre_3 hpre_4 hpre_5 hpre_6 hpre_7 hpre_8 c1 ex2 tx2 ex3 tx3 ex4 tx4 c5 c6 ex7 tx7 c8 ex9 tx9 ex10 tx10 ex11 tx11 ex12 tx12 c13)⟩ hP hS dX12_convertible_121
          · have c13 : ¬ x12.toInt = 0 := by have h := z_ne c13; rw [show (0 : Int32).toInt = 0 from by decide +kernel] at h; exact h
            refine lv_iconst (v := 1) hx hb dX12_convertible_116 (by decide +kernel) ?_
            refine lv_goto (tgt := 121) hx hb dX12_convertible_117 (by decide) ?_
            exact r_retz C () (v_convertible_6  ) ⟨(v_convertible_17 σ k0 k1 x2 x3 x4 x7 x9 x10 x11 x12 hpre_0 hpre_1 hpre_2 hpre_3 hpre_4 hpre_5 hpre_6 hpre_7 hpre_8 c1 ex2 tx2 ex3 tx3 ex4 tx4 c5 c6 ex7 tx7 c8 ex9 tx9 ex10 tx10 ex11 tx11 ex12 tx12 c13), (v_convertible_18 σ k0 k1 x2 x3 x4 x7 x9 x10 x11 x12 hpre_0 hpre_1 hpre_2 hpre_3 hpre_4 hpre_5 hpre_6 hpre_7 hpre_8 c1 ex2 tx2 ex3 tx3 ex4 tx4 c5 c6 ex7 tx7 c8 ex9 tx9 ex10 tx10 ex11 tx11 ex12 tx12 c13)⟩ hP hS dX12_convertible_121
    · have c5 : 8 ≤ x4.toInt := by have h := z_nlt c5; rw [show (8 : Int32).toInt = 8 from by decide +kernel] at h; exact h
      refine lv_aload_n hx hb dX12_convertible_28 rfl (lv_at hl 1 rfl) ?_
      refine rg_51 C hP wm_205 dX12_convertible_29 ?_
      refine lv_iload_n hx hb dX12_convertible_32 rfl (lv_at hl 2 rfl) ?_
      refine ra_51 (f := (σ.2.1 51)) C hP rfl (v_convertible_19 σ k0 x4 hpre_1 hpre_2 hpre_3 hpre_4 hpre_5 hpre_6 ex4 tx4 c5) dX12_convertible_33 (fun x14 ex14 => ?_)
      have tx14 : x14.toInt = ((σ.2.1 51) k0.toNatClampNeg).toInt := by rw [ex14]
      refine lv_bipush (v := 8) hx hb dX12_convertible_34 (by decide +kernel) ?_
      refine lv_isub hx hb dX12_convertible_36 ?_
      refine lv_topi (fun x15 ex15 => ?_)
      have tx15 : x15.toInt = x14.toInt - 8 := (v_convertible_20 σ k0 x4 x14 x15 hpre_1 hpre_2 hpre_3 hpre_4 hpre_5 hpre_6 ex4 tx4 c5 ex14 tx14 ex15)
      refine lv_istore (lv' := [(4, .int x15), (3, .int x3), (0, .ref (ad 0)), (1, .int k0), (2, .int k1)]) hx hb dX12_convertible_37 hl (by decide) rfl (fun ls hl => ?_)
      exact L_convertible_39_1 l D cy sz0 sa ad sz σ k0 k1 x2 x3 x4 x14 x15 C hpre_0 hpre_1 hpre_2 hpre_3 hpre_4 hpre_5 hpre_6 hpre_7 hpre_8 c1 ex2 tx2 ex3 tx3 ex4 tx4 c5 ex14 tx14 ex15 tx15 ((x15.toInt + 1).toNat + 1) x3 x15 _ _ _ (Nat.lt_succ_self _) ⟨(v_convertible_21 σ k0 k1 x2 x3 x4 x14 x15 hpre_0 hpre_1 hpre_2 hpre_3 hpre_4 hpre_5 hpre_6 hpre_7 hpre_8 c1 ex2 tx2 ex3 tx3 ex4 tx4 c5 ex14 tx14 ex15 tx15), (v_convertible_22 σ k0 k1 x2 x3 x4 x14 x15 hpre_0 hpre_1 hpre_2 hpre_3 hpre_4 hpre_5 hpre_6 hpre_7 hpre_8 c1 ex2 tx2 ex3 tx3 ex4 tx4 c5 ex14 tx14 ex15 tx15)⟩ hP hS (lv_sub hl [0, 1, 2, 3, 4] rfl)
  · have c1 : 4 < k1.toInt := by have h := z_nle c1; rw [show (4 : Int32).toInt = 4 from by decide +kernel] at h; exact h
    refine lv_iconst (v := 0) hx hb dX12_convertible_5 (by decide +kernel) ?_
    exact r_retz C () (v_convertible_10  ) ⟨(v_convertible_42 k1 hpre_7 hpre_8 c1), (v_convertible_43 σ k0 k1 hpre_0 hpre_1 hpre_2 hpre_3 hpre_4 hpre_5 hpre_6 hpre_7 hpre_8 c1)⟩ hP hS dX12_convertible_6
