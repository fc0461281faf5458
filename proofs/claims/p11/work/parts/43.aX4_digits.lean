-- post @31
theorem vX4_peek_1 (κ : KS) (k0 : Int32) (c1 : k0.toInt < 0) : 0 ≤ (0 : Int32).toInt ∧ (0 : Int32).toInt ≤ 126 ∧ (¬ (0 : Int32).toInt = 0 → 0 ≤ k0.toInt ∧ k0.toInt < (κ.1 6).toInt) := by
  have q0 : (0 : Int32).toInt = 0 := by decide +kernel
  refine ⟨?_, ?_, ?_⟩ <;> first | assumption | omega | (subst_vars; omega) | trivial
-- post2 @31
theorem vX4_peek_2 (κ : KS) (k0 : Int32) (hpre : L9 (κ.2.2.1 9)) (c1 : k0.toInt < 0) : (κ.1 6).toInt ≤ 40 → (0 : Int32).toInt = tx (κ.2.2.1 9) (κ.1 6) k0.toInt := by
  have q0 : (0 : Int32).toInt = 0 := by decide +kernel
  intro h40
  by_cases hz : 0 ≤ k0.toInt ∧ k0.toInt < (κ.1 6).toInt
  · first
    | (exfalso; omega)
    | (rw [tx_in hz.1 hz.2, ← clampN]; first | rfl | omega | (subst_vars; rfl))
  · rw [show tx (κ.2.2.1 9) (κ.1 6) k0.toInt = 0 from if_neg hz]
    first | omega | (exfalso; omega)
-- post @31
theorem vX4_peek_3 (κ : KS) (k0 : Int32) (c1 : 0 ≤ k0.toInt) (c2 : (κ.1 6).toInt ≤ k0.toInt) : 0 ≤ (0 : Int32).toInt ∧ (0 : Int32).toInt ≤ 126 ∧ (¬ (0 : Int32).toInt = 0 → 0 ≤ k0.toInt ∧ k0.toInt < (κ.1 6).toInt) := by
  have q0 : (0 : Int32).toInt = 0 := by decide +kernel
  refine ⟨?_, ?_, ?_⟩ <;> first | assumption | omega | (subst_vars; omega) | trivial
-- post2 @31
theorem vX4_peek_4 (κ : KS) (k0 : Int32) (hpre : L9 (κ.2.2.1 9)) (c1 : 0 ≤ k0.toInt) (c2 : (κ.1 6).toInt ≤ k0.toInt) : (κ.1 6).toInt ≤ 40 → (0 : Int32).toInt = tx (κ.2.2.1 9) (κ.1 6) k0.toInt := by
  have q0 : (0 : Int32).toInt = 0 := by decide +kernel
  intro h40
  by_cases hz : 0 ≤ k0.toInt ∧ k0.toInt < (κ.1 6).toInt
  · first
    | (exfalso; omega)
    | (rw [tx_in hz.1 hz.2, ← clampN]; first | rfl | omega | (subst_vars; rfl))
  · rw [show tx (κ.2.2.1 9) (κ.1 6) k0.toInt = 0 from if_neg hz]
    first | omega | (exfalso; omega)
-- post @31
theorem vX4_peek_5 (κ : KS) (k0 : Int32) (c1 : 0 ≤ k0.toInt) (c2 : k0.toInt < (κ.1 6).toInt) (c4 : 40 ≤ k0.toInt) : 0 ≤ (0 : Int32).toInt ∧ (0 : Int32).toInt ≤ 126 ∧ (¬ (0 : Int32).toInt = 0 → 0 ≤ k0.toInt ∧ k0.toInt < (κ.1 6).toInt) := by
  have q0 : (0 : Int32).toInt = 0 := by decide +kernel
  refine ⟨?_, ?_, ?_⟩ <;> first | assumption | omega | (subst_vars; omega) | trivial
-- post2 @31
theorem vX4_peek_6 (κ : KS) (k0 : Int32) (hpre : L9 (κ.2.2.1 9)) (c1 : 0 ≤ k0.toInt) (c2 : k0.toInt < (κ.1 6).toInt) (c4 : 40 ≤ k0.toInt) : (κ.1 6).toInt ≤ 40 → (0 : Int32).toInt = tx (κ.2.2.1 9) (κ.1 6) k0.toInt := by
  have q0 : (0 : Int32).toInt = 0 := by decide +kernel
  intro h40
  by_cases hz : 0 ≤ k0.toInt ∧ k0.toInt < (κ.1 6).toInt
  · first
    | (exfalso; omega)
    | (rw [tx_in hz.1 hz.2, ← clampN]; first | rfl | omega | (subst_vars; rfl))
  · rw [show tx (κ.2.2.1 9) (κ.1 6) k0.toInt = 0 from if_neg hz]
    first | omega | (exfalso; omega)
-- in@26 @26
theorem vX4_peek_7 (κ : KS) (k0 : Int32) (c1 : 0 ≤ k0.toInt) (c2 : k0.toInt < (κ.1 6).toInt) (c4 : k0.toInt < 40) : vp_in k0 40 := by
  exact vp_in_iff.mpr ⟨by omega, by omega⟩
-- fact@26 @26
theorem vX4_peek_8 (κ : KS) (k0 : Int32) (x5 : Int32) (hpre : L9 (κ.2.2.1 9)) (c1 : 0 ≤ k0.toInt) (c2 : k0.toInt < (κ.1 6).toInt) (c4 : k0.toInt < 40) (ex5 : x5 = (κ.2.2.1 9) k0.toNatClampNeg) : 0 ≤ x5.toInt ∧ x5.toInt ≤ 126 := by
  first | (rw [ex5]; exact hpre_0 _) | (rw [ex5]; exact hpre _)
-- post @31
theorem vX4_peek_9 (κ : KS) (k0 : Int32) (x5 : Int32) (hpre : L9 (κ.2.2.1 9)) (c1 : 0 ≤ k0.toInt) (c2 : k0.toInt < (κ.1 6).toInt) (c4 : k0.toInt < 40) (ex5 : x5 = (κ.2.2.1 9) k0.toNatClampNeg) (fx5_0 : 0 ≤ x5.toInt) (fx5_1 : x5.toInt ≤ 126) : 0 ≤ x5.toInt ∧ x5.toInt ≤ 126 ∧ (¬ x5.toInt = 0 → 0 ≤ k0.toInt ∧ k0.toInt < (κ.1 6).toInt) := by
  refine ⟨?_, ?_, ?_⟩ <;> first | assumption | omega | (subst_vars; omega) | trivial
-- post2 @31
theorem vX4_peek_10 (κ : KS) (k0 : Int32) (x5 : Int32) (hpre : L9 (κ.2.2.1 9)) (c1 : 0 ≤ k0.toInt) (c2 : k0.toInt < (κ.1 6).toInt) (c4 : k0.toInt < 40) (ex5 : x5 = (κ.2.2.1 9) k0.toNatClampNeg) (fx5_0 : 0 ≤ x5.toInt) (fx5_1 : x5.toInt ≤ 126) : (κ.1 6).toInt ≤ 40 → x5.toInt = tx (κ.2.2.1 9) (κ.1 6) k0.toInt := by
  intro h40
  by_cases hz : 0 ≤ k0.toInt ∧ k0.toInt < (κ.1 6).toInt
  · first
    | (exfalso; omega)
    | (rw [tx_in hz.1 hz.2, ← clampN]; first | rfl | omega | (subst_vars; rfl))
  · rw [show tx (κ.2.2.1 9) (κ.1 6) k0.toInt = 0 from if_neg hz]
    first | omega | (exfalso; omega)
-- narc @31
theorem vX4_peek_11 (κ : KS) (k0 : Int32) (x5 : Int32) (hpre : L9 (κ.2.2.1 9)) (c1 : 0 ≤ k0.toInt) (c2 : k0.toInt < (κ.1 6).toInt) (c4 : k0.toInt < 40) (ex5 : x5 = (κ.2.2.1 9) k0.toNatClampNeg) (fx5_0 : 0 ≤ x5.toInt) (fx5_1 : x5.toInt ≤ 126) : narrow .char (.int x5) = .int x5 := by
  exact narc ⟨by omega, by omega⟩
set_option maxHeartbeats 4000000 in
set_option maxRecDepth 100000 in
theorem NX4_peek (l : Launch) (D : va_G) (cy : Nat → ClassId) (ad : Nat → Nat) (A : Nat → Prop) (sz0 : Nat) (sa : Nat → Nat)  (κ : KS) (sz sl : Nat) (hAF : ∀ q, A q → Fr sz0 q) (hAn : ∀ q : Nat, sz ≤ q → A q) (k0 : Int32) (hpre : L9 (κ.2.2.1 9)) : Met l yX4_peek (Cond.code yX4_peek cX4_peek 2 (some .char) :: GWc) ({ frames := 0, cells := 0, slots := 0, locals := 0 }) (PcC D cy ad A sz0 sa [.ref (ad 2), .int k0] κ sz sl) (va_Qi (fun (r : Int32) (u : Unit) => ((0 ≤ r.toInt ∧ r.toInt ≤ 126 ∧ (¬ r.toInt = 0 → 0 ≤ k0.toInt ∧ k0.toInt < (κ.1 6).toInt))) ∧ ((κ.1 6).toInt ≤ 40 → r.toInt = tx (κ.2.2.1 9) (κ.1 6) k0.toInt)) (fun (u : Unit) (t : State) => Bx D cy ad A sz sl κ (0) (0) t) A) (0) (0) A := by
  refine CM_of (loc0 := [(0, .ref (ad 2)), (1, .int k0)]) (own := RX4) (nm := "peek") (by decide) rfl rfl rfl (Nat.le_of_ble_eq_true rfl) hAF hAn ?_
  intro p e s m below meth c ls hsz hsl C hP hS hl
  refine lv_iload_n C.x C.b dX4_peek_0 rfl (lv_at hl 1 rfl) ?_
  refine lv_if_lt (tgt := 30) C.x C.b dX4_peek_1 (by decide) (fun c1 => ?_) (fun c1 => ?_)
  · have c1 : k0.toInt < 0 := by have h := z_lt c1; rw [show (0 : Int32).toInt = 0 from by decide +kernel] at h; exact h
    refine lv_iconst (v := 0) C.x C.b dX4_peek_30 (by decide +kernel) ?_
    exact c_retz (ty := .char) (hv := rfl) C hsz hsl () ⟨(vX4_peek_1 κ k0 c1), (vX4_peek_2 κ k0 hpre c1)⟩ hP hS ⟨(Nat.le_of_ble_eq_true rfl), (Nat.le_of_ble_eq_true rfl)⟩ ⟨(Nat.le_of_ble_eq_true rfl), (Nat.le_of_ble_eq_true rfl)⟩ dX4_peek_31
  · have c1 : 0 ≤ k0.toInt := by have h := z_nlt c1; rw [show (0 : Int32).toInt = 0 from by decide +kernel] at h; exact h
    refine lv_iload_n C.x C.b dX4_peek_4 rfl (lv_at hl 1 rfl) ?_
    refine lv_aload_n C.x C.b dX4_peek_5 rfl (lv_at hl 0 rfl) ?_
    refine cg_X4_1 (v := (κ.1 6)) C hP rfl cw_474 dX4_peek_6 ?_
    refine lv_icmp_ge (tgt := 30) C.x C.b dX4_peek_9 (by decide) (fun c2 => ?_) (fun c2 => ?_)
    · have c2 : (κ.1 6).toInt ≤ k0.toInt := by have h := z_le c2; exact h
      refine lv_iconst (v := 0) C.x C.b dX4_peek_30 (by decide +kernel) ?_
      exact c_retz (ty := .char) (hv := rfl) C hsz hsl () ⟨(vX4_peek_3 κ k0 c1 c2), (vX4_peek_4 κ k0 hpre c1 c2)⟩ hP hS ⟨(Nat.le_of_ble_eq_true rfl), (Nat.le_of_ble_eq_true rfl)⟩ ⟨(Nat.le_of_ble_eq_true rfl), (Nat.le_of_ble_eq_true rfl)⟩ dX4_peek_31
    · have c2 : k0.toInt < (κ.1 6).toInt := by have h := z_nle c2; exact h
      refine lv_iload_n C.x C.b dX4_peek_12 rfl (lv_at hl 1 rfl) ?_
      refine lv_aload_n C.x C.b dX4_peek_13 rfl (lv_at hl 0 rfl) ?_
      refine cg_X4_0 C hP cw_463 dX4_peek_14 ?_
      refine cl_9 C hP dX4_peek_17 ?_
      refine lv_icmp_ge (tgt := 30) C.x C.b dX4_peek_18 (by decide) (fun c4 => ?_) (fun c4 => ?_)
      · have c4 : 40 ≤ k0.toInt := by have h := z_le c4; rw [show (40 : Int32).toInt = 40 from by decide +kernel] at h; exact h
        refine lv_iconst (v := 0) C.x C.b dX4_peek_30 (by decide +kernel) ?_
        exact c_retz (ty := .char) (hv := rfl) C hsz hsl () ⟨(vX4_peek_5 κ k0 c1 c2 c4), (vX4_peek_6 κ k0 hpre c1 c2 c4)⟩ hP hS ⟨(Nat.le_of_ble_eq_true rfl), (Nat.le_of_ble_eq_true rfl)⟩ ⟨(Nat.le_of_ble_eq_true rfl), (Nat.le_of_ble_eq_true rfl)⟩ dX4_peek_31
      · have c4 : k0.toInt < 40 := by have h := z_nle c4; rw [show (40 : Int32).toInt = 40 from by decide +kernel] at h; exact h
        refine lv_aload_n C.x C.b dX4_peek_21 rfl (lv_at hl 0 rfl) ?_
        refine cg_X4_0 C hP cw_463 dX4_peek_22 ?_
        refine lv_iload_n C.x C.b dX4_peek_25 rfl (lv_at hl 1 rfl) ?_
        refine ca_9 (f := (κ.2.2.1 9)) C hP rfl (vX4_peek_7 κ k0 c1 c2 c4) dX4_peek_26 (fun x5 ex5 => ?_)
        have fx5 : 0 ≤ x5.toInt ∧ x5.toInt ≤ 126 := (vX4_peek_8 κ k0 x5 hpre c1 c2 c4 ex5)
        obtain ⟨fx5_0, fx5_1⟩ := fx5
        refine lv_goto (tgt := 31) C.x C.b dX4_peek_27 (by decide) ?_
        exact c_retz (ty := .char) (hv := (vX4_peek_11 κ k0 x5 hpre c1 c2 c4 ex5 fx5_0 fx5_1)) C hsz hsl () ⟨(vX4_peek_9 κ k0 x5 hpre c1 c2 c4 ex5 fx5_0 fx5_1), (vX4_peek_10 κ k0 x5 hpre c1 c2 c4 ex5 fx5_0 fx5_1)⟩ hP hS ⟨(Nat.le_of_ble_eq_true rfl), (Nat.le_of_ble_eq_true rfl)⟩ ⟨(Nat.le_of_ble_eq_true rfl), (Nat.le_of_ble_eq_true rfl)⟩ dX4_peek_31

-- post @31
theorem vX4_kindAt_1 (κ : KS) (k0 : Int32) (c1 : k0.toInt < 0) : (¬ (0 : Int32).toInt = 0 → 0 ≤ k0.toInt ∧ k0.toInt < (κ.1 7).toInt) := by
  have q0 : (0 : Int32).toInt = 0 := by decide +kernel
  first | assumption | omega | (subst_vars; omega) | trivial
-- post2 @31
theorem vX4_kindAt_2 (κ : KS) (k0 : Int32) (c1 : k0.toInt < 0) : (κ.1 7).toInt ≤ 41 → (0 : Int32).toInt = cT (κ.2.2.1 10) (κ.1 7) k0.toInt := by
  have q0 : (0 : Int32).toInt = 0 := by decide +kernel
  intro h41
  by_cases hz : 0 ≤ k0.toInt ∧ k0.toInt < (κ.1 7).toInt
  · first
    | (exfalso; omega)
    | (unfold cT; rw [if_pos hz, ← clampN]; first | rfl | omega | (subst_vars; rfl))
  · rw [show cT (κ.2.2.1 10) (κ.1 7) k0.toInt = 0 from if_neg hz]
    first | omega | (exfalso; omega)
-- post @31
theorem vX4_kindAt_3 (κ : KS) (k0 : Int32) (c1 : 0 ≤ k0.toInt) (c2 : (κ.1 7).toInt ≤ k0.toInt) : (¬ (0 : Int32).toInt = 0 → 0 ≤ k0.toInt ∧ k0.toInt < (κ.1 7).toInt) := by
  have q0 : (0 : Int32).toInt = 0 := by decide +kernel
  first | assumption | omega | (subst_vars; omega) | trivial
-- post2 @31
theorem vX4_kindAt_4 (κ : KS) (k0 : Int32) (c1 : 0 ≤ k0.toInt) (c2 : (κ.1 7).toInt ≤ k0.toInt) : (κ.1 7).toInt ≤ 41 → (0 : Int32).toInt = cT (κ.2.2.1 10) (κ.1 7) k0.toInt := by
  have q0 : (0 : Int32).toInt = 0 := by decide +kernel
  intro h41
  by_cases hz : 0 ≤ k0.toInt ∧ k0.toInt < (κ.1 7).toInt
  · first
    | (exfalso; omega)
    | (unfold cT; rw [if_pos hz, ← clampN]; first | rfl | omega | (subst_vars; rfl))
  · rw [show cT (κ.2.2.1 10) (κ.1 7) k0.toInt = 0 from if_neg hz]
    first | omega | (exfalso; omega)
-- post @31
theorem vX4_kindAt_5 (κ : KS) (k0 : Int32) (c1 : 0 ≤ k0.toInt) (c2 : k0.toInt < (κ.1 7).toInt) (c4 : 41 ≤ k0.toInt) : (¬ (0 : Int32).toInt = 0 → 0 ≤ k0.toInt ∧ k0.toInt < (κ.1 7).toInt) := by
  have q0 : (0 : Int32).toInt = 0 := by decide +kernel
  first | assumption | omega | (subst_vars; omega) | trivial
-- post2 @31
theorem vX4_kindAt_6 (κ : KS) (k0 : Int32) (c1 : 0 ≤ k0.toInt) (c2 : k0.toInt < (κ.1 7).toInt) (c4 : 41 ≤ k0.toInt) : (κ.1 7).toInt ≤ 41 → (0 : Int32).toInt = cT (κ.2.2.1 10) (κ.1 7) k0.toInt := by
  have q0 : (0 : Int32).toInt = 0 := by decide +kernel
  intro h41
  by_cases hz : 0 ≤ k0.toInt ∧ k0.toInt < (κ.1 7).toInt
  · first
    | (exfalso; omega)
    | (unfold cT; rw [if_pos hz, ← clampN]; first | rfl | omega | (subst_vars; rfl))
  · rw [show cT (κ.2.2.1 10) (κ.1 7) k0.toInt = 0 from if_neg hz]
    first | omega | (exfalso; omega)
-- in@26 @26
theorem vX4_kindAt_7 (κ : KS) (k0 : Int32) (c1 : 0 ≤ k0.toInt) (c2 : k0.toInt < (κ.1 7).toInt) (c4 : k0.toInt < 41) : vp_in k0 41 := by
  exact vp_in_iff.mpr ⟨by omega, by omega⟩
-- post @31
theorem vX4_kindAt_8 (κ : KS) (k0 : Int32) (x5 : Int32) (c1 : 0 ≤ k0.toInt) (c2 : k0.toInt < (κ.1 7).toInt) (c4 : k0.toInt < 41) (ex5 : x5 = (κ.2.2.1 10) k0.toNatClampNeg) : (¬ x5.toInt = 0 → 0 ≤ k0.toInt ∧ k0.toInt < (κ.1 7).toInt) := by
  first | assumption | omega | (subst_vars; omega) | trivial
-- post2 @31
theorem vX4_kindAt_9 (κ : KS) (k0 : Int32) (x5 : Int32) (c1 : 0 ≤ k0.toInt) (c2 : k0.toInt < (κ.1 7).toInt) (c4 : k0.toInt < 41) (ex5 : x5 = (κ.2.2.1 10) k0.toNatClampNeg) : (κ.1 7).toInt ≤ 41 → x5.toInt = cT (κ.2.2.1 10) (κ.1 7) k0.toInt := by
  intro h41
  by_cases hz : 0 ≤ k0.toInt ∧ k0.toInt < (κ.1 7).toInt
  · first
    | (exfalso; omega)
    | (unfold cT; rw [if_pos hz, ← clampN]; first | rfl | omega | (subst_vars; rfl))
  · rw [show cT (κ.2.2.1 10) (κ.1 7) k0.toInt = 0 from if_neg hz]
    first | omega | (exfalso; omega)
set_option maxHeartbeats 4000000 in
set_option maxRecDepth 100000 in
theorem NX4_kindAt (l : Launch) (D : va_G) (cy : Nat → ClassId) (ad : Nat → Nat) (A : Nat → Prop) (sz0 : Nat) (sa : Nat → Nat)  (κ : KS) (sz sl : Nat) (hAF : ∀ q, A q → Fr sz0 q) (hAn : ∀ q : Nat, sz ≤ q → A q) (k0 : Int32)  : Met l yX4_kindAt (Cond.code yX4_kindAt cX4_kindAt 2 (some .int) :: GWc) ({ frames := 0, cells := 0, slots := 0, locals := 0 }) (PcC D cy ad A sz0 sa [.ref (ad 2), .int k0] κ sz sl) (va_Qi (fun (r : Int32) (u : Unit) => (((¬ r.toInt = 0 → 0 ≤ k0.toInt ∧ k0.toInt < (κ.1 7).toInt))) ∧ ((κ.1 7).toInt ≤ 41 → r.toInt = cT (κ.2.2.1 10) (κ.1 7) k0.toInt)) (fun (u : Unit) (t : State) => Bx D cy ad A sz sl κ (0) (0) t) A) (0) (0) A := by
  refine CM_of (loc0 := [(0, .ref (ad 2)), (1, .int k0)]) (own := RX4) (nm := "kindAt") (by decide) rfl rfl rfl (Nat.le_of_ble_eq_true rfl) hAF hAn ?_
  intro p e s m below meth c ls hsz hsl C hP hS hl
  refine lv_iload_n C.x C.b dX4_kindAt_0 rfl (lv_at hl 1 rfl) ?_
  refine lv_if_lt (tgt := 30) C.x C.b dX4_kindAt_1 (by decide) (fun c1 => ?_) (fun c1 => ?_)
  · have c1 : k0.toInt < 0 := by have h := z_lt c1; rw [show (0 : Int32).toInt = 0 from by decide +kernel] at h; exact h
    refine lv_iconst (v := 0) C.x C.b dX4_kindAt_30 (by decide +kernel) ?_
    exact c_reti C hsz hsl () ⟨(vX4_kindAt_1 κ k0 c1), (vX4_kindAt_2 κ k0 c1)⟩ hP hS ⟨(Nat.le_of_ble_eq_true rfl), (Nat.le_of_ble_eq_true rfl)⟩ ⟨(Nat.le_of_ble_eq_true rfl), (Nat.le_of_ble_eq_true rfl)⟩ dX4_kindAt_31
  · have c1 : 0 ≤ k0.toInt := by have h := z_nlt c1; rw [show (0 : Int32).toInt = 0 from by decide +kernel] at h; exact h
    refine lv_iload_n C.x C.b dX4_kindAt_4 rfl (lv_at hl 1 rfl) ?_
    refine lv_aload_n C.x C.b dX4_kindAt_5 rfl (lv_at hl 0 rfl) ?_
    refine cg_X4_6 (v := (κ.1 7)) C hP rfl cw_476 dX4_kindAt_6 ?_
    refine lv_icmp_ge (tgt := 30) C.x C.b dX4_kindAt_9 (by decide) (fun c2 => ?_) (fun c2 => ?_)
    · have c2 : (κ.1 7).toInt ≤ k0.toInt := by have h := z_le c2; exact h
      refine lv_iconst (v := 0) C.x C.b dX4_kindAt_30 (by decide +kernel) ?_
      exact c_reti C hsz hsl () ⟨(vX4_kindAt_3 κ k0 c1 c2), (vX4_kindAt_4 κ k0 c1 c2)⟩ hP hS ⟨(Nat.le_of_ble_eq_true rfl), (Nat.le_of_ble_eq_true rfl)⟩ ⟨(Nat.le_of_ble_eq_true rfl), (Nat.le_of_ble_eq_true rfl)⟩ dX4_kindAt_31
    · have c2 : k0.toInt < (κ.1 7).toInt := by have h := z_nle c2; exact h
      refine lv_iload_n C.x C.b dX4_kindAt_12 rfl (lv_at hl 1 rfl) ?_
      refine lv_aload_n C.x C.b dX4_kindAt_13 rfl (lv_at hl 0 rfl) ?_
      refine cg_X4_2 C hP cw_465 dX4_kindAt_14 ?_
      refine cl_10 C hP dX4_kindAt_17 ?_
      refine lv_icmp_ge (tgt := 30) C.x C.b dX4_kindAt_18 (by decide) (fun c4 => ?_) (fun c4 => ?_)
      · have c4 : 41 ≤ k0.toInt := by have h := z_le c4; rw [show (41 : Int32).toInt = 41 from by decide +kernel] at h; exact h
        refine lv_iconst (v := 0) C.x C.b dX4_kindAt_30 (by decide +kernel) ?_
        exact c_reti C hsz hsl () ⟨(vX4_kindAt_5 κ k0 c1 c2 c4), (vX4_kindAt_6 κ k0 c1 c2 c4)⟩ hP hS ⟨(Nat.le_of_ble_eq_true rfl), (Nat.le_of_ble_eq_true rfl)⟩ ⟨(Nat.le_of_ble_eq_true rfl), (Nat.le_of_ble_eq_true rfl)⟩ dX4_kindAt_31
      · have c4 : k0.toInt < 41 := by have h := z_nle c4; rw [show (41 : Int32).toInt = 41 from by decide +kernel] at h; exact h
        refine lv_aload_n C.x C.b dX4_kindAt_21 rfl (lv_at hl 0 rfl) ?_
        refine cg_X4_2 C hP cw_465 dX4_kindAt_22 ?_
        refine lv_iload_n C.x C.b dX4_kindAt_25 rfl (lv_at hl 1 rfl) ?_
        refine ca_10 (f := (κ.2.2.1 10)) C hP rfl (vX4_kindAt_7 κ k0 c1 c2 c4) dX4_kindAt_26 (fun x5 ex5 => ?_)
        refine lv_goto (tgt := 31) C.x C.b dX4_kindAt_27 (by decide) ?_
        exact c_reti C hsz hsl () ⟨(vX4_kindAt_8 κ k0 x5 c1 c2 c4 ex5), (vX4_kindAt_9 κ k0 x5 c1 c2 c4 ex5)⟩ hP hS ⟨(Nat.le_of_ble_eq_true rfl), (Nat.le_of_ble_eq_true rfl)⟩ ⟨(Nat.le_of_ble_eq_true rfl), (Nat.le_of_ble_eq_true rfl)⟩ dX4_kindAt_31

-- post2 @31
theorem vX4_placeAt_1 (κ : KS) (k0 : Int32) (c1 : k0.toInt < 0) : (κ.1 7).toInt ≤ 41 → (0 : Int32).toInt = cT (κ.2.2.1 11) (κ.1 7) k0.toInt := by
  have q0 : (0 : Int32).toInt = 0 := by decide +kernel
  intro h41
  by_cases hz : 0 ≤ k0.toInt ∧ k0.toInt < (κ.1 7).toInt
  · first
    | (exfalso; omega)
    | (unfold cT; rw [if_pos hz, ← clampN]; first | rfl | omega | (subst_vars; rfl))
  · rw [show cT (κ.2.2.1 11) (κ.1 7) k0.toInt = 0 from if_neg hz]
    first | omega | (exfalso; omega)
-- post2 @31
theorem vX4_placeAt_2 (κ : KS) (k0 : Int32) (c1 : 0 ≤ k0.toInt) (c2 : (κ.1 7).toInt ≤ k0.toInt) : (κ.1 7).toInt ≤ 41 → (0 : Int32).toInt = cT (κ.2.2.1 11) (κ.1 7) k0.toInt := by
  have q0 : (0 : Int32).toInt = 0 := by decide +kernel
  intro h41
  by_cases hz : 0 ≤ k0.toInt ∧ k0.toInt < (κ.1 7).toInt
  · first
    | (exfalso; omega)
    | (unfold cT; rw [if_pos hz, ← clampN]; first | rfl | omega | (subst_vars; rfl))
  · rw [show cT (κ.2.2.1 11) (κ.1 7) k0.toInt = 0 from if_neg hz]
    first | omega | (exfalso; omega)
-- post2 @31
theorem vX4_placeAt_3 (κ : KS) (k0 : Int32) (c1 : 0 ≤ k0.toInt) (c2 : k0.toInt < (κ.1 7).toInt) (c4 : 41 ≤ k0.toInt) : (κ.1 7).toInt ≤ 41 → (0 : Int32).toInt = cT (κ.2.2.1 11) (κ.1 7) k0.toInt := by
  have q0 : (0 : Int32).toInt = 0 := by decide +kernel
  intro h41
  by_cases hz : 0 ≤ k0.toInt ∧ k0.toInt < (κ.1 7).toInt
  · first
    | (exfalso; omega)
    | (unfold cT; rw [if_pos hz, ← clampN]; first | rfl | omega | (subst_vars; rfl))
  · rw [show cT (κ.2.2.1 11) (κ.1 7) k0.toInt = 0 from if_neg hz]
    first | omega | (exfalso; omega)
-- in@26 @26
theorem vX4_placeAt_4 (κ : KS) (k0 : Int32) (c1 : 0 ≤ k0.toInt) (c2 : k0.toInt < (κ.1 7).toInt) (c4 : k0.toInt < 41) : vp_in k0 41 := by
  exact vp_in_iff.mpr ⟨by omega, by omega⟩
-- post2 @31
theorem vX4_placeAt_5 (κ : KS) (k0 : Int32) (x5 : Int32) (c1 : 0 ≤ k0.toInt) (c2 : k0.toInt < (κ.1 7).toInt) (c4 : k0.toInt < 41) (ex5 : x5 = (κ.2.2.1 11) k0.toNatClampNeg) : (κ.1 7).toInt ≤ 41 → x5.toInt = cT (κ.2.2.1 11) (κ.1 7) k0.toInt := by
  intro h41
  by_cases hz : 0 ≤ k0.toInt ∧ k0.toInt < (κ.1 7).toInt
  · first
    | (exfalso; omega)
    | (unfold cT; rw [if_pos hz, ← clampN]; first | rfl | omega | (subst_vars; rfl))
  · rw [show cT (κ.2.2.1 11) (κ.1 7) k0.toInt = 0 from if_neg hz]
    first | omega | (exfalso; omega)
set_option maxHeartbeats 4000000 in
set_option maxRecDepth 100000 in
theorem NX4_placeAt (l : Launch) (D : va_G) (cy : Nat → ClassId) (ad : Nat → Nat) (A : Nat → Prop) (sz0 : Nat) (sa : Nat → Nat)  (κ : KS) (sz sl : Nat) (hAF : ∀ q, A q → Fr sz0 q) (hAn : ∀ q : Nat, sz ≤ q → A q) (k0 : Int32)  : Met l yX4_placeAt (Cond.code yX4_placeAt cX4_placeAt 2 (some .int) :: GWc) ({ frames := 0, cells := 0, slots := 0, locals := 0 }) (PcC D cy ad A sz0 sa [.ref (ad 2), .int k0] κ sz sl) (va_Qi (fun (r : Int32) (u : Unit) => (True) ∧ ((κ.1 7).toInt ≤ 41 → r.toInt = cT (κ.2.2.1 11) (κ.1 7) k0.toInt)) (fun (u : Unit) (t : State) => Bx D cy ad A sz sl κ (0) (0) t) A) (0) (0) A := by
  refine CM_of (loc0 := [(0, .ref (ad 2)), (1, .int k0)]) (own := RX4) (nm := "placeAt") (by decide) rfl rfl rfl (Nat.le_of_ble_eq_true rfl) hAF hAn ?_
  intro p e s m below meth c ls hsz hsl C hP hS hl
  refine lv_iload_n C.x C.b dX4_placeAt_0 rfl (lv_at hl 1 rfl) ?_
  refine lv_if_lt (tgt := 30) C.x C.b dX4_placeAt_1 (by decide) (fun c1 => ?_) (fun c1 => ?_)
  · have c1 : k0.toInt < 0 := by have h := z_lt c1; rw [show (0 : Int32).toInt = 0 from by decide +kernel] at h; exact h
    refine lv_iconst (v := 0) C.x C.b dX4_placeAt_30 (by decide +kernel) ?_
    exact c_reti C hsz hsl () ⟨trivial, (vX4_placeAt_1 κ k0 c1)⟩ hP hS ⟨(Nat.le_of_ble_eq_true rfl), (Nat.le_of_ble_eq_true rfl)⟩ ⟨(Nat.le_of_ble_eq_true rfl), (Nat.le_of_ble_eq_true rfl)⟩ dX4_placeAt_31
  · have c1 : 0 ≤ k0.toInt := by have h := z_nlt c1; rw [show (0 : Int32).toInt = 0 from by decide +kernel] at h; exact h
    refine lv_iload_n C.x C.b dX4_placeAt_4 rfl (lv_at hl 1 rfl) ?_
    refine lv_aload_n C.x C.b dX4_placeAt_5 rfl (lv_at hl 0 rfl) ?_
    refine cg_X4_6 (v := (κ.1 7)) C hP rfl cw_476 dX4_placeAt_6 ?_
    refine lv_icmp_ge (tgt := 30) C.x C.b dX4_placeAt_9 (by decide) (fun c2 => ?_) (fun c2 => ?_)
    · have c2 : (κ.1 7).toInt ≤ k0.toInt := by have h := z_le c2; exact h
      refine lv_iconst (v := 0) C.x C.b dX4_placeAt_30 (by decide +kernel) ?_
      exact c_reti C hsz hsl () ⟨trivial, (vX4_placeAt_2 κ k0 c1 c2)⟩ hP hS ⟨(Nat.le_of_ble_eq_true rfl), (Nat.le_of_ble_eq_true rfl)⟩ ⟨(Nat.le_of_ble_eq_true rfl), (Nat.le_of_ble_eq_true rfl)⟩ dX4_placeAt_31
    · have c2 : k0.toInt < (κ.1 7).toInt := by have h := z_nle c2; exact h
      refine lv_iload_n C.x C.b dX4_placeAt_12 rfl (lv_at hl 1 rfl) ?_
      refine lv_aload_n C.x C.b dX4_placeAt_13 rfl (lv_at hl 0 rfl) ?_
      refine cg_X4_3 C hP cw_466 dX4_placeAt_14 ?_
      refine cl_11 C hP dX4_placeAt_17 ?_
      refine lv_icmp_ge (tgt := 30) C.x C.b dX4_placeAt_18 (by decide) (fun c4 => ?_) (fun c4 => ?_)
      · have c4 : 41 ≤ k0.toInt := by have h := z_le c4; rw [show (41 : Int32).toInt = 41 from by decide +kernel] at h; exact h
        refine lv_iconst (v := 0) C.x C.b dX4_placeAt_30 (by decide +kernel) ?_
        exact c_reti C hsz hsl () ⟨trivial, (vX4_placeAt_3 κ k0 c1 c2 c4)⟩ hP hS ⟨(Nat.le_of_ble_eq_true rfl), (Nat.le_of_ble_eq_true rfl)⟩ ⟨(Nat.le_of_ble_eq_true rfl), (Nat.le_of_ble_eq_true rfl)⟩ dX4_placeAt_31
      · have c4 : k0.toInt < 41 := by have h := z_nle c4; rw [show (41 : Int32).toInt = 41 from by decide +kernel] at h; exact h
        refine lv_aload_n C.x C.b dX4_placeAt_21 rfl (lv_at hl 0 rfl) ?_
        refine cg_X4_3 C hP cw_466 dX4_placeAt_22 ?_
        refine lv_iload_n C.x C.b dX4_placeAt_25 rfl (lv_at hl 1 rfl) ?_
        refine ca_11 (f := (κ.2.2.1 11)) C hP rfl (vX4_placeAt_4 κ k0 c1 c2 c4) dX4_placeAt_26 (fun x5 ex5 => ?_)
        refine lv_goto (tgt := 31) C.x C.b dX4_placeAt_27 (by decide) ?_
        exact c_reti C hsz hsl () ⟨trivial, (vX4_placeAt_5 κ k0 x5 c1 c2 c4 ex5)⟩ hP hS ⟨(Nat.le_of_ble_eq_true rfl), (Nat.le_of_ble_eq_true rfl)⟩ ⟨(Nat.le_of_ble_eq_true rfl), (Nat.le_of_ble_eq_true rfl)⟩ dX4_placeAt_31

-- post2 @31
theorem vX4_nameAt_1 (κ : KS) (k0 : Int32) (c1 : k0.toInt < 0) : (κ.1 7).toInt ≤ 41 → (0 : Int32).toInt = cT (κ.2.2.1 12) (κ.1 7) k0.toInt := by
  have q0 : (0 : Int32).toInt = 0 := by decide +kernel
  intro h41
  by_cases hz : 0 ≤ k0.toInt ∧ k0.toInt < (κ.1 7).toInt
  · first
    | (exfalso; omega)
    | (unfold cT; rw [if_pos hz, ← clampN]; first | rfl | omega | (subst_vars; rfl))
  · rw [show cT (κ.2.2.1 12) (κ.1 7) k0.toInt = 0 from if_neg hz]
    first | omega | (exfalso; omega)
-- post2 @31
theorem vX4_nameAt_2 (κ : KS) (k0 : Int32) (c1 : 0 ≤ k0.toInt) (c2 : (κ.1 7).toInt ≤ k0.toInt) : (κ.1 7).toInt ≤ 41 → (0 : Int32).toInt = cT (κ.2.2.1 12) (κ.1 7) k0.toInt := by
  have q0 : (0 : Int32).toInt = 0 := by decide +kernel
  intro h41
  by_cases hz : 0 ≤ k0.toInt ∧ k0.toInt < (κ.1 7).toInt
  · first
    | (exfalso; omega)
    | (unfold cT; rw [if_pos hz, ← clampN]; first | rfl | omega | (subst_vars; rfl))
  · rw [show cT (κ.2.2.1 12) (κ.1 7) k0.toInt = 0 from if_neg hz]
    first | omega | (exfalso; omega)
-- post2 @31
theorem vX4_nameAt_3 (κ : KS) (k0 : Int32) (c1 : 0 ≤ k0.toInt) (c2 : k0.toInt < (κ.1 7).toInt) (c4 : 41 ≤ k0.toInt) : (κ.1 7).toInt ≤ 41 → (0 : Int32).toInt = cT (κ.2.2.1 12) (κ.1 7) k0.toInt := by
  have q0 : (0 : Int32).toInt = 0 := by decide +kernel
  intro h41
  by_cases hz : 0 ≤ k0.toInt ∧ k0.toInt < (κ.1 7).toInt
  · first
    | (exfalso; omega)
    | (unfold cT; rw [if_pos hz, ← clampN]; first | rfl | omega | (subst_vars; rfl))
  · rw [show cT (κ.2.2.1 12) (κ.1 7) k0.toInt = 0 from if_neg hz]
    first | omega | (exfalso; omega)
-- in@26 @26
theorem vX4_nameAt_4 (κ : KS) (k0 : Int32) (c1 : 0 ≤ k0.toInt) (c2 : k0.toInt < (κ.1 7).toInt) (c4 : k0.toInt < 41) : vp_in k0 41 := by
  exact vp_in_iff.mpr ⟨by omega, by omega⟩
-- post2 @31
theorem vX4_nameAt_5 (κ : KS) (k0 : Int32) (x5 : Int32) (c1 : 0 ≤ k0.toInt) (c2 : k0.toInt < (κ.1 7).toInt) (c4 : k0.toInt < 41) (ex5 : x5 = (κ.2.2.1 12) k0.toNatClampNeg) : (κ.1 7).toInt ≤ 41 → x5.toInt = cT (κ.2.2.1 12) (κ.1 7) k0.toInt := by
  intro h41
  by_cases hz : 0 ≤ k0.toInt ∧ k0.toInt < (κ.1 7).toInt
  · first
    | (exfalso; omega)
    | (unfold cT; rw [if_pos hz, ← clampN]; first | rfl | omega | (subst_vars; rfl))
  · rw [show cT (κ.2.2.1 12) (κ.1 7) k0.toInt = 0 from if_neg hz]
    first | omega | (exfalso; omega)
set_option maxHeartbeats 4000000 in
set_option maxRecDepth 100000 in
theorem NX4_nameAt (l : Launch) (D : va_G) (cy : Nat → ClassId) (ad : Nat → Nat) (A : Nat → Prop) (sz0 : Nat) (sa : Nat → Nat)  (κ : KS) (sz sl : Nat) (hAF : ∀ q, A q → Fr sz0 q) (hAn : ∀ q : Nat, sz ≤ q → A q) (k0 : Int32)  : Met l yX4_nameAt (Cond.code yX4_nameAt cX4_nameAt 2 (some .int) :: GWc) ({ frames := 0, cells := 0, slots := 0, locals := 0 }) (PcC D cy ad A sz0 sa [.ref (ad 2), .int k0] κ sz sl) (va_Qi (fun (r : Int32) (u : Unit) => (True) ∧ ((κ.1 7).toInt ≤ 41 → r.toInt = cT (κ.2.2.1 12) (κ.1 7) k0.toInt)) (fun (u : Unit) (t : State) => Bx D cy ad A sz sl κ (0) (0) t) A) (0) (0) A := by
  refine CM_of (loc0 := [(0, .ref (ad 2)), (1, .int k0)]) (own := RX4) (nm := "nameAt") (by decide) rfl rfl rfl (Nat.le_of_ble_eq_true rfl) hAF hAn ?_
  intro p e s m below meth c ls hsz hsl C hP hS hl
  refine lv_iload_n C.x C.b dX4_nameAt_0 rfl (lv_at hl 1 rfl) ?_
  refine lv_if_lt (tgt := 30) C.x C.b dX4_nameAt_1 (by decide) (fun c1 => ?_) (fun c1 => ?_)
  · have c1 : k0.toInt < 0 := by have h := z_lt c1; rw [show (0 : Int32).toInt = 0 from by decide +kernel] at h; exact h
    refine lv_iconst (v := 0) C.x C.b dX4_nameAt_30 (by decide +kernel) ?_
    exact c_reti C hsz hsl () ⟨trivial, (vX4_nameAt_1 κ k0 c1)⟩ hP hS ⟨(Nat.le_of_ble_eq_true rfl), (Nat.le_of_ble_eq_true rfl)⟩ ⟨(Nat.le_of_ble_eq_true rfl), (Nat.le_of_ble_eq_true rfl)⟩ dX4_nameAt_31
  · have c1 : 0 ≤ k0.toInt := by have h := z_nlt c1; rw [show (0 : Int32).toInt = 0 from by decide +kernel] at h; exact h
    refine lv_iload_n C.x C.b dX4_nameAt_4 rfl (lv_at hl 1 rfl) ?_
    refine lv_aload_n C.x C.b dX4_nameAt_5 rfl (lv_at hl 0 rfl) ?_
    refine cg_X4_6 (v := (κ.1 7)) C hP rfl cw_476 dX4_nameAt_6 ?_
    refine lv_icmp_ge (tgt := 30) C.x C.b dX4_nameAt_9 (by decide) (fun c2 => ?_) (fun c2 => ?_)
    · have c2 : (κ.1 7).toInt ≤ k0.toInt := by have h := z_le c2; exact h
      refine lv_iconst (v := 0) C.x C.b dX4_nameAt_30 (by decide +kernel) ?_
      exact c_reti C hsz hsl () ⟨trivial, (vX4_nameAt_2 κ k0 c1 c2)⟩ hP hS ⟨(Nat.le_of_ble_eq_true rfl), (Nat.le_of_ble_eq_true rfl)⟩ ⟨(Nat.le_of_ble_eq_true rfl), (Nat.le_of_ble_eq_true rfl)⟩ dX4_nameAt_31
    · have c2 : k0.toInt < (κ.1 7).toInt := by have h := z_nle c2; exact h
      refine lv_iload_n C.x C.b dX4_nameAt_12 rfl (lv_at hl 1 rfl) ?_
      refine lv_aload_n C.x C.b dX4_nameAt_13 rfl (lv_at hl 0 rfl) ?_
      refine cg_X4_4 C hP cw_467 dX4_nameAt_14 ?_
      refine cl_12 C hP dX4_nameAt_17 ?_
      refine lv_icmp_ge (tgt := 30) C.x C.b dX4_nameAt_18 (by decide) (fun c4 => ?_) (fun c4 => ?_)
      · have c4 : 41 ≤ k0.toInt := by have h := z_le c4; rw [show (41 : Int32).toInt = 41 from by decide +kernel] at h; exact h
        refine lv_iconst (v := 0) C.x C.b dX4_nameAt_30 (by decide +kernel) ?_
        exact c_reti C hsz hsl () ⟨trivial, (vX4_nameAt_3 κ k0 c1 c2 c4)⟩ hP hS ⟨(Nat.le_of_ble_eq_true rfl), (Nat.le_of_ble_eq_true rfl)⟩ ⟨(Nat.le_of_ble_eq_true rfl), (Nat.le_of_ble_eq_true rfl)⟩ dX4_nameAt_31
      · have c4 : k0.toInt < 41 := by have h := z_nle c4; rw [show (41 : Int32).toInt = 41 from by decide +kernel] at h; exact h
        refine lv_aload_n C.x C.b dX4_nameAt_21 rfl (lv_at hl 0 rfl) ?_
        refine cg_X4_4 C hP cw_467 dX4_nameAt_22 ?_
        refine lv_iload_n C.x C.b dX4_nameAt_25 rfl (lv_at hl 1 rfl) ?_
        refine ca_12 (f := (κ.2.2.1 12)) C hP rfl (vX4_nameAt_4 κ k0 c1 c2 c4) dX4_nameAt_26 (fun x5 ex5 => ?_)
        refine lv_goto (tgt := 31) C.x C.b dX4_nameAt_27 (by decide) ?_
        exact c_reti C hsz hsl () ⟨trivial, (vX4_nameAt_5 κ k0 x5 c1 c2 c4 ex5)⟩ hP hS ⟨(Nat.le_of_ble_eq_true rfl), (Nat.le_of_ble_eq_true rfl)⟩ ⟨(Nat.le_of_ble_eq_true rfl), (Nat.le_of_ble_eq_true rfl)⟩ dX4_nameAt_31

-- in@26 @26
theorem vX4_literalAt_1 (κ : KS) (k0 : Int32) (c1 : 0 ≤ k0.toInt) (c2 : k0.toInt < (κ.1 7).toInt) (c4 : k0.toInt < 41) : vp_in k0 41 := by
  exact vp_in_iff.mpr ⟨by omega, by omega⟩
set_option maxHeartbeats 4000000 in
set_option maxRecDepth 100000 in
theorem NX4_literalAt (l : Launch) (D : va_G) (cy : Nat → ClassId) (ad : Nat → Nat) (A : Nat → Prop) (sz0 : Nat) (sa : Nat → Nat)  (κ : KS) (sz sl : Nat) (hAF : ∀ q, A q → Fr sz0 q) (hAn : ∀ q : Nat, sz ≤ q → A q) (k0 : Int32) (hPV : PV sa κ.2.2.2.2) (hSV : SV ad κ.2.2.2.2 (κ.2.1 0) (κ.2.1 1) (κ.2.2.2.1 6) (κ.2.2.2.1 7) (κ.2.2.2.1 8) (κ.2.2.2.1 13) (κ.2.2.2.1 15) (κ.2.2.2.1 17) (κ.1 1).toInt) : Met l yX4_literalAt (Cond.code yX4_literalAt cX4_literalAt 2 (some (.object "PhraseDesk$Value")) :: GWc) ({ frames := 0, cells := 0, slots := 0, locals := 0 }) (PcC D cy ad A sz0 sa [.ref (ad 2), .int k0] κ sz sl) (va_Qq (fun (r : Option Nat) (u : Unit) => (NT κ.2.2.2.2 1 r)) (fun (u : Unit) (t : State) => Bx D cy ad A sz sl κ (0) (0) t) A) (0) (0) A := by
  refine CM_of (loc0 := [(0, .ref (ad 2)), (1, .int k0)]) (own := RX4) (nm := "literalAt") (by decide) rfl rfl rfl (Nat.le_of_ble_eq_true rfl) hAF hAn ?_
  intro p e s m below meth c ls hsz hsl C hP hS hl
  refine lv_iload_n C.x C.b dX4_literalAt_0 rfl (lv_at hl 1 rfl) ?_
  refine lv_if_lt (tgt := 30) C.x C.b dX4_literalAt_1 (by decide) (fun c1 => ?_) (fun c1 => ?_)
  · have c1 : k0.toInt < 0 := by have h := z_lt c1; rw [show (0 : Int32).toInt = 0 from by decide +kernel] at h; exact h
    refine lv_null C.x C.b dX4_literalAt_30 ?_
    exact c_retq (v := none) (Or.inl ⟨_, rfl⟩) C hsz hsl () nt_n hP hS ⟨(Nat.le_of_ble_eq_true rfl), (Nat.le_of_ble_eq_true rfl)⟩ ⟨(Nat.le_of_ble_eq_true rfl), (Nat.le_of_ble_eq_true rfl)⟩ dX4_literalAt_31
  · have c1 : 0 ≤ k0.toInt := by have h := z_nlt c1; rw [show (0 : Int32).toInt = 0 from by decide +kernel] at h; exact h
    refine lv_iload_n C.x C.b dX4_literalAt_4 rfl (lv_at hl 1 rfl) ?_
    refine lv_aload_n C.x C.b dX4_literalAt_5 rfl (lv_at hl 0 rfl) ?_
    refine cg_X4_6 (v := (κ.1 7)) C hP rfl cw_476 dX4_literalAt_6 ?_
    refine lv_icmp_ge (tgt := 30) C.x C.b dX4_literalAt_9 (by decide) (fun c2 => ?_) (fun c2 => ?_)
    · have c2 : (κ.1 7).toInt ≤ k0.toInt := by have h := z_le c2; exact h
      refine lv_null C.x C.b dX4_literalAt_30 ?_
      exact c_retq (v := none) (Or.inl ⟨_, rfl⟩) C hsz hsl () nt_n hP hS ⟨(Nat.le_of_ble_eq_true rfl), (Nat.le_of_ble_eq_true rfl)⟩ ⟨(Nat.le_of_ble_eq_true rfl), (Nat.le_of_ble_eq_true rfl)⟩ dX4_literalAt_31
    · have c2 : k0.toInt < (κ.1 7).toInt := by have h := z_nle c2; exact h
      refine lv_iload_n C.x C.b dX4_literalAt_12 rfl (lv_at hl 1 rfl) ?_
      refine lv_aload_n C.x C.b dX4_literalAt_13 rfl (lv_at hl 0 rfl) ?_
      refine cg_X4_5 C hP cw_469 dX4_literalAt_14 ?_
      refine cl_13 C hP dX4_literalAt_17 ?_
      refine lv_icmp_ge (tgt := 30) C.x C.b dX4_literalAt_18 (by decide) (fun c4 => ?_) (fun c4 => ?_)
      · have c4 : 41 ≤ k0.toInt := by have h := z_le c4; rw [show (41 : Int32).toInt = 41 from by decide +kernel] at h; exact h
        refine lv_null C.x C.b dX4_literalAt_30 ?_
        exact c_retq (v := none) (Or.inl ⟨_, rfl⟩) C hsz hsl () nt_n hP hS ⟨(Nat.le_of_ble_eq_true rfl), (Nat.le_of_ble_eq_true rfl)⟩ ⟨(Nat.le_of_ble_eq_true rfl), (Nat.le_of_ble_eq_true rfl)⟩ dX4_literalAt_31
      · have c4 : k0.toInt < 41 := by have h := z_nle c4; rw [show (41 : Int32).toInt = 41 from by decide +kernel] at h; exact h
        refine lv_aload_n C.x C.b dX4_literalAt_21 rfl (lv_at hl 0 rfl) ?_
        refine cg_X4_5 C hP cw_469 dX4_literalAt_22 ?_
        refine lv_iload_n C.x C.b dX4_literalAt_25 rfl (lv_at hl 1 rfl) ?_
        refine ca_13 (f := (κ.2.2.2.1 13)) C hP rfl (vX4_literalAt_1 κ k0 c1 c2 c4) dX4_literalAt_26 (fun x5 ex5 => ?_)
        have tx5 : NT κ.2.2.2.2 1 x5 := by rw [ex5]; exact hSV.n13 _
        refine lv_goto (tgt := 31) C.x C.b dX4_literalAt_27 (by decide) ?_
        exact c_retq (v := x5) (Or.inl ⟨_, rfl⟩) C hsz hsl () tx5 hP hS ⟨(Nat.le_of_ble_eq_true rfl), (Nat.le_of_ble_eq_true rfl)⟩ ⟨(Nat.le_of_ble_eq_true rfl), (Nat.le_of_ble_eq_true rfl)⟩ dX4_literalAt_31

-- retz @17
theorem vX4_isDigit_1   : 0 ≤ (0 : Int32).toInt ∧ (0 : Int32).toInt ≤ 1 := by
  have q0 : (0 : Int32).toInt = 0 := by decide +kernel
  refine ⟨?_, ?_⟩ <;> first | assumption | omega | (subst_vars; omega) | trivial
-- post2 @17
theorem vX4_isDigit_2 (k0 : Int32) (c1 : k0.toInt < 48) : (¬ (0 : Int32).toInt = 0 → dg k0.toInt) ∧ ((0 : Int32).toInt = 0 → ¬ dg k0.toInt) := by
  have q0 : (0 : Int32).toInt = 0 := by decide +kernel
  constructor <;> intro h9 <;> omega
-- post2 @17
theorem vX4_isDigit_3 (k0 : Int32) (c1 : 48 ≤ k0.toInt) (c2 : 57 < k0.toInt) : (¬ (0 : Int32).toInt = 0 → dg k0.toInt) ∧ ((0 : Int32).toInt = 0 → ¬ dg k0.toInt) := by
  have q0 : (0 : Int32).toInt = 0 := by decide +kernel
  constructor <;> intro h9 <;> omega
-- retz @17
theorem vX4_isDigit_4   : 0 ≤ (1 : Int32).toInt ∧ (1 : Int32).toInt ≤ 1 := by
  have q1 : (1 : Int32).toInt = 1 := by decide +kernel
  refine ⟨?_, ?_⟩ <;> first | assumption | omega | (subst_vars; omega) | trivial
-- post2 @17
theorem vX4_isDigit_5 (k0 : Int32) (c1 : 48 ≤ k0.toInt) (c2 : k0.toInt ≤ 57) : (¬ (1 : Int32).toInt = 0 → dg k0.toInt) ∧ ((1 : Int32).toInt = 0 → ¬ dg k0.toInt) := by
  have q1 : (1 : Int32).toInt = 1 := by decide +kernel
  constructor <;> intro h9 <;> omega
set_option maxHeartbeats 4000000 in
set_option maxRecDepth 100000 in
theorem NX4_isDigit (l : Launch) (D : va_G) (cy : Nat → ClassId) (ad : Nat → Nat) (A : Nat → Prop) (sz0 : Nat) (sa : Nat → Nat)  (κ : KS) (sz sl : Nat) (hAF : ∀ q, A q → Fr sz0 q) (hAn : ∀ q : Nat, sz ≤ q → A q) (k0 : Int32)  : Met l yX4_isDigit (Cond.code yX4_isDigit cX4_isDigit 1 (some .boolean) :: GWc) ({ frames := 0, cells := 0, slots := 0, locals := 0 }) (PcC D cy ad A sz0 sa [.int k0] κ sz sl) (va_Qi (fun (r : Int32) (u : Unit) => ((0 ≤ r.toInt ∧ r.toInt ≤ 1)) ∧ ((¬ r.toInt = 0 → dg k0.toInt) ∧ (r.toInt = 0 → ¬ dg k0.toInt))) (fun (u : Unit) (t : State) => Bx D cy ad A sz sl κ (0) (0) t) A) (0) (0) A := by
  refine CM_of (loc0 := [(0, .int k0)]) (own := RX4) (nm := "isDigit") (by decide) rfl rfl rfl (Nat.le_of_ble_eq_true rfl) hAF hAn ?_
  intro p e s m below meth c ls hsz hsl C hP hS hl
  refine lv_iload_n C.x C.b dX4_isDigit_0 rfl (lv_at hl 0 rfl) ?_
  refine lv_bipush (v := 48) C.x C.b dX4_isDigit_1 (by decide +kernel) ?_
  refine lv_icmp_lt (tgt := 16) C.x C.b dX4_isDigit_3 (by decide) (fun c1 => ?_) (fun c1 => ?_)
  · have c1 : k0.toInt < 48 := by have h := z_lt c1; rw [show (48 : Int32).toInt = 48 from by decide +kernel] at h; exact h
    refine lv_iconst (v := 0) C.x C.b dX4_isDigit_16 (by decide +kernel) ?_
    exact c_retz (ty := .boolean) (hv := rfl) C hsz hsl () ⟨(vX4_isDigit_1  ), (vX4_isDigit_2 k0 c1)⟩ hP hS ⟨(Nat.le_of_ble_eq_true rfl), (Nat.le_of_ble_eq_true rfl)⟩ ⟨(Nat.le_of_ble_eq_true rfl), (Nat.le_of_ble_eq_true rfl)⟩ dX4_isDigit_17
  · have c1 : 48 ≤ k0.toInt := by have h := z_nlt c1; rw [show (48 : Int32).toInt = 48 from by decide +kernel] at h; exact h
    refine lv_iload_n C.x C.b dX4_isDigit_6 rfl (lv_at hl 0 rfl) ?_
    refine lv_bipush (v := 57) C.x C.b dX4_isDigit_7 (by decide +kernel) ?_
    refine lv_icmp_gt (tgt := 16) C.x C.b dX4_isDigit_9 (by decide) (fun c2 => ?_) (fun c2 => ?_)
    · have c2 : 57 < k0.toInt := by have h := z_lt c2; rw [show (57 : Int32).toInt = 57 from by decide +kernel] at h; exact h
      refine lv_iconst (v := 0) C.x C.b dX4_isDigit_16 (by decide +kernel) ?_
      exact c_retz (ty := .boolean) (hv := rfl) C hsz hsl () ⟨(vX4_isDigit_1  ), (vX4_isDigit_3 k0 c1 c2)⟩ hP hS ⟨(Nat.le_of_ble_eq_true rfl), (Nat.le_of_ble_eq_true rfl)⟩ ⟨(Nat.le_of_ble_eq_true rfl), (Nat.le_of_ble_eq_true rfl)⟩ dX4_isDigit_17
    · have c2 : k0.toInt ≤ 57 := by have h := z_nlt c2; rw [show (57 : Int32).toInt = 57 from by decide +kernel] at h; exact h
      refine lv_iconst (v := 1) C.x C.b dX4_isDigit_12 (by decide +kernel) ?_
      refine lv_goto (tgt := 17) C.x C.b dX4_isDigit_13 (by decide) ?_
      exact c_retz (ty := .boolean) (hv := rfl) C hsz hsl () ⟨(vX4_isDigit_4  ), (vX4_isDigit_5 k0 c1 c2)⟩ hP hS ⟨(Nat.le_of_ble_eq_true rfl), (Nat.le_of_ble_eq_true rfl)⟩ ⟨(Nat.le_of_ble_eq_true rfl), (Nat.le_of_ble_eq_true rfl)⟩ dX4_isDigit_17

-- retz @17
theorem vX4_isLowerCase_1   : 0 ≤ (0 : Int32).toInt ∧ (0 : Int32).toInt ≤ 1 := by
  have q0 : (0 : Int32).toInt = 0 := by decide +kernel
  refine ⟨?_, ?_⟩ <;> first | assumption | omega | (subst_vars; omega) | trivial
-- post2 @17
theorem vX4_isLowerCase_2 (k0 : Int32) (c1 : k0.toInt < 97) : (¬ (0 : Int32).toInt = 0 → lw k0.toInt) ∧ ((0 : Int32).toInt = 0 → ¬ lw k0.toInt) := by
  have q0 : (0 : Int32).toInt = 0 := by decide +kernel
  constructor <;> intro h9 <;> omega
-- post2 @17
theorem vX4_isLowerCase_3 (k0 : Int32) (c1 : 97 ≤ k0.toInt) (c2 : 122 < k0.toInt) : (¬ (0 : Int32).toInt = 0 → lw k0.toInt) ∧ ((0 : Int32).toInt = 0 → ¬ lw k0.toInt) := by
  have q0 : (0 : Int32).toInt = 0 := by decide +kernel
  constructor <;> intro h9 <;> omega
-- retz @17
theorem vX4_isLowerCase_4   : 0 ≤ (1 : Int32).toInt ∧ (1 : Int32).toInt ≤ 1 := by
  have q1 : (1 : Int32).toInt = 1 := by decide +kernel
  refine ⟨?_, ?_⟩ <;> first | assumption | omega | (subst_vars; omega) | trivial
-- post2 @17
theorem vX4_isLowerCase_5 (k0 : Int32) (c1 : 97 ≤ k0.toInt) (c2 : k0.toInt ≤ 122) : (¬ (1 : Int32).toInt = 0 → lw k0.toInt) ∧ ((1 : Int32).toInt = 0 → ¬ lw k0.toInt) := by
  have q1 : (1 : Int32).toInt = 1 := by decide +kernel
  constructor <;> intro h9 <;> omega
set_option maxHeartbeats 4000000 in
set_option maxRecDepth 100000 in
theorem NX4_isLowerCase (l : Launch) (D : va_G) (cy : Nat → ClassId) (ad : Nat → Nat) (A : Nat → Prop) (sz0 : Nat) (sa : Nat → Nat)  (κ : KS) (sz sl : Nat) (hAF : ∀ q, A q → Fr sz0 q) (hAn : ∀ q : Nat, sz ≤ q → A q) (k0 : Int32)  : Met l yX4_isLowerCase (Cond.code yX4_isLowerCase cX4_isLowerCase 1 (some .boolean) :: GWc) ({ frames := 0, cells := 0, slots := 0, locals := 0 }) (PcC D cy ad A sz0 sa [.int k0] κ sz sl) (va_Qi (fun (r : Int32) (u : Unit) => ((0 ≤ r.toInt ∧ r.toInt ≤ 1)) ∧ ((¬ r.toInt = 0 → lw k0.toInt) ∧ (r.toInt = 0 → ¬ lw k0.toInt))) (fun (u : Unit) (t : State) => Bx D cy ad A sz sl κ (0) (0) t) A) (0) (0) A := by
  refine CM_of (loc0 := [(0, .int k0)]) (own := RX4) (nm := "isLowerCase") (by decide) rfl rfl rfl (Nat.le_of_ble_eq_true rfl) hAF hAn ?_
  intro p e s m below meth c ls hsz hsl C hP hS hl
  refine lv_iload_n C.x C.b dX4_isLowerCase_0 rfl (lv_at hl 0 rfl) ?_
  refine lv_bipush (v := 97) C.x C.b dX4_isLowerCase_1 (by decide +kernel) ?_
  refine lv_icmp_lt (tgt := 16) C.x C.b dX4_isLowerCase_3 (by decide) (fun c1 => ?_) (fun c1 => ?_)
  · have c1 : k0.toInt < 97 := by have h := z_lt c1; rw [show (97 : Int32).toInt = 97 from by decide +kernel] at h; exact h
    refine lv_iconst (v := 0) C.x C.b dX4_isLowerCase_16 (by decide +kernel) ?_
    exact c_retz (ty := .boolean) (hv := rfl) C hsz hsl () ⟨(vX4_isLowerCase_1  ), (vX4_isLowerCase_2 k0 c1)⟩ hP hS ⟨(Nat.le_of_ble_eq_true rfl), (Nat.le_of_ble_eq_true rfl)⟩ ⟨(Nat.le_of_ble_eq_true rfl), (Nat.le_of_ble_eq_true rfl)⟩ dX4_isLowerCase_17
  · have c1 : 97 ≤ k0.toInt := by have h := z_nlt c1; rw [show (97 : Int32).toInt = 97 from by decide +kernel] at h; exact h
    refine lv_iload_n C.x C.b dX4_isLowerCase_6 rfl (lv_at hl 0 rfl) ?_
    refine lv_bipush (v := 122) C.x C.b dX4_isLowerCase_7 (by decide +kernel) ?_
    refine lv_icmp_gt (tgt := 16) C.x C.b dX4_isLowerCase_9 (by decide) (fun c2 => ?_) (fun c2 => ?_)
    · have c2 : 122 < k0.toInt := by have h := z_lt c2; rw [show (122 : Int32).toInt = 122 from by decide +kernel] at h; exact h
      refine lv_iconst (v := 0) C.x C.b dX4_isLowerCase_16 (by decide +kernel) ?_
      exact c_retz (ty := .boolean) (hv := rfl) C hsz hsl () ⟨(vX4_isLowerCase_1  ), (vX4_isLowerCase_3 k0 c1 c2)⟩ hP hS ⟨(Nat.le_of_ble_eq_true rfl), (Nat.le_of_ble_eq_true rfl)⟩ ⟨(Nat.le_of_ble_eq_true rfl), (Nat.le_of_ble_eq_true rfl)⟩ dX4_isLowerCase_17
    · have c2 : k0.toInt ≤ 122 := by have h := z_nlt c2; rw [show (122 : Int32).toInt = 122 from by decide +kernel] at h; exact h
      refine lv_iconst (v := 1) C.x C.b dX4_isLowerCase_12 (by decide +kernel) ?_
      refine lv_goto (tgt := 17) C.x C.b dX4_isLowerCase_13 (by decide) ?_
      exact c_retz (ty := .boolean) (hv := rfl) C hsz hsl () ⟨(vX4_isLowerCase_4  ), (vX4_isLowerCase_5 k0 c1 c2)⟩ hP hS ⟨(Nat.le_of_ble_eq_true rfl), (Nat.le_of_ble_eq_true rfl)⟩ ⟨(Nat.le_of_ble_eq_true rfl), (Nat.le_of_ble_eq_true rfl)⟩ dX4_isLowerCase_17

-- retz @77
theorem vX4_isPair_1   : 0 ≤ (1 : Int32).toInt ∧ (1 : Int32).toInt ≤ 1 := by
  have q1 : (1 : Int32).toInt = 1 := by decide +kernel
  refine ⟨?_, ?_⟩ <;> first | assumption | omega | (subst_vars; omega) | trivial
-- post2 @77
theorem vX4_isPair_2 (k0 : Int32) (c1_0 : k0.toInt = 8509) : (¬ (1 : Int32).toInt = 0 → PV9 k0.toInt) ∧ ((1 : Int32).toInt = 0 → ¬ PV9 k0.toInt) := by
  have q1 : (1 : Int32).toInt = 1 := by decide +kernel
  constructor <;> intro h9 <;> omega
-- post2 @77
theorem vX4_isPair_3 (k0 : Int32) (c1_0 : ¬ k0.toInt = 8509) (c1_1 : k0.toInt = 9766) : (¬ (1 : Int32).toInt = 0 → PV9 k0.toInt) ∧ ((1 : Int32).toInt = 0 → ¬ PV9 k0.toInt) := by
  have q1 : (1 : Int32).toInt = 1 := by decide +kernel
  constructor <;> intro h9 <;> omega
-- post2 @77
theorem vX4_isPair_4 (k0 : Int32) (c1_0 : ¬ k0.toInt = 8509) (c1_1 : ¬ k0.toInt = 9766) (c1_2 : k0.toInt = 15421) : (¬ (1 : Int32).toInt = 0 → PV9 k0.toInt) ∧ ((1 : Int32).toInt = 0 → ¬ PV9 k0.toInt) := by
  have q1 : (1 : Int32).toInt = 1 := by decide +kernel
  constructor <;> intro h9 <;> omega
-- post2 @77
theorem vX4_isPair_5 (k0 : Int32) (c1_0 : ¬ k0.toInt = 8509) (c1_1 : ¬ k0.toInt = 9766) (c1_2 : ¬ k0.toInt = 15421) (c1_3 : k0.toInt = 15677) : (¬ (1 : Int32).toInt = 0 → PV9 k0.toInt) ∧ ((1 : Int32).toInt = 0 → ¬ PV9 k0.toInt) := by
  have q1 : (1 : Int32).toInt = 1 := by decide +kernel
  constructor <;> intro h9 <;> omega
-- post2 @77
theorem vX4_isPair_6 (k0 : Int32) (c1_0 : ¬ k0.toInt = 8509) (c1_1 : ¬ k0.toInt = 9766) (c1_2 : ¬ k0.toInt = 15421) (c1_3 : ¬ k0.toInt = 15677) (c1_4 : k0.toInt = 15933) : (¬ (1 : Int32).toInt = 0 → PV9 k0.toInt) ∧ ((1 : Int32).toInt = 0 → ¬ PV9 k0.toInt) := by
  have q1 : (1 : Int32).toInt = 1 := by decide +kernel
  constructor <;> intro h9 <;> omega
-- post2 @77
theorem vX4_isPair_7 (k0 : Int32) (c1_0 : ¬ k0.toInt = 8509) (c1_1 : ¬ k0.toInt = 9766) (c1_2 : ¬ k0.toInt = 15421) (c1_3 : ¬ k0.toInt = 15677) (c1_4 : ¬ k0.toInt = 15933) (c1_5 : k0.toInt = 16174) : (¬ (1 : Int32).toInt = 0 → PV9 k0.toInt) ∧ ((1 : Int32).toInt = 0 → ¬ PV9 k0.toInt) := by
  have q1 : (1 : Int32).toInt = 1 := by decide +kernel
  constructor <;> intro h9 <;> omega
-- post2 @77
theorem vX4_isPair_8 (k0 : Int32) (c1_0 : ¬ k0.toInt = 8509) (c1_1 : ¬ k0.toInt = 9766) (c1_2 : ¬ k0.toInt = 15421) (c1_3 : ¬ k0.toInt = 15677) (c1_4 : ¬ k0.toInt = 15933) (c1_5 : ¬ k0.toInt = 16174) (c1_6 : k0.toInt = 16186) : (¬ (1 : Int32).toInt = 0 → PV9 k0.toInt) ∧ ((1 : Int32).toInt = 0 → ¬ PV9 k0.toInt) := by
  have q1 : (1 : Int32).toInt = 1 := by decide +kernel
  constructor <;> intro h9 <;> omega
-- post2 @77
theorem vX4_isPair_9 (k0 : Int32) (c1_0 : ¬ k0.toInt = 8509) (c1_1 : ¬ k0.toInt = 9766) (c1_2 : ¬ k0.toInt = 15421) (c1_3 : ¬ k0.toInt = 15677) (c1_4 : ¬ k0.toInt = 15933) (c1_5 : ¬ k0.toInt = 16174) (c1_6 : ¬ k0.toInt = 16186) (c1_7 : k0.toInt = 31868) : (¬ (1 : Int32).toInt = 0 → PV9 k0.toInt) ∧ ((1 : Int32).toInt = 0 → ¬ PV9 k0.toInt) := by
  have q1 : (1 : Int32).toInt = 1 := by decide +kernel
  constructor <;> intro h9 <;> omega
-- retz @79
theorem vX4_isPair_10   : 0 ≤ (0 : Int32).toInt ∧ (0 : Int32).toInt ≤ 1 := by
  have q0 : (0 : Int32).toInt = 0 := by decide +kernel
  refine ⟨?_, ?_⟩ <;> first | assumption | omega | (subst_vars; omega) | trivial
-- post2 @79
theorem vX4_isPair_11 (k0 : Int32) (c1_0 : ¬ k0.toInt = 8509) (c1_1 : ¬ k0.toInt = 9766) (c1_2 : ¬ k0.toInt = 15421) (c1_3 : ¬ k0.toInt = 15677) (c1_4 : ¬ k0.toInt = 15933) (c1_5 : ¬ k0.toInt = 16174) (c1_6 : ¬ k0.toInt = 16186) (c1_7 : ¬ k0.toInt = 31868) : (¬ (0 : Int32).toInt = 0 → PV9 k0.toInt) ∧ ((0 : Int32).toInt = 0 → ¬ PV9 k0.toInt) := by
  have q0 : (0 : Int32).toInt = 0 := by decide +kernel
  constructor <;> intro h9 <;> omega
set_option maxHeartbeats 4000000 in
set_option maxRecDepth 100000 in
theorem NX4_isPair (l : Launch) (D : va_G) (cy : Nat → ClassId) (ad : Nat → Nat) (A : Nat → Prop) (sz0 : Nat) (sa : Nat → Nat)  (κ : KS) (sz sl : Nat) (hAF : ∀ q, A q → Fr sz0 q) (hAn : ∀ q : Nat, sz ≤ q → A q) (k0 : Int32)  : Met l yX4_isPair (Cond.code yX4_isPair cX4_isPair 1 (some .boolean) :: GWc) ({ frames := 0, cells := 0, slots := 0, locals := 0 }) (PcC D cy ad A sz0 sa [.int k0] κ sz sl) (va_Qi (fun (r : Int32) (u : Unit) => ((0 ≤ r.toInt ∧ r.toInt ≤ 1)) ∧ ((¬ r.toInt = 0 → PV9 k0.toInt) ∧ (r.toInt = 0 → ¬ PV9 k0.toInt))) (fun (u : Unit) (t : State) => Bx D cy ad A sz sl κ (0) (0) t) A) (0) (0) A := by
  refine CM_of (loc0 := [(0, .int k0)]) (own := RX4) (nm := "isPair") (by decide) rfl rfl rfl (Nat.le_of_ble_eq_true rfl) hAF hAn ?_
  intro p e s m below meth c ls hsz hsl C hP hS hl
  refine lv_iload_n C.x C.b dX4_isPair_0 rfl (lv_at hl 0 rfl) ?_
  by_cases c1_0 : k0.toInt = 8509
  · refine lv_lookup (off := 75) (tgt := 76) C.x C.b dX4_isPair_1 (by decide) (by rw [c1_0]; decide) (by decide) ?_
    refine lv_iconst (v := 1) C.x C.b dX4_isPair_76 (by decide +kernel) ?_
    exact c_retz (ty := .boolean) (hv := rfl) C hsz hsl () ⟨(vX4_isPair_1  ), (vX4_isPair_2 k0 c1_0)⟩ hP hS ⟨(Nat.le_of_ble_eq_true rfl), (Nat.le_of_ble_eq_true rfl)⟩ ⟨(Nat.le_of_ble_eq_true rfl), (Nat.le_of_ble_eq_true rfl)⟩ dX4_isPair_77
  · by_cases c1_1 : k0.toInt = 9766
    · refine lv_lookup (off := 75) (tgt := 76) C.x C.b dX4_isPair_1 (by decide) (by rw [c1_1]; decide) (by decide) ?_
      refine lv_iconst (v := 1) C.x C.b dX4_isPair_76 (by decide +kernel) ?_
      exact c_retz (ty := .boolean) (hv := rfl) C hsz hsl () ⟨(vX4_isPair_1  ), (vX4_isPair_3 k0 c1_0 c1_1)⟩ hP hS ⟨(Nat.le_of_ble_eq_true rfl), (Nat.le_of_ble_eq_true rfl)⟩ ⟨(Nat.le_of_ble_eq_true rfl), (Nat.le_of_ble_eq_true rfl)⟩ dX4_isPair_77
    · by_cases c1_2 : k0.toInt = 15421
      · refine lv_lookup (off := 75) (tgt := 76) C.x C.b dX4_isPair_1 (by decide) (by rw [c1_2]; decide) (by decide) ?_
        refine lv_iconst (v := 1) C.x C.b dX4_isPair_76 (by decide +kernel) ?_
        exact c_retz (ty := .boolean) (hv := rfl) C hsz hsl () ⟨(vX4_isPair_1  ), (vX4_isPair_4 k0 c1_0 c1_1 c1_2)⟩ hP hS ⟨(Nat.le_of_ble_eq_true rfl), (Nat.le_of_ble_eq_true rfl)⟩ ⟨(Nat.le_of_ble_eq_true rfl), (Nat.le_of_ble_eq_true rfl)⟩ dX4_isPair_77
      · by_cases c1_3 : k0.toInt = 15677
        · refine lv_lookup (off := 75) (tgt := 76) C.x C.b dX4_isPair_1 (by decide) (by rw [c1_3]; decide) (by decide) ?_
          refine lv_iconst (v := 1) C.x C.b dX4_isPair_76 (by decide +kernel) ?_
          exact c_retz (ty := .boolean) (hv := rfl) C hsz hsl () ⟨(vX4_isPair_1  ), (vX4_isPair_5 k0 c1_0 c1_1 c1_2 c1_3)⟩ hP hS ⟨(Nat.le_of_ble_eq_true rfl), (Nat.le_of_ble_eq_true rfl)⟩ ⟨(Nat.le_of_ble_eq_true rfl), (Nat.le_of_ble_eq_true rfl)⟩ dX4_isPair_77
        · by_cases c1_4 : k0.toInt = 15933
          · refine lv_lookup (off := 75) (tgt := 76) C.x C.b dX4_isPair_1 (by decide) (by rw [c1_4]; decide) (by decide) ?_
            refine lv_iconst (v := 1) C.x C.b dX4_isPair_76 (by decide +kernel) ?_
            exact c_retz (ty := .boolean) (hv := rfl) C hsz hsl () ⟨(vX4_isPair_1  ), (vX4_isPair_6 k0 c1_0 c1_1 c1_2 c1_3 c1_4)⟩ hP hS ⟨(Nat.le_of_ble_eq_true rfl), (Nat.le_of_ble_eq_true rfl)⟩ ⟨(Nat.le_of_ble_eq_true rfl), (Nat.le_of_ble_eq_true rfl)⟩ dX4_isPair_77
          · by_cases c1_5 : k0.toInt = 16174
            · refine lv_lookup (off := 75) (tgt := 76) C.x C.b dX4_isPair_1 (by decide) (by rw [c1_5]; decide) (by decide) ?_
              refine lv_iconst (v := 1) C.x C.b dX4_isPair_76 (by decide +kernel) ?_
              exact c_retz (ty := .boolean) (hv := rfl) C hsz hsl () ⟨(vX4_isPair_1  ), (vX4_isPair_7 k0 c1_0 c1_1 c1_2 c1_3 c1_4 c1_5)⟩ hP hS ⟨(Nat.le_of_ble_eq_true rfl), (Nat.le_of_ble_eq_true rfl)⟩ ⟨(Nat.le_of_ble_eq_true rfl), (Nat.le_of_ble_eq_true rfl)⟩ dX4_isPair_77
            · by_cases c1_6 : k0.toInt = 16186
              · refine lv_lookup (off := 75) (tgt := 76) C.x C.b dX4_isPair_1 (by decide) (by rw [c1_6]; decide) (by decide) ?_
                refine lv_iconst (v := 1) C.x C.b dX4_isPair_76 (by decide +kernel) ?_
                exact c_retz (ty := .boolean) (hv := rfl) C hsz hsl () ⟨(vX4_isPair_1  ), (vX4_isPair_8 k0 c1_0 c1_1 c1_2 c1_3 c1_4 c1_5 c1_6)⟩ hP hS ⟨(Nat.le_of_ble_eq_true rfl), (Nat.le_of_ble_eq_true rfl)⟩ ⟨(Nat.le_of_ble_eq_true rfl), (Nat.le_of_ble_eq_true rfl)⟩ dX4_isPair_77
              · by_cases c1_7 : k0.toInt = 31868
                · refine lv_lookup (off := 75) (tgt := 76) C.x C.b dX4_isPair_1 (by decide) (by rw [c1_7]; decide) (by decide) ?_
                  refine lv_iconst (v := 1) C.x C.b dX4_isPair_76 (by decide +kernel) ?_
                  exact c_retz (ty := .boolean) (hv := rfl) C hsz hsl () ⟨(vX4_isPair_1  ), (vX4_isPair_9 k0 c1_0 c1_1 c1_2 c1_3 c1_4 c1_5 c1_6 c1_7)⟩ hP hS ⟨(Nat.le_of_ble_eq_true rfl), (Nat.le_of_ble_eq_true rfl)⟩ ⟨(Nat.le_of_ble_eq_true rfl), (Nat.le_of_ble_eq_true rfl)⟩ dX4_isPair_77
                · refine lv_lookup (off := 77) (tgt := 78) C.x C.b dX4_isPair_1 (by decide) (by simp [Op.lookupswitch.offset, c1_0, c1_1, c1_2, c1_3, c1_4, c1_5, c1_6, c1_7, (show ¬ (8509 : Int) = k0.toInt from fun h9 => c1_0 h9.symm), (show ¬ (9766 : Int) = k0.toInt from fun h9 => c1_1 h9.symm), (show ¬ (15421 : Int) = k0.toInt from fun h9 => c1_2 h9.symm), (show ¬ (15677 : Int) = k0.toInt from fun h9 => c1_3 h9.symm), (show ¬ (15933 : Int) = k0.toInt from fun h9 => c1_4 h9.symm), (show ¬ (16174 : Int) = k0.toInt from fun h9 => c1_5 h9.symm), (show ¬ (16186 : Int) = k0.toInt from fun h9 => c1_6 h9.symm), (show ¬ (31868 : Int) = k0.toInt from fun h9 => c1_7 h9.symm)]) (by decide) ?_
                  refine lv_iconst (v := 0) C.x C.b dX4_isPair_78 (by decide +kernel) ?_
                  exact c_retz (ty := .boolean) (hv := rfl) C hsz hsl () ⟨(vX4_isPair_10  ), (vX4_isPair_11 k0 c1_0 c1_1 c1_2 c1_3 c1_4 c1_5 c1_6 c1_7)⟩ hP hS ⟨(Nat.le_of_ble_eq_true rfl), (Nat.le_of_ble_eq_true rfl)⟩ ⟨(Nat.le_of_ble_eq_true rfl), (Nat.le_of_ble_eq_true rfl)⟩ dX4_isPair_79

-- retz @141
theorem vX4_isSingle_1   : 0 ≤ (1 : Int32).toInt ∧ (1 : Int32).toInt ≤ 1 := by
  have q1 : (1 : Int32).toInt = 1 := by decide +kernel
  refine ⟨?_, ?_⟩ <;> first | assumption | omega | (subst_vars; omega) | trivial
-- post2 @141
theorem vX4_isSingle_2 (k0 : Int32) (c1_33 : k0.toInt = 33) : (¬ (1 : Int32).toInt = 0 → SI k0.toInt) ∧ ((1 : Int32).toInt = 0 → ¬ SI k0.toInt) := by
  have q1 : (1 : Int32).toInt = 1 := by decide +kernel
  constructor <;> intro h9 <;> omega
-- retz @143
theorem vX4_isSingle_3   : 0 ≤ (0 : Int32).toInt ∧ (0 : Int32).toInt ≤ 1 := by
  have q0 : (0 : Int32).toInt = 0 := by decide +kernel
  refine ⟨?_, ?_⟩ <;> first | assumption | omega | (subst_vars; omega) | trivial
-- post2 @143
theorem vX4_isSingle_4 (k0 : Int32) (c1_33 : ¬ k0.toInt = 33) (c1_34 : k0.toInt = 34) : (¬ (0 : Int32).toInt = 0 → SI k0.toInt) ∧ ((0 : Int32).toInt = 0 → ¬ SI k0.toInt) := by
  have q0 : (0 : Int32).toInt = 0 := by decide +kernel
  constructor <;> intro h9 <;> omega
-- post2 @141
theorem vX4_isSingle_5 (k0 : Int32) (c1_33 : ¬ k0.toInt = 33) (c1_34 : ¬ k0.toInt = 34) (c1_35 : k0.toInt = 35) : (¬ (1 : Int32).toInt = 0 → SI k0.toInt) ∧ ((1 : Int32).toInt = 0 → ¬ SI k0.toInt) := by
  have q1 : (1 : Int32).toInt = 1 := by decide +kernel
  constructor <;> intro h9 <;> omega
-- post2 @143
theorem vX4_isSingle_6 (k0 : Int32) (c1_33 : ¬ k0.toInt = 33) (c1_34 : ¬ k0.toInt = 34) (c1_35 : ¬ k0.toInt = 35) (c1_36 : k0.toInt = 36) : (¬ (0 : Int32).toInt = 0 → SI k0.toInt) ∧ ((0 : Int32).toInt = 0 → ¬ SI k0.toInt) := by
  have q0 : (0 : Int32).toInt = 0 := by decide +kernel
  constructor <;> intro h9 <;> omega
-- post2 @141
theorem vX4_isSingle_7 (k0 : Int32) (c1_33 : ¬ k0.toInt = 33) (c1_34 : ¬ k0.toInt = 34) (c1_35 : ¬ k0.toInt = 35) (c1_36 : ¬ k0.toInt = 36) (c1_37 : k0.toInt = 37) : (¬ (1 : Int32).toInt = 0 → SI k0.toInt) ∧ ((1 : Int32).toInt = 0 → ¬ SI k0.toInt) := by
  have q1 : (1 : Int32).toInt = 1 := by decide +kernel
  constructor <;> intro h9 <;> omega
-- post2 @143
theorem vX4_isSingle_8 (k0 : Int32) (c1_33 : ¬ k0.toInt = 33) (c1_34 : ¬ k0.toInt = 34) (c1_35 : ¬ k0.toInt = 35) (c1_36 : ¬ k0.toInt = 36) (c1_37 : ¬ k0.toInt = 37) (c1_38 : k0.toInt = 38) : (¬ (0 : Int32).toInt = 0 → SI k0.toInt) ∧ ((0 : Int32).toInt = 0 → ¬ SI k0.toInt) := by
  have q0 : (0 : Int32).toInt = 0 := by decide +kernel
  constructor <;> intro h9 <;> omega
-- post2 @143
theorem vX4_isSingle_9 (k0 : Int32) (c1_33 : ¬ k0.toInt = 33) (c1_34 : ¬ k0.toInt = 34) (c1_35 : ¬ k0.toInt = 35) (c1_36 : ¬ k0.toInt = 36) (c1_37 : ¬ k0.toInt = 37) (c1_38 : ¬ k0.toInt = 38) (c1_39 : k0.toInt = 39) : (¬ (0 : Int32).toInt = 0 → SI k0.toInt) ∧ ((0 : Int32).toInt = 0 → ¬ SI k0.toInt) := by
  have q0 : (0 : Int32).toInt = 0 := by decide +kernel
  constructor <;> intro h9 <;> omega
-- post2 @141
theorem vX4_isSingle_10 (k0 : Int32) (c1_33 : ¬ k0.toInt = 33) (c1_34 : ¬ k0.toInt = 34) (c1_35 : ¬ k0.toInt = 35) (c1_36 : ¬ k0.toInt = 36) (c1_37 : ¬ k0.toInt = 37) (c1_38 : ¬ k0.toInt = 38) (c1_39 : ¬ k0.toInt = 39) (c1_40 : k0.toInt = 40) : (¬ (1 : Int32).toInt = 0 → SI k0.toInt) ∧ ((1 : Int32).toInt = 0 → ¬ SI k0.toInt) := by
  have q1 : (1 : Int32).toInt = 1 := by decide +kernel
  constructor <;> intro h9 <;> omega
-- post2 @141
theorem vX4_isSingle_11 (k0 : Int32) (c1_33 : ¬ k0.toInt = 33) (c1_34 : ¬ k0.toInt = 34) (c1_35 : ¬ k0.toInt = 35) (c1_36 : ¬ k0.toInt = 36) (c1_37 : ¬ k0.toInt = 37) (c1_38 : ¬ k0.toInt = 38) (c1_39 : ¬ k0.toInt = 39) (c1_40 : ¬ k0.toInt = 40) (c1_41 : k0.toInt = 41) : (¬ (1 : Int32).toInt = 0 → SI k0.toInt) ∧ ((1 : Int32).toInt = 0 → ¬ SI k0.toInt) := by
  have q1 : (1 : Int32).toInt = 1 := by decide +kernel
  constructor <;> intro h9 <;> omega
-- post2 @141
theorem vX4_isSingle_12 (k0 : Int32) (c1_33 : ¬ k0.toInt = 33) (c1_34 : ¬ k0.toInt = 34) (c1_35 : ¬ k0.toInt = 35) (c1_36 : ¬ k0.toInt = 36) (c1_37 : ¬ k0.toInt = 37) (c1_38 : ¬ k0.toInt = 38) (c1_39 : ¬ k0.toInt = 39) (c1_40 : ¬ k0.toInt = 40) (c1_41 : ¬ k0.toInt = 41) (c1_42 : k0.toInt = 42) : (¬ (1 : Int32).toInt = 0 → SI k0.toInt) ∧ ((1 : Int32).toInt = 0 → ¬ SI k0.toInt) := by
  have q1 : (1 : Int32).toInt = 1 := by decide +kernel
  constructor <;> intro h9 <;> omega
-- post2 @141
theorem vX4_isSingle_13 (k0 : Int32) (c1_33 : ¬ k0.toInt = 33) (c1_34 : ¬ k0.toInt = 34) (c1_35 : ¬ k0.toInt = 35) (c1_36 : ¬ k0.toInt = 36) (c1_37 : ¬ k0.toInt = 37) (c1_38 : ¬ k0.toInt = 38) (c1_39 : ¬ k0.toInt = 39) (c1_40 : ¬ k0.toInt = 40) (c1_41 : ¬ k0.toInt = 41) (c1_42 : ¬ k0.toInt = 42) (c1_43 : k0.toInt = 43) : (¬ (1 : Int32).toInt = 0 → SI k0.toInt) ∧ ((1 : Int32).toInt = 0 → ¬ SI k0.toInt) := by
  have q1 : (1 : Int32).toInt = 1 := by decide +kernel
  constructor <;> intro h9 <;> omega
-- post2 @141
theorem vX4_isSingle_14 (k0 : Int32) (c1_33 : ¬ k0.toInt = 33) (c1_34 : ¬ k0.toInt = 34) (c1_35 : ¬ k0.toInt = 35) (c1_36 : ¬ k0.toInt = 36) (c1_37 : ¬ k0.toInt = 37) (c1_38 : ¬ k0.toInt = 38) (c1_39 : ¬ k0.toInt = 39) (c1_40 : ¬ k0.toInt = 40) (c1_41 : ¬ k0.toInt = 41) (c1_42 : ¬ k0.toInt = 42) (c1_43 : ¬ k0.toInt = 43) (c1_44 : k0.toInt = 44) : (¬ (1 : Int32).toInt = 0 → SI k0.toInt) ∧ ((1 : Int32).toInt = 0 → ¬ SI k0.toInt) := by
  have q1 : (1 : Int32).toInt = 1 := by decide +kernel
  constructor <;> intro h9 <;> omega
-- post2 @141
theorem vX4_isSingle_15 (k0 : Int32) (c1_33 : ¬ k0.toInt = 33) (c1_34 : ¬ k0.toInt = 34) (c1_35 : ¬ k0.toInt = 35) (c1_36 : ¬ k0.toInt = 36) (c1_37 : ¬ k0.toInt = 37) (c1_38 : ¬ k0.toInt = 38) (c1_39 : ¬ k0.toInt = 39) (c1_40 : ¬ k0.toInt = 40) (c1_41 : ¬ k0.toInt = 41) (c1_42 : ¬ k0.toInt = 42) (c1_43 : ¬ k0.toInt = 43) (c1_44 : ¬ k0.toInt = 44) (c1_45 : k0.toInt = 45) : (¬ (1 : Int32).toInt = 0 → SI k0.toInt) ∧ ((1 : Int32).toInt = 0 → ¬ SI k0.toInt) := by
  have q1 : (1 : Int32).toInt = 1 := by decide +kernel
  constructor <;> intro h9 <;> omega
-- post2 @141
theorem vX4_isSingle_16 (k0 : Int32) (c1_33 : ¬ k0.toInt = 33) (c1_34 : ¬ k0.toInt = 34) (c1_35 : ¬ k0.toInt = 35) (c1_36 : ¬ k0.toInt = 36) (c1_37 : ¬ k0.toInt = 37) (c1_38 : ¬ k0.toInt = 38) (c1_39 : ¬ k0.toInt = 39) (c1_40 : ¬ k0.toInt = 40) (c1_41 : ¬ k0.toInt = 41) (c1_42 : ¬ k0.toInt = 42) (c1_43 : ¬ k0.toInt = 43) (c1_44 : ¬ k0.toInt = 44) (c1_45 : ¬ k0.toInt = 45) (c1_46 : k0.toInt = 46) : (¬ (1 : Int32).toInt = 0 → SI k0.toInt) ∧ ((1 : Int32).toInt = 0 → ¬ SI k0.toInt) := by
  have q1 : (1 : Int32).toInt = 1 := by decide +kernel
  constructor <;> intro h9 <;> omega
-- post2 @141
theorem vX4_isSingle_17 (k0 : Int32) (c1_33 : ¬ k0.toInt = 33) (c1_34 : ¬ k0.toInt = 34) (c1_35 : ¬ k0.toInt = 35) (c1_36 : ¬ k0.toInt = 36) (c1_37 : ¬ k0.toInt = 37) (c1_38 : ¬ k0.toInt = 38) (c1_39 : ¬ k0.toInt = 39) (c1_40 : ¬ k0.toInt = 40) (c1_41 : ¬ k0.toInt = 41) (c1_42 : ¬ k0.toInt = 42) (c1_43 : ¬ k0.toInt = 43) (c1_44 : ¬ k0.toInt = 44) (c1_45 : ¬ k0.toInt = 45) (c1_46 : ¬ k0.toInt = 46) (c1_47 : k0.toInt = 47) : (¬ (1 : Int32).toInt = 0 → SI k0.toInt) ∧ ((1 : Int32).toInt = 0 → ¬ SI k0.toInt) := by
  have q1 : (1 : Int32).toInt = 1 := by decide +kernel
  constructor <;> intro h9 <;> omega
-- post2 @143
theorem vX4_isSingle_18 (k0 : Int32) (c1_33 : ¬ k0.toInt = 33) (c1_34 : ¬ k0.toInt = 34) (c1_35 : ¬ k0.toInt = 35) (c1_36 : ¬ k0.toInt = 36) (c1_37 : ¬ k0.toInt = 37) (c1_38 : ¬ k0.toInt = 38) (c1_39 : ¬ k0.toInt = 39) (c1_40 : ¬ k0.toInt = 40) (c1_41 : ¬ k0.toInt = 41) (c1_42 : ¬ k0.toInt = 42) (c1_43 : ¬ k0.toInt = 43) (c1_44 : ¬ k0.toInt = 44) (c1_45 : ¬ k0.toInt = 45) (c1_46 : ¬ k0.toInt = 46) (c1_47 : ¬ k0.toInt = 47) (c1_48 : k0.toInt = 48) : (¬ (0 : Int32).toInt = 0 → SI k0.toInt) ∧ ((0 : Int32).toInt = 0 → ¬ SI k0.toInt) := by
  have q0 : (0 : Int32).toInt = 0 := by decide +kernel
  constructor <;> intro h9 <;> omega
-- post2 @143
theorem vX4_isSingle_19 (k0 : Int32) (c1_33 : ¬ k0.toInt = 33) (c1_34 : ¬ k0.toInt = 34) (c1_35 : ¬ k0.toInt = 35) (c1_36 : ¬ k0.toInt = 36) (c1_37 : ¬ k0.toInt = 37) (c1_38 : ¬ k0.toInt = 38) (c1_39 : ¬ k0.toInt = 39) (c1_40 : ¬ k0.toInt = 40) (c1_41 : ¬ k0.toInt = 41) (c1_42 : ¬ k0.toInt = 42) (c1_43 : ¬ k0.toInt = 43) (c1_44 : ¬ k0.toInt = 44) (c1_45 : ¬ k0.toInt = 45) (c1_46 : ¬ k0.toInt = 46) (c1_47 : ¬ k0.toInt = 47) (c1_48 : ¬ k0.toInt = 48) (c1_49 : k0.toInt = 49) : (¬ (0 : Int32).toInt = 0 → SI k0.toInt) ∧ ((0 : Int32).toInt = 0 → ¬ SI k0.toInt) := by
  have q0 : (0 : Int32).toInt = 0 := by decide +kernel
  constructor <;> intro h9 <;> omega
-- post2 @143
theorem vX4_isSingle_20 (k0 : Int32) (c1_33 : ¬ k0.toInt = 33) (c1_34 : ¬ k0.toInt = 34) (c1_35 : ¬ k0.toInt = 35) (c1_36 : ¬ k0.toInt = 36) (c1_37 : ¬ k0.toInt = 37) (c1_38 : ¬ k0.toInt = 38) (c1_39 : ¬ k0.toInt = 39) (c1_40 : ¬ k0.toInt = 40) (c1_41 : ¬ k0.toInt = 41) (c1_42 : ¬ k0.toInt = 42) (c1_43 : ¬ k0.toInt = 43) (c1_44 : ¬ k0.toInt = 44) (c1_45 : ¬ k0.toInt = 45) (c1_46 : ¬ k0.toInt = 46) (c1_47 : ¬ k0.toInt = 47) (c1_48 : ¬ k0.toInt = 48) (c1_49 : ¬ k0.toInt = 49) (c1_50 : k0.toInt = 50) : (¬ (0 : Int32).toInt = 0 → SI k0.toInt) ∧ ((0 : Int32).toInt = 0 → ¬ SI k0.toInt) := by
  have q0 : (0 : Int32).toInt = 0 := by decide +kernel
  constructor <;> intro h9 <;> omega
-- post2 @143
theorem vX4_isSingle_21 (k0 : Int32) (c1_33 : ¬ k0.toInt = 33) (c1_34 : ¬ k0.toInt = 34) (c1_35 : ¬ k0.toInt = 35) (c1_36 : ¬ k0.toInt = 36) (c1_37 : ¬ k0.toInt = 37) (c1_38 : ¬ k0.toInt = 38) (c1_39 : ¬ k0.toInt = 39) (c1_40 : ¬ k0.toInt = 40) (c1_41 : ¬ k0.toInt = 41) (c1_42 : ¬ k0.toInt = 42) (c1_43 : ¬ k0.toInt = 43) (c1_44 : ¬ k0.toInt = 44) (c1_45 : ¬ k0.toInt = 45) (c1_46 : ¬ k0.toInt = 46) (c1_47 : ¬ k0.toInt = 47) (c1_48 : ¬ k0.toInt = 48) (c1_49 : ¬ k0.toInt = 49) (c1_50 : ¬ k0.toInt = 50) (c1_51 : k0.toInt = 51) : (¬ (0 : Int32).toInt = 0 → SI k0.toInt) ∧ ((0 : Int32).toInt = 0 → ¬ SI k0.toInt) := by
  have q0 : (0 : Int32).toInt = 0 := by decide +kernel
  constructor <;> intro h9 <;> omega
-- post2 @143
theorem vX4_isSingle_22 (k0 : Int32) (c1_33 : ¬ k0.toInt = 33) (c1_34 : ¬ k0.toInt = 34) (c1_35 : ¬ k0.toInt = 35) (c1_36 : ¬ k0.toInt = 36) (c1_37 : ¬ k0.toInt = 37) (c1_38 : ¬ k0.toInt = 38) (c1_39 : ¬ k0.toInt = 39) (c1_40 : ¬ k0.toInt = 40) (c1_41 : ¬ k0.toInt = 41) (c1_42 : ¬ k0.toInt = 42) (c1_43 : ¬ k0.toInt = 43) (c1_44 : ¬ k0.toInt = 44) (c1_45 : ¬ k0.toInt = 45) (c1_46 : ¬ k0.toInt = 46) (c1_47 : ¬ k0.toInt = 47) (c1_48 : ¬ k0.toInt = 48) (c1_49 : ¬ k0.toInt = 49) (c1_50 : ¬ k0.toInt = 50) (c1_51 : ¬ k0.toInt = 51) (c1_52 : k0.toInt = 52) : (¬ (0 : Int32).toInt = 0 → SI k0.toInt) ∧ ((0 : Int32).toInt = 0 → ¬ SI k0.toInt) := by
  have q0 : (0 : Int32).toInt = 0 := by decide +kernel
  constructor <;> intro h9 <;> omega
-- post2 @143
theorem vX4_isSingle_23 (k0 : Int32) (c1_33 : ¬ k0.toInt = 33) (c1_34 : ¬ k0.toInt = 34) (c1_35 : ¬ k0.toInt = 35) (c1_36 : ¬ k0.toInt = 36) (c1_37 : ¬ k0.toInt = 37) (c1_38 : ¬ k0.toInt = 38) (c1_39 : ¬ k0.toInt = 39) (c1_40 : ¬ k0.toInt = 40) (c1_41 : ¬ k0.toInt = 41) (c1_42 : ¬ k0.toInt = 42) (c1_43 : ¬ k0.toInt = 43) (c1_44 : ¬ k0.toInt = 44) (c1_45 : ¬ k0.toInt = 45) (c1_46 : ¬ k0.toInt = 46) (c1_47 : ¬ k0.toInt = 47) (c1_48 : ¬ k0.toInt = 48) (c1_49 : ¬ k0.toInt = 49) (c1_50 : ¬ k0.toInt = 50) (c1_51 : ¬ k0.toInt = 51) (c1_52 : ¬ k0.toInt = 52) (c1_53 : k0.toInt = 53) : (¬ (0 : Int32).toInt = 0 → SI k0.toInt) ∧ ((0 : Int32).toInt = 0 → ¬ SI k0.toInt) := by
  have q0 : (0 : Int32).toInt = 0 := by decide +kernel
  constructor <;> intro h9 <;> omega
-- post2 @143
theorem vX4_isSingle_24 (k0 : Int32) (c1_33 : ¬ k0.toInt = 33) (c1_34 : ¬ k0.toInt = 34) (c1_35 : ¬ k0.toInt = 35) (c1_36 : ¬ k0.toInt = 36) (c1_37 : ¬ k0.toInt = 37) (c1_38 : ¬ k0.toInt = 38) (c1_39 : ¬ k0.toInt = 39) (c1_40 : ¬ k0.toInt = 40) (c1_41 : ¬ k0.toInt = 41) (c1_42 : ¬ k0.toInt = 42) (c1_43 : ¬ k0.toInt = 43) (c1_44 : ¬ k0.toInt = 44) (c1_45 : ¬ k0.toInt = 45) (c1_46 : ¬ k0.toInt = 46) (c1_47 : ¬ k0.toInt = 47) (c1_48 : ¬ k0.toInt = 48) (c1_49 : ¬ k0.toInt = 49) (c1_50 : ¬ k0.toInt = 50) (c1_51 : ¬ k0.toInt = 51) (c1_52 : ¬ k0.toInt = 52) (c1_53 : ¬ k0.toInt = 53) (c1_54 : k0.toInt = 54) : (¬ (0 : Int32).toInt = 0 → SI k0.toInt) ∧ ((0 : Int32).toInt = 0 → ¬ SI k0.toInt) := by
  have q0 : (0 : Int32).toInt = 0 := by decide +kernel
  constructor <;> intro h9 <;> omega
-- post2 @143
theorem vX4_isSingle_25 (k0 : Int32) (c1_33 : ¬ k0.toInt = 33) (c1_34 : ¬ k0.toInt = 34) (c1_35 : ¬ k0.toInt = 35) (c1_36 : ¬ k0.toInt = 36) (c1_37 : ¬ k0.toInt = 37) (c1_38 : ¬ k0.toInt = 38) (c1_39 : ¬ k0.toInt = 39) (c1_40 : ¬ k0.toInt = 40) (c1_41 : ¬ k0.toInt = 41) (c1_42 : ¬ k0.toInt = 42) (c1_43 : ¬ k0.toInt = 43) (c1_44 : ¬ k0.toInt = 44) (c1_45 : ¬ k0.toInt = 45) (c1_46 : ¬ k0.toInt = 46) (c1_47 : ¬ k0.toInt = 47) (c1_48 : ¬ k0.toInt = 48) (c1_49 : ¬ k0.toInt = 49) (c1_50 : ¬ k0.toInt = 50) (c1_51 : ¬ k0.toInt = 51) (c1_52 : ¬ k0.toInt = 52) (c1_53 : ¬ k0.toInt = 53) (c1_54 : ¬ k0.toInt = 54) (c1_55 : k0.toInt = 55) : (¬ (0 : Int32).toInt = 0 → SI k0.toInt) ∧ ((0 : Int32).toInt = 0 → ¬ SI k0.toInt) := by
  have q0 : (0 : Int32).toInt = 0 := by decide +kernel
  constructor <;> intro h9 <;> omega
-- post2 @143
theorem vX4_isSingle_26 (k0 : Int32) (c1_33 : ¬ k0.toInt = 33) (c1_34 : ¬ k0.toInt = 34) (c1_35 : ¬ k0.toInt = 35) (c1_36 : ¬ k0.toInt = 36) (c1_37 : ¬ k0.toInt = 37) (c1_38 : ¬ k0.toInt = 38) (c1_39 : ¬ k0.toInt = 39) (c1_40 : ¬ k0.toInt = 40) (c1_41 : ¬ k0.toInt = 41) (c1_42 : ¬ k0.toInt = 42) (c1_43 : ¬ k0.toInt = 43) (c1_44 : ¬ k0.toInt = 44) (c1_45 : ¬ k0.toInt = 45) (c1_46 : ¬ k0.toInt = 46) (c1_47 : ¬ k0.toInt = 47) (c1_48 : ¬ k0.toInt = 48) (c1_49 : ¬ k0.toInt = 49) (c1_50 : ¬ k0.toInt = 50) (c1_51 : ¬ k0.toInt = 51) (c1_52 : ¬ k0.toInt = 52) (c1_53 : ¬ k0.toInt = 53) (c1_54 : ¬ k0.toInt = 54) (c1_55 : ¬ k0.toInt = 55) (c1_56 : k0.toInt = 56) : (¬ (0 : Int32).toInt = 0 → SI k0.toInt) ∧ ((0 : Int32).toInt = 0 → ¬ SI k0.toInt) := by
  have q0 : (0 : Int32).toInt = 0 := by decide +kernel
  constructor <;> intro h9 <;> omega
-- post2 @143
theorem vX4_isSingle_27 (k0 : Int32) (c1_33 : ¬ k0.toInt = 33) (c1_34 : ¬ k0.toInt = 34) (c1_35 : ¬ k0.toInt = 35) (c1_36 : ¬ k0.toInt = 36) (c1_37 : ¬ k0.toInt = 37) (c1_38 : ¬ k0.toInt = 38) (c1_39 : ¬ k0.toInt = 39) (c1_40 : ¬ k0.toInt = 40) (c1_41 : ¬ k0.toInt = 41) (c1_42 : ¬ k0.toInt = 42) (c1_43 : ¬ k0.toInt = 43) (c1_44 : ¬ k0.toInt = 44) (c1_45 : ¬ k0.toInt = 45) (c1_46 : ¬ k0.toInt = 46) (c1_47 : ¬ k0.toInt = 47) (c1_48 : ¬ k0.toInt = 48) (c1_49 : ¬ k0.toInt = 49) (c1_50 : ¬ k0.toInt = 50) (c1_51 : ¬ k0.toInt = 51) (c1_52 : ¬ k0.toInt = 52) (c1_53 : ¬ k0.toInt = 53) (c1_54 : ¬ k0.toInt = 54) (c1_55 : ¬ k0.toInt = 55) (c1_56 : ¬ k0.toInt = 56) (c1_57 : k0.toInt = 57) : (¬ (0 : Int32).toInt = 0 → SI k0.toInt) ∧ ((0 : Int32).toInt = 0 → ¬ SI k0.toInt) := by
  have q0 : (0 : Int32).toInt = 0 := by decide +kernel
  constructor <;> intro h9 <;> omega
-- post2 @141
theorem vX4_isSingle_28 (k0 : Int32) (c1_33 : ¬ k0.toInt = 33) (c1_34 : ¬ k0.toInt = 34) (c1_35 : ¬ k0.toInt = 35) (c1_36 : ¬ k0.toInt = 36) (c1_37 : ¬ k0.toInt = 37) (c1_38 : ¬ k0.toInt = 38) (c1_39 : ¬ k0.toInt = 39) (c1_40 : ¬ k0.toInt = 40) (c1_41 : ¬ k0.toInt = 41) (c1_42 : ¬ k0.toInt = 42) (c1_43 : ¬ k0.toInt = 43) (c1_44 : ¬ k0.toInt = 44) (c1_45 : ¬ k0.toInt = 45) (c1_46 : ¬ k0.toInt = 46) (c1_47 : ¬ k0.toInt = 47) (c1_48 : ¬ k0.toInt = 48) (c1_49 : ¬ k0.toInt = 49) (c1_50 : ¬ k0.toInt = 50) (c1_51 : ¬ k0.toInt = 51) (c1_52 : ¬ k0.toInt = 52) (c1_53 : ¬ k0.toInt = 53) (c1_54 : ¬ k0.toInt = 54) (c1_55 : ¬ k0.toInt = 55) (c1_56 : ¬ k0.toInt = 56) (c1_57 : ¬ k0.toInt = 57) (c1_58 : k0.toInt = 58) : (¬ (1 : Int32).toInt = 0 → SI k0.toInt) ∧ ((1 : Int32).toInt = 0 → ¬ SI k0.toInt) := by
  have q1 : (1 : Int32).toInt = 1 := by decide +kernel
  constructor <;> intro h9 <;> omega
-- post2 @143
theorem vX4_isSingle_29 (k0 : Int32) (c1_33 : ¬ k0.toInt = 33) (c1_34 : ¬ k0.toInt = 34) (c1_35 : ¬ k0.toInt = 35) (c1_36 : ¬ k0.toInt = 36) (c1_37 : ¬ k0.toInt = 37) (c1_38 : ¬ k0.toInt = 38) (c1_39 : ¬ k0.toInt = 39) (c1_40 : ¬ k0.toInt = 40) (c1_41 : ¬ k0.toInt = 41) (c1_42 : ¬ k0.toInt = 42) (c1_43 : ¬ k0.toInt = 43) (c1_44 : ¬ k0.toInt = 44) (c1_45 : ¬ k0.toInt = 45) (c1_46 : ¬ k0.toInt = 46) (c1_47 : ¬ k0.toInt = 47) (c1_48 : ¬ k0.toInt = 48) (c1_49 : ¬ k0.toInt = 49) (c1_50 : ¬ k0.toInt = 50) (c1_51 : ¬ k0.toInt = 51) (c1_52 : ¬ k0.toInt = 52) (c1_53 : ¬ k0.toInt = 53) (c1_54 : ¬ k0.toInt = 54) (c1_55 : ¬ k0.toInt = 55) (c1_56 : ¬ k0.toInt = 56) (c1_57 : ¬ k0.toInt = 57) (c1_58 : ¬ k0.toInt = 58) (c1_59 : k0.toInt = 59) : (¬ (0 : Int32).toInt = 0 → SI k0.toInt) ∧ ((0 : Int32).toInt = 0 → ¬ SI k0.toInt) := by
  have q0 : (0 : Int32).toInt = 0 := by decide +kernel
  constructor <;> intro h9 <;> omega
-- post2 @141
theorem vX4_isSingle_30 (k0 : Int32) (c1_33 : ¬ k0.toInt = 33) (c1_34 : ¬ k0.toInt = 34) (c1_35 : ¬ k0.toInt = 35) (c1_36 : ¬ k0.toInt = 36) (c1_37 : ¬ k0.toInt = 37) (c1_38 : ¬ k0.toInt = 38) (c1_39 : ¬ k0.toInt = 39) (c1_40 : ¬ k0.toInt = 40) (c1_41 : ¬ k0.toInt = 41) (c1_42 : ¬ k0.toInt = 42) (c1_43 : ¬ k0.toInt = 43) (c1_44 : ¬ k0.toInt = 44) (c1_45 : ¬ k0.toInt = 45) (c1_46 : ¬ k0.toInt = 46) (c1_47 : ¬ k0.toInt = 47) (c1_48 : ¬ k0.toInt = 48) (c1_49 : ¬ k0.toInt = 49) (c1_50 : ¬ k0.toInt = 50) (c1_51 : ¬ k0.toInt = 51) (c1_52 : ¬ k0.toInt = 52) (c1_53 : ¬ k0.toInt = 53) (c1_54 : ¬ k0.toInt = 54) (c1_55 : ¬ k0.toInt = 55) (c1_56 : ¬ k0.toInt = 56) (c1_57 : ¬ k0.toInt = 57) (c1_58 : ¬ k0.toInt = 58) (c1_59 : ¬ k0.toInt = 59) (c1_60 : k0.toInt = 60) : (¬ (1 : Int32).toInt = 0 → SI k0.toInt) ∧ ((1 : Int32).toInt = 0 → ¬ SI k0.toInt) := by
  have q1 : (1 : Int32).toInt = 1 := by decide +kernel
  constructor <;> intro h9 <;> omega
-- post2 @141
theorem vX4_isSingle_31 (k0 : Int32) (c1_33 : ¬ k0.toInt = 33) (c1_34 : ¬ k0.toInt = 34) (c1_35 : ¬ k0.toInt = 35) (c1_36 : ¬ k0.toInt = 36) (c1_37 : ¬ k0.toInt = 37) (c1_38 : ¬ k0.toInt = 38) (c1_39 : ¬ k0.toInt = 39) (c1_40 : ¬ k0.toInt = 40) (c1_41 : ¬ k0.toInt = 41) (c1_42 : ¬ k0.toInt = 42) (c1_43 : ¬ k0.toInt = 43) (c1_44 : ¬ k0.toInt = 44) (c1_45 : ¬ k0.toInt = 45) (c1_46 : ¬ k0.toInt = 46) (c1_47 : ¬ k0.toInt = 47) (c1_48 : ¬ k0.toInt = 48) (c1_49 : ¬ k0.toInt = 49) (c1_50 : ¬ k0.toInt = 50) (c1_51 : ¬ k0.toInt = 51) (c1_52 : ¬ k0.toInt = 52) (c1_53 : ¬ k0.toInt = 53) (c1_54 : ¬ k0.toInt = 54) (c1_55 : ¬ k0.toInt = 55) (c1_56 : ¬ k0.toInt = 56) (c1_57 : ¬ k0.toInt = 57) (c1_58 : ¬ k0.toInt = 58) (c1_59 : ¬ k0.toInt = 59) (c1_60 : ¬ k0.toInt = 60) (c1_61 : k0.toInt = 61) : (¬ (1 : Int32).toInt = 0 → SI k0.toInt) ∧ ((1 : Int32).toInt = 0 → ¬ SI k0.toInt) := by
  have q1 : (1 : Int32).toInt = 1 := by decide +kernel
  constructor <;> intro h9 <;> omega
-- post2 @141
theorem vX4_isSingle_32 (k0 : Int32) (c1_33 : ¬ k0.toInt = 33) (c1_34 : ¬ k0.toInt = 34) (c1_35 : ¬ k0.toInt = 35) (c1_36 : ¬ k0.toInt = 36) (c1_37 : ¬ k0.toInt = 37) (c1_38 : ¬ k0.toInt = 38) (c1_39 : ¬ k0.toInt = 39) (c1_40 : ¬ k0.toInt = 40) (c1_41 : ¬ k0.toInt = 41) (c1_42 : ¬ k0.toInt = 42) (c1_43 : ¬ k0.toInt = 43) (c1_44 : ¬ k0.toInt = 44) (c1_45 : ¬ k0.toInt = 45) (c1_46 : ¬ k0.toInt = 46) (c1_47 : ¬ k0.toInt = 47) (c1_48 : ¬ k0.toInt = 48) (c1_49 : ¬ k0.toInt = 49) (c1_50 : ¬ k0.toInt = 50) (c1_51 : ¬ k0.toInt = 51) (c1_52 : ¬ k0.toInt = 52) (c1_53 : ¬ k0.toInt = 53) (c1_54 : ¬ k0.toInt = 54) (c1_55 : ¬ k0.toInt = 55) (c1_56 : ¬ k0.toInt = 56) (c1_57 : ¬ k0.toInt = 57) (c1_58 : ¬ k0.toInt = 58) (c1_59 : ¬ k0.toInt = 59) (c1_60 : ¬ k0.toInt = 60) (c1_61 : ¬ k0.toInt = 61) (c1_62 : k0.toInt = 62) : (¬ (1 : Int32).toInt = 0 → SI k0.toInt) ∧ ((1 : Int32).toInt = 0 → ¬ SI k0.toInt) := by
  have q1 : (1 : Int32).toInt = 1 := by decide +kernel
  constructor <;> intro h9 <;> omega
-- post2 @141
theorem vX4_isSingle_33 (k0 : Int32) (c1_33 : ¬ k0.toInt = 33) (c1_34 : ¬ k0.toInt = 34) (c1_35 : ¬ k0.toInt = 35) (c1_36 : ¬ k0.toInt = 36) (c1_37 : ¬ k0.toInt = 37) (c1_38 : ¬ k0.toInt = 38) (c1_39 : ¬ k0.toInt = 39) (c1_40 : ¬ k0.toInt = 40) (c1_41 : ¬ k0.toInt = 41) (c1_42 : ¬ k0.toInt = 42) (c1_43 : ¬ k0.toInt = 43) (c1_44 : ¬ k0.toInt = 44) (c1_45 : ¬ k0.toInt = 45) (c1_46 : ¬ k0.toInt = 46) (c1_47 : ¬ k0.toInt = 47) (c1_48 : ¬ k0.toInt = 48) (c1_49 : ¬ k0.toInt = 49) (c1_50 : ¬ k0.toInt = 50) (c1_51 : ¬ k0.toInt = 51) (c1_52 : ¬ k0.toInt = 52) (c1_53 : ¬ k0.toInt = 53) (c1_54 : ¬ k0.toInt = 54) (c1_55 : ¬ k0.toInt = 55) (c1_56 : ¬ k0.toInt = 56) (c1_57 : ¬ k0.toInt = 57) (c1_58 : ¬ k0.toInt = 58) (c1_59 : ¬ k0.toInt = 59) (c1_60 : ¬ k0.toInt = 60) (c1_61 : ¬ k0.toInt = 61) (c1_62 : ¬ k0.toInt = 62) (c1_63 : k0.toInt = 63) : (¬ (1 : Int32).toInt = 0 → SI k0.toInt) ∧ ((1 : Int32).toInt = 0 → ¬ SI k0.toInt) := by
  have q1 : (1 : Int32).toInt = 1 := by decide +kernel
  constructor <;> intro h9 <;> omega
-- post2 @143
theorem vX4_isSingle_34 (k0 : Int32) (c1_33 : ¬ k0.toInt = 33) (c1_34 : ¬ k0.toInt = 34) (c1_35 : ¬ k0.toInt = 35) (c1_36 : ¬ k0.toInt = 36) (c1_37 : ¬ k0.toInt = 37) (c1_38 : ¬ k0.toInt = 38) (c1_39 : ¬ k0.toInt = 39) (c1_40 : ¬ k0.toInt = 40) (c1_41 : ¬ k0.toInt = 41) (c1_42 : ¬ k0.toInt = 42) (c1_43 : ¬ k0.toInt = 43) (c1_44 : ¬ k0.toInt = 44) (c1_45 : ¬ k0.toInt = 45) (c1_46 : ¬ k0.toInt = 46) (c1_47 : ¬ k0.toInt = 47) (c1_48 : ¬ k0.toInt = 48) (c1_49 : ¬ k0.toInt = 49) (c1_50 : ¬ k0.toInt = 50) (c1_51 : ¬ k0.toInt = 51) (c1_52 : ¬ k0.toInt = 52) (c1_53 : ¬ k0.toInt = 53) (c1_54 : ¬ k0.toInt = 54) (c1_55 : ¬ k0.toInt = 55) (c1_56 : ¬ k0.toInt = 56) (c1_57 : ¬ k0.toInt = 57) (c1_58 : ¬ k0.toInt = 58) (c1_59 : ¬ k0.toInt = 59) (c1_60 : ¬ k0.toInt = 60) (c1_61 : ¬ k0.toInt = 61) (c1_62 : ¬ k0.toInt = 62) (c1_63 : ¬ k0.toInt = 63) : (¬ (0 : Int32).toInt = 0 → SI k0.toInt) ∧ ((0 : Int32).toInt = 0 → ¬ SI k0.toInt) := by
  have q0 : (0 : Int32).toInt = 0 := by decide +kernel
  constructor <;> intro h9 <;> omega
set_option maxHeartbeats 4000000 in
set_option maxRecDepth 100000 in
theorem NX4_isSingle (l : Launch) (D : va_G) (cy : Nat → ClassId) (ad : Nat → Nat) (A : Nat → Prop) (sz0 : Nat) (sa : Nat → Nat)  (κ : KS) (sz sl : Nat) (hAF : ∀ q, A q → Fr sz0 q) (hAn : ∀ q : Nat, sz ≤ q → A q) (k0 : Int32)  : Met l yX4_isSingle (Cond.code yX4_isSingle cX4_isSingle 1 (some .boolean) :: GWc) ({ frames := 0, cells := 0, slots := 0, locals := 0 }) (PcC D cy ad A sz0 sa [.int k0] κ sz sl) (va_Qi (fun (r : Int32) (u : Unit) => ((0 ≤ r.toInt ∧ r.toInt ≤ 1)) ∧ ((¬ r.toInt = 0 → SI k0.toInt) ∧ (r.toInt = 0 → ¬ SI k0.toInt))) (fun (u : Unit) (t : State) => Bx D cy ad A sz sl κ (0) (0) t) A) (0) (0) A := by
  refine CM_of (loc0 := [(0, .int k0)]) (own := RX4) (nm := "isSingle") (by decide) rfl rfl rfl (Nat.le_of_ble_eq_true rfl) hAF hAn ?_
  intro p e s m below meth c ls hsz hsl C hP hS hl
  refine lv_iload_n C.x C.b dX4_isSingle_0 rfl (lv_at hl 0 rfl) ?_
  by_cases c1_33 : k0.toInt = 33
  · refine lv_tableIn (off := 139) (tgt := 140) C.x C.b dX4_isSingle_1 (by rw [c1_33]; decide +kernel) (by rw [c1_33]; decide +kernel) (by rw [c1_33]; decide +kernel) (by decide) ?_
    refine lv_iconst (v := 1) C.x C.b dX4_isSingle_140 (by decide +kernel) ?_
    exact c_retz (ty := .boolean) (hv := rfl) C hsz hsl () ⟨(vX4_isSingle_1  ), (vX4_isSingle_2 k0 c1_33)⟩ hP hS ⟨(Nat.le_of_ble_eq_true rfl), (Nat.le_of_ble_eq_true rfl)⟩ ⟨(Nat.le_of_ble_eq_true rfl), (Nat.le_of_ble_eq_true rfl)⟩ dX4_isSingle_141
  · by_cases c1_34 : k0.toInt = 34
    · refine lv_tableIn (off := 141) (tgt := 142) C.x C.b dX4_isSingle_1 (by rw [c1_34]; decide +kernel) (by rw [c1_34]; decide +kernel) (by rw [c1_34]; decide +kernel) (by decide) ?_
      refine lv_iconst (v := 0) C.x C.b dX4_isSingle_142 (by decide +kernel) ?_
      exact c_retz (ty := .boolean) (hv := rfl) C hsz hsl () ⟨(vX4_isSingle_3  ), (vX4_isSingle_4 k0 c1_33 c1_34)⟩ hP hS ⟨(Nat.le_of_ble_eq_true rfl), (Nat.le_of_ble_eq_true rfl)⟩ ⟨(Nat.le_of_ble_eq_true rfl), (Nat.le_of_ble_eq_true rfl)⟩ dX4_isSingle_143
    · by_cases c1_35 : k0.toInt = 35
      · refine lv_tableIn (off := 139) (tgt := 140) C.x C.b dX4_isSingle_1 (by rw [c1_35]; decide +kernel) (by rw [c1_35]; decide +kernel) (by rw [c1_35]; decide +kernel) (by decide) ?_
        refine lv_iconst (v := 1) C.x C.b dX4_isSingle_140 (by decide +kernel) ?_
        exact c_retz (ty := .boolean) (hv := rfl) C hsz hsl () ⟨(vX4_isSingle_1  ), (vX4_isSingle_5 k0 c1_33 c1_34 c1_35)⟩ hP hS ⟨(Nat.le_of_ble_eq_true rfl), (Nat.le_of_ble_eq_true rfl)⟩ ⟨(Nat.le_of_ble_eq_true rfl), (Nat.le_of_ble_eq_true rfl)⟩ dX4_isSingle_141
      · by_cases c1_36 : k0.toInt = 36
        · refine lv_tableIn (off := 141) (tgt := 142) C.x C.b dX4_isSingle_1 (by rw [c1_36]; decide +kernel) (by rw [c1_36]; decide +kernel) (by rw [c1_36]; decide +kernel) (by decide) ?_
          refine lv_iconst (v := 0) C.x C.b dX4_isSingle_142 (by decide +kernel) ?_
          exact c_retz (ty := .boolean) (hv := rfl) C hsz hsl () ⟨(vX4_isSingle_3  ), (vX4_isSingle_6 k0 c1_33 c1_34 c1_35 c1_36)⟩ hP hS ⟨(Nat.le_of_ble_eq_true rfl), (Nat.le_of_ble_eq_true rfl)⟩ ⟨(Nat.le_of_ble_eq_true rfl), (Nat.le_of_ble_eq_true rfl)⟩ dX4_isSingle_143
        · by_cases c1_37 : k0.toInt = 37
          · refine lv_tableIn (off := 139) (tgt := 140) C.x C.b dX4_isSingle_1 (by rw [c1_37]; decide +kernel) (by rw [c1_37]; decide +kernel) (by rw [c1_37]; decide +kernel) (by decide) ?_
            refine lv_iconst (v := 1) C.x C.b dX4_isSingle_140 (by decide +kernel) ?_
            exact c_retz (ty := .boolean) (hv := rfl) C hsz hsl () ⟨(vX4_isSingle_1  ), (vX4_isSingle_7 k0 c1_33 c1_34 c1_35 c1_36 c1_37)⟩ hP hS ⟨(Nat.le_of_ble_eq_true rfl), (Nat.le_of_ble_eq_true rfl)⟩ ⟨(Nat.le_of_ble_eq_true rfl), (Nat.le_of_ble_eq_true rfl)⟩ dX4_isSingle_141
          · by_cases c1_38 : k0.toInt = 38
            · refine lv_tableIn (off := 141) (tgt := 142) C.x C.b dX4_isSingle_1 (by rw [c1_38]; decide +kernel) (by rw [c1_38]; decide +kernel) (by rw [c1_38]; decide +kernel) (by decide) ?_
              refine lv_iconst (v := 0) C.x C.b dX4_isSingle_142 (by decide +kernel) ?_
              exact c_retz (ty := .boolean) (hv := rfl) C hsz hsl () ⟨(vX4_isSingle_3  ), (vX4_isSingle_8 k0 c1_33 c1_34 c1_35 c1_36 c1_37 c1_38)⟩ hP hS ⟨(Nat.le_of_ble_eq_true rfl), (Nat.le_of_ble_eq_true rfl)⟩ ⟨(Nat.le_of_ble_eq_true rfl), (Nat.le_of_ble_eq_true rfl)⟩ dX4_isSingle_143
            · by_cases c1_39 : k0.toInt = 39
              · refine lv_tableIn (off := 141) (tgt := 142) C.x C.b dX4_isSingle_1 (by rw [c1_39]; decide +kernel) (by rw [c1_39]; decide +kernel) (by rw [c1_39]; decide +kernel) (by decide) ?_
                refine lv_iconst (v := 0) C.x C.b dX4_isSingle_142 (by decide +kernel) ?_
                exact c_retz (ty := .boolean) (hv := rfl) C hsz hsl () ⟨(vX4_isSingle_3  ), (vX4_isSingle_9 k0 c1_33 c1_34 c1_35 c1_36 c1_37 c1_38 c1_39)⟩ hP hS ⟨(Nat.le_of_ble_eq_true rfl), (Nat.le_of_ble_eq_true rfl)⟩ ⟨(Nat.le_of_ble_eq_true rfl), (Nat.le_of_ble_eq_true rfl)⟩ dX4_isSingle_143
              · by_cases c1_40 : k0.toInt = 40
                · refine lv_tableIn (off := 139) (tgt := 140) C.x C.b dX4_isSingle_1 (by rw [c1_40]; decide +kernel) (by rw [c1_40]; decide +kernel) (by rw [c1_40]; decide +kernel) (by decide) ?_
                  refine lv_iconst (v := 1) C.x C.b dX4_isSingle_140 (by decide +kernel) ?_
                  exact c_retz (ty := .boolean) (hv := rfl) C hsz hsl () ⟨(vX4_isSingle_1  ), (vX4_isSingle_10 k0 c1_33 c1_34 c1_35 c1_36 c1_37 c1_38 c1_39 c1_40)⟩ hP hS ⟨(Nat.le_of_ble_eq_true rfl), (Nat.le_of_ble_eq_true rfl)⟩ ⟨(Nat.le_of_ble_eq_true rfl), (Nat.le_of_ble_eq_true rfl)⟩ dX4_isSingle_141
                · by_cases c1_41 : k0.toInt = 41
                  · refine lv_tableIn (off := 139) (tgt := 140) C.x C.b dX4_isSingle_1 (by rw [c1_41]; decide +kernel) (by rw [c1_41]; decide +kernel) (by rw [c1_41]; decide +kernel) (by decide) ?_
                    refine lv_iconst (v := 1) C.x C.b dX4_isSingle_140 (by decide +kernel) ?_
                    exact c_retz (ty := .boolean) (hv := rfl) C hsz hsl () ⟨(vX4_isSingle_1  ), (vX4_isSingle_11 k0 c1_33 c1_34 c1_35 c1_36 c1_37 c1_38 c1_39 c1_40 c1_41)⟩ hP hS ⟨(Nat.le_of_ble_eq_true rfl), (Nat.le_of_ble_eq_true rfl)⟩ ⟨(Nat.le_of_ble_eq_true rfl), (Nat.le_of_ble_eq_true rfl)⟩ dX4_isSingle_141
                  · by_cases c1_42 : k0.toInt = 42
                    · refine lv_tableIn (off := 139) (tgt := 140) C.x C.b dX4_isSingle_1 (by rw [c1_42]; decide +kernel) (by rw [c1_42]; decide +kernel) (by rw [c1_42]; decide +kernel) (by decide) ?_
                      refine lv_iconst (v := 1) C.x C.b dX4_isSingle_140 (by decide +kernel) ?_
                      exact c_retz (ty := .boolean) (hv := rfl) C hsz hsl () ⟨(vX4_isSingle_1  ), (vX4_isSingle_12 k0 c1_33 c1_34 c1_35 c1_36 c1_37 c1_38 c1_39 c1_40 c1_41 c1_42)⟩ hP hS ⟨(Nat.le_of_ble_eq_true rfl), (Nat.le_of_ble_eq_true rfl)⟩ ⟨(Nat.le_of_ble_eq_true rfl), (Nat.le_of_ble_eq_true rfl)⟩ dX4_isSingle_141
                    · by_cases c1_43 : k0.toInt = 43
                      · refine lv_tableIn (off := 139) (tgt := 140) C.x C.b dX4_isSingle_1 (by rw [c1_43]; decide +kernel) (by rw [c1_43]; decide +kernel) (by rw [c1_43]; decide +kernel) (by decide) ?_
                        refine lv_iconst (v := 1) C.x C.b dX4_isSingle_140 (by decide +kernel) ?_
                        exact c_retz (ty := .boolean) (hv := rfl) C hsz hsl () ⟨(vX4_isSingle_1  ), (vX4_isSingle_13 k0 c1_33 c1_34 c1_35 c1_36 c1_37 c1_38 c1_39 c1_40 c1_41 c1_42 c1_43)⟩ hP hS ⟨(Nat.le_of_ble_eq_true rfl), (Nat.le_of_ble_eq_true rfl)⟩ ⟨(Nat.le_of_ble_eq_true rfl), (Nat.le_of_ble_eq_true rfl)⟩ dX4_isSingle_141
                      · by_cases c1_44 : k0.toInt = 44
                        · refine lv_tableIn (off := 139) (tgt := 140) C.x C.b dX4_isSingle_1 (by rw [c1_44]; decide +kernel) (by rw [c1_44]; decide +kernel) (by rw [c1_44]; decide +kernel) (by decide) ?_
                          refine lv_iconst (v := 1) C.x C.b dX4_isSingle_140 (by decide +kernel) ?_
                          exact c_retz (ty := .boolean) (hv := rfl) C hsz hsl () ⟨(vX4_isSingle_1  ), (vX4_isSingle_14 k0 c1_33 c1_34 c1_35 c1_36 c1_37 c1_38 c1_39 c1_40 c1_41 c1_42 c1_43 c1_44)⟩ hP hS ⟨(Nat.le_of_ble_eq_true rfl), (Nat.le_of_ble_eq_true rfl)⟩ ⟨(Nat.le_of_ble_eq_true rfl), (Nat.le_of_ble_eq_true rfl)⟩ dX4_isSingle_141
                        · by_cases c1_45 : k0.toInt = 45
                          · refine lv_tableIn (off := 139) (tgt := 140) C.x C.b dX4_isSingle_1 (by rw [c1_45]; decide +kernel) (by rw [c1_45]; decide +kernel) (by rw [c1_45]; decide +kernel) (by decide) ?_
                            refine lv_iconst (v := 1) C.x C.b dX4_isSingle_140 (by decide +kernel) ?_
                            exact c_retz (ty := .boolean) (hv := rfl) C hsz hsl () ⟨(vX4_isSingle_1  ), (vX4_isSingle_15 k0 c1_33 c1_34 c1_35 c1_36 c1_37 c1_38 c1_39 c1_40 c1_41 c1_42 c1_43 c1_44 c1_45)⟩ hP hS ⟨(Nat.le_of_ble_eq_true rfl), (Nat.le_of_ble_eq_true rfl)⟩ ⟨(Nat.le_of_ble_eq_true rfl), (Nat.le_of_ble_eq_true rfl)⟩ dX4_isSingle_141
                          · by_cases c1_46 : k0.toInt = 46
                            · refine lv_tableIn (off := 139) (tgt := 140) C.x C.b dX4_isSingle_1 (by rw [c1_46]; decide +kernel) (by rw [c1_46]; decide +kernel) (by rw [c1_46]; decide +kernel) (by decide) ?_
                              refine lv_iconst (v := 1) C.x C.b dX4_isSingle_140 (by decide +kernel) ?_
                              exact c_retz (ty := .boolean) (hv := rfl) C hsz hsl () ⟨(vX4_isSingle_1  ), (vX4_isSingle_16 k0 c1_33 c1_34 c1_35 c1_36 c1_37 c1_38 c1_39 c1_40 c1_41 c1_42 c1_43 c1_44 c1_45 c1_46)⟩ hP hS ⟨(Nat.le_of_ble_eq_true rfl), (Nat.le_of_ble_eq_true rfl)⟩ ⟨(Nat.le_of_ble_eq_true rfl), (Nat.le_of_ble_eq_true rfl)⟩ dX4_isSingle_141
                            · by_cases c1_47 : k0.toInt = 47
                              · refine lv_tableIn (off := 139) (tgt := 140) C.x C.b dX4_isSingle_1 (by rw [c1_47]; decide +kernel) (by rw [c1_47]; decide +kernel) (by rw [c1_47]; decide +kernel) (by decide) ?_
                                refine lv_iconst (v := 1) C.x C.b dX4_isSingle_140 (by decide +kernel) ?_
                                exact c_retz (ty := .boolean) (hv := rfl) C hsz hsl () ⟨(vX4_isSingle_1  ), (vX4_isSingle_17 k0 c1_33 c1_34 c1_35 c1_36 c1_37 c1_38 c1_39 c1_40 c1_41 c1_42 c1_43 c1_44 c1_45 c1_46 c1_47)⟩ hP hS ⟨(Nat.le_of_ble_eq_true rfl), (Nat.le_of_ble_eq_true rfl)⟩ ⟨(Nat.le_of_ble_eq_true rfl), (Nat.le_of_ble_eq_true rfl)⟩ dX4_isSingle_141
                              · by_cases c1_48 : k0.toInt = 48
                                · refine lv_tableIn (off := 141) (tgt := 142) C.x C.b dX4_isSingle_1 (by rw [c1_48]; decide +kernel) (by rw [c1_48]; decide +kernel) (by rw [c1_48]; decide +kernel) (by decide) ?_
                                  refine lv_iconst (v := 0) C.x C.b dX4_isSingle_142 (by decide +kernel) ?_
                                  exact c_retz (ty := .boolean) (hv := rfl) C hsz hsl () ⟨(vX4_isSingle_3  ), (vX4_isSingle_18 k0 c1_33 c1_34 c1_35 c1_36 c1_37 c1_38 c1_39 c1_40 c1_41 c1_42 c1_43 c1_44 c1_45 c1_46 c1_47 c1_48)⟩ hP hS ⟨(Nat.le_of_ble_eq_true rfl), (Nat.le_of_ble_eq_true rfl)⟩ ⟨(Nat.le_of_ble_eq_true rfl), (Nat.le_of_ble_eq_true rfl)⟩ dX4_isSingle_143
                                · by_cases c1_49 : k0.toInt = 49
                                  · refine lv_tableIn (off := 141) (tgt := 142) C.x C.b dX4_isSingle_1 (by rw [c1_49]; decide +kernel) (by rw [c1_49]; decide +kernel) (by rw [c1_49]; decide +kernel) (by decide) ?_
                                    refine lv_iconst (v := 0) C.x C.b dX4_isSingle_142 (by decide +kernel) ?_
                                    exact c_retz (ty := .boolean) (hv := rfl) C hsz hsl () ⟨(vX4_isSingle_3  ), (vX4_isSingle_19 k0 c1_33 c1_34 c1_35 c1_36 c1_37 c1_38 c1_39 c1_40 c1_41 c1_42 c1_43 c1_44 c1_45 c1_46 c1_47 c1_48 c1_49)⟩ hP hS ⟨(Nat.le_of_ble_eq_true rfl), (Nat.le_of_ble_eq_true rfl)⟩ ⟨(Nat.le_of_ble_eq_true rfl), (Nat.le_of_ble_eq_true rfl)⟩ dX4_isSingle_143
                                  · by_cases c1_50 : k0.toInt = 50
                                    · refine lv_tableIn (off := 141) (tgt := 142) C.x C.b dX4_isSingle_1 (by rw [c1_50]; decide +kernel) (by rw [c1_50]; decide +kernel) (by rw [c1_50]; decide +kernel) (by decide) ?_
                                      refine lv_iconst (v := 0) C.x C.b dX4_isSingle_142 (by decide +kernel) ?_
                                      exact c_retz (ty := .boolean) (hv := rfl) C hsz hsl () ⟨(vX4_isSingle_3  ), (vX4_isSingle_20 k0 c1_33 c1_34 c1_35 c1_36 c1_37 c1_38 c1_39 c1_40 c1_41 c1_42 c1_43 c1_44 c1_45 c1_46 c1_47 c1_48 c1_49 c1_50)⟩ hP hS ⟨(Nat.le_of_ble_eq_true rfl), (Nat.le_of_ble_eq_true rfl)⟩ ⟨(Nat.le_of_ble_eq_true rfl), (Nat.le_of_ble_eq_true rfl)⟩ dX4_isSingle_143
                                    · by_cases c1_51 : k0.toInt = 51
                                      · refine lv_tableIn (off := 141) (tgt := 142) C.x C.b dX4_isSingle_1 (by rw [c1_51]; decide +kernel) (by rw [c1_51]; decide +kernel) (by rw [c1_51]; decide +kernel) (by decide) ?_
                                        refine lv_iconst (v := 0) C.x C.b dX4_isSingle_142 (by decide +kernel) ?_
                                        exact c_retz (ty := .boolean) (hv := rfl) C hsz hsl () ⟨(vX4_isSingle_3  ), (vX4_isSingle_21 k0 c1_33 c1_34 c1_35 c1_36 c1_37 c1_38 c1_39 c1_40 c1_41 c1_42 c1_43 c1_44 c1_45 c1_46 c1_47 c1_48 c1_49 c1_50 c1_51)⟩ hP hS ⟨(Nat.le_of_ble_eq_true rfl), (Nat.le_of_ble_eq_true rfl)⟩ ⟨(Nat.le_of_ble_eq_true rfl), (Nat.le_of_ble_eq_true rfl)⟩ dX4_isSingle_143
                                      · by_cases c1_52 : k0.toInt = 52
                                        · refine lv_tableIn (off := 141) (tgt := 142) C.x C.b dX4_isSingle_1 (by rw [c1_52]; decide +kernel) (by rw [c1_52]; decide +kernel) (by rw [c1_52]; decide +kernel) (by decide) ?_
                                          refine lv_iconst (v := 0) C.x C.b dX4_isSingle_142 (by decide +kernel) ?_
                                          exact c_retz (ty := .boolean) (hv := rfl) C hsz hsl () ⟨(vX4_isSingle_3  ), (vX4_isSingle_22 k0 c1_33 c1_34 c1_35 c1_36 c1_37 c1_38 c1_39 c1_40 c1_41 c1_42 c1_43 c1_44 c1_45 c1_46 c1_47 c1_48 c1_49 c1_50 c1_51 c1_52)⟩ hP hS ⟨(Nat.le_of_ble_eq_true rfl), (Nat.le_of_ble_eq_true rfl)⟩ ⟨(Nat.le_of_ble_eq_true rfl), (Nat.le_of_ble_eq_true rfl)⟩ dX4_isSingle_143
                                        · by_cases c1_53 : k0.toInt = 53
                                          · refine lv_tableIn (off := 141) (tgt := 142) C.x C.b dX4_isSingle_1 (by rw [c1_53]; decide +kernel) (by rw [c1_53]; decide +kernel) (by rw [c1_53]; decide +kernel) (by decide) ?_
                                            refine lv_iconst (v := 0) C.x C.b dX4_isSingle_142 (by decide +kernel) ?_
                                            exact c_retz (ty := .boolean) (hv := rfl) C hsz hsl () ⟨(vX4_isSingle_3  ), (vX4_isSingle_23 k0 c1_33 c1_34 c1_35 c1_36 c1_37 c1_38 c1_39 c1_40 c1_41 c1_42 c1_43 c1_44 c1_45 c1_46 c1_47 c1_48 c1_49 c1_50 c1_51 c1_52 c1_53)⟩ hP hS ⟨(Nat.le_of_ble_eq_true rfl), (Nat.le_of_ble_eq_true rfl)⟩ ⟨(Nat.le_of_ble_eq_true rfl), (Nat.le_of_ble_eq_true rfl)⟩ dX4_isSingle_143
                                          · by_cases c1_54 : k0.toInt = 54
                                            · refine lv_tableIn (off := 141) (tgt := 142) C.x C.b dX4_isSingle_1 (by rw [c1_54]; decide +kernel) (by rw [c1_54]; decide +kernel) (by rw [c1_54]; decide +kernel) (by decide) ?_
                                              refine lv_iconst (v := 0) C.x C.b dX4_isSingle_142 (by decide +kernel) ?_
                                              exact c_retz (ty := .boolean) (hv := rfl) C hsz hsl () ⟨(vX4_isSingle_3  ), (vX4_isSingle_24 k0 c1_33 c1_34 c1_35 c1_36 c1_37 c1_38 c1_39 c1_40 c1_41 c1_42 c1_43 c1_44 c1_45 c1_46 c1_47 c1_48 c1_49 c1_50 c1_51 c1_52 c1_53 c1_54)⟩ hP hS ⟨(Nat.le_of_ble_eq_true rfl), (Nat.le_of_ble_eq_true rfl)⟩ ⟨(Nat.le_of_ble_eq_true rfl), (Nat.le_of_ble_eq_true rfl)⟩ dX4_isSingle_143
                                            · by_cases c1_55 : k0.toInt = 55
                                              · refine lv_tableIn (off := 141) (tgt := 142) C.x C.b dX4_isSingle_1 (by rw [c1_55]; decide +kernel) (by rw [c1_55]; decide +kernel) (by rw [c1_55]; decide +kernel) (by decide) ?_
                                                refine lv_iconst (v := 0) C.x C.b dX4_isSingle_142 (by decide +kernel) ?_
                                                exact c_retz (ty := .boolean) (hv := rfl) C hsz hsl () ⟨(vX4_isSingle_3  ), (vX4_isSingle_25 k0 c1_33 c1_34 c1_35 c1_36 c1_37 c1_38 c1_39 c1_40 c1_41 c1_42 c1_43 c1_44 c1_45 c1_46 c1_47 c1_48 c1_49 c1_50 c1_51 c1_52 c1_53 c1_54 c1_55)⟩ hP hS ⟨(Nat.le_of_ble_eq_true rfl), (Nat.le_of_ble_eq_true rfl)⟩ ⟨(Nat.le_of_ble_eq_true rfl), (Nat.le_of_ble_eq_true rfl)⟩ dX4_isSingle_143
                                              · by_cases c1_56 : k0.toInt = 56
                                                · refine lv_tableIn (off := 141) (tgt := 142) C.x C.b dX4_isSingle_1 (by rw [c1_56]; decide +kernel) (by rw [c1_56]; decide +kernel) (by rw [c1_56]; decide +kernel) (by decide) ?_
                                                  refine lv_iconst (v := 0) C.x C.b dX4_isSingle_142 (by decide +kernel) ?_
                                                  exact c_retz (ty := .boolean) (hv := rfl) C hsz hsl () ⟨(vX4_isSingle_3  ), (vX4_isSingle_26 k0 c1_33 c1_34 c1_35 c1_36 c1_37 c1_38 c1_39 c1_40 c1_41 c1_42 c1_43 c1_44 c1_45 c1_46 c1_47 c1_48 c1_49 c1_50 c1_51 c1_52 c1_53 c1_54 c1_55 c1_56)⟩ hP hS ⟨(Nat.le_of_ble_eq_true rfl), (Nat.le_of_ble_eq_true rfl)⟩ ⟨(Nat.le_of_ble_eq_true rfl), (Nat.le_of_ble_eq_true rfl)⟩ dX4_isSingle_143
                                                · by_cases c1_57 : k0.toInt = 57
                                                  · refine lv_tableIn (off := 141) (tgt := 142) C.x C.b dX4_isSingle_1 (by rw [c1_57]; decide +kernel) (by rw [c1_57]; decide +kernel) (by rw [c1_57]; decide +kernel) (by decide) ?_
                                                    refine lv_iconst (v := 0) C.x C.b dX4_isSingle_142 (by decide +kernel) ?_
                                                    exact c_retz (ty := .boolean) (hv := rfl) C hsz hsl () ⟨(vX4_isSingle_3  ), (vX4_isSingle_27 k0 c1_33 c1_34 c1_35 c1_36 c1_37 c1_38 c1_39 c1_40 c1_41 c1_42 c1_43 c1_44 c1_45 c1_46 c1_47 c1_48 c1_49 c1_50 c1_51 c1_52 c1_53 c1_54 c1_55 c1_56 c1_57)⟩ hP hS ⟨(Nat.le_of_ble_eq_true rfl), (Nat.le_of_ble_eq_true rfl)⟩ ⟨(Nat.le_of_ble_eq_true rfl), (Nat.le_of_ble_eq_true rfl)⟩ dX4_isSingle_143
                                                  · by_cases c1_58 : k0.toInt = 58
                                                    · refine lv_tableIn (off := 139) (tgt := 140) C.x C.b dX4_isSingle_1 (by rw [c1_58]; decide +kernel) (by rw [c1_58]; decide +kernel) (by rw [c1_58]; decide +kernel) (by decide) ?_
                                                      refine lv_iconst (v := 1) C.x C.b dX4_isSingle_140 (by decide +kernel) ?_
                                                      exact c_retz (ty := .boolean) (hv := rfl) C hsz hsl () ⟨(vX4_isSingle_1  ), (vX4_isSingle_28 k0 c1_33 c1_34 c1_35 c1_36 c1_37 c1_38 c1_39 c1_40 c1_41 c1_42 c1_43 c1_44 c1_45 c1_46 c1_47 c1_48 c1_49 c1_50 c1_51 c1_52 c1_53 c1_54 c1_55 c1_56 c1_57 c1_58)⟩ hP hS ⟨(Nat.le_of_ble_eq_true rfl), (Nat.le_of_ble_eq_true rfl)⟩ ⟨(Nat.le_of_ble_eq_true rfl), (Nat.le_of_ble_eq_true rfl)⟩ dX4_isSingle_141
                                                    · by_cases c1_59 : k0.toInt = 59
                                                      · refine lv_tableIn (off := 141) (tgt := 142) C.x C.b dX4_isSingle_1 (by rw [c1_59]; decide +kernel) (by rw [c1_59]; decide +kernel) (by rw [c1_59]; decide +kernel) (by decide) ?_
                                                        refine lv_iconst (v := 0) C.x C.b dX4_isSingle_142 (by decide +kernel) ?_
                                                        exact c_retz (ty := .boolean) (hv := rfl) C hsz hsl () ⟨(vX4_isSingle_3  ), (vX4_isSingle_29 k0 c1_33 c1_34 c1_35 c1_36 c1_37 c1_38 c1_39 c1_40 c1_41 c1_42 c1_43 c1_44 c1_45 c1_46 c1_47 c1_48 c1_49 c1_50 c1_51 c1_52 c1_53 c1_54 c1_55 c1_56 c1_57 c1_58 c1_59)⟩ hP hS ⟨(Nat.le_of_ble_eq_true rfl), (Nat.le_of_ble_eq_true rfl)⟩ ⟨(Nat.le_of_ble_eq_true rfl), (Nat.le_of_ble_eq_true rfl)⟩ dX4_isSingle_143
                                                      · by_cases c1_60 : k0.toInt = 60
                                                        · refine lv_tableIn (off := 139) (tgt := 140) C.x C.b dX4_isSingle_1 (by rw [c1_60]; decide +kernel) (by rw [c1_60]; decide +kernel) (by rw [c1_60]; decide +kernel) (by decide) ?_
                                                          refine lv_iconst (v := 1) C.x C.b dX4_isSingle_140 (by decide +kernel) ?_
                                                          exact c_retz (ty := .boolean) (hv := rfl) C hsz hsl () ⟨(vX4_isSingle_1  ), (vX4_isSingle_30 k0 c1_33 c1_34 c1_35 c1_36 c1_37 c1_38 c1_39 c1_40 c1_41 c1_42 c1_43 c1_44 c1_45 c1_46 c1_47 c1_48 c1_49 c1_50 c1_51 c1_52 c1_53 c1_54 c1_55 c1_56 c1_57 c1_58 c1_59 c1_60)⟩ hP hS ⟨(Nat.le_of_ble_eq_true rfl), (Nat.le_of_ble_eq_true rfl)⟩ ⟨(Nat.le_of_ble_eq_true rfl), (Nat.le_of_ble_eq_true rfl)⟩ dX4_isSingle_141
                                                        · by_cases c1_61 : k0.toInt = 61
                                                          · refine lv_tableIn (off := 139) (tgt := 140) C.x C.b dX4_isSingle_1 (by rw [c1_61]; decide +kernel) (by rw [c1_61]; decide +kernel) (by rw [c1_61]; decide +kernel) (by decide) ?_
                                                            refine lv_iconst (v := 1) C.x C.b dX4_isSingle_140 (by decide +kernel) ?_
                                                            exact c_retz (ty := .boolean) (hv := rfl) C hsz hsl () ⟨(vX4_isSingle_1  ), (vX4_isSingle_31 k0 c1_33 c1_34 c1_35 c1_36 c1_37 c1_38 c1_39 c1_40 c1_41 c1_42 c1_43 c1_44 c1_45 c1_46 c1_47 c1_48 c1_49 c1_50 c1_51 c1_52 c1_53 c1_54 c1_55 c1_56 c1_57 c1_58 c1_59 c1_60 c1_61)⟩ hP hS ⟨(Nat.le_of_ble_eq_true rfl), (Nat.le_of_ble_eq_true rfl)⟩ ⟨(Nat.le_of_ble_eq_true rfl), (Nat.le_of_ble_eq_true rfl)⟩ dX4_isSingle_141
                                                          · by_cases c1_62 : k0.toInt = 62
                                                            · refine lv_tableIn (off := 139) (tgt := 140) C.x C.b dX4_isSingle_1 (by rw [c1_62]; decide +kernel) (by rw [c1_62]; decide +kernel) (by rw [c1_62]; decide +kernel) (by decide) ?_
                                                              refine lv_iconst (v := 1) C.x C.b dX4_isSingle_140 (by decide +kernel) ?_
                                                              exact c_retz (ty := .boolean) (hv := rfl) C hsz hsl () ⟨(vX4_isSingle_1  ), (vX4_isSingle_32 k0 c1_33 c1_34 c1_35 c1_36 c1_37 c1_38 c1_39 c1_40 c1_41 c1_42 c1_43 c1_44 c1_45 c1_46 c1_47 c1_48 c1_49 c1_50 c1_51 c1_52 c1_53 c1_54 c1_55 c1_56 c1_57 c1_58 c1_59 c1_60 c1_61 c1_62)⟩ hP hS ⟨(Nat.le_of_ble_eq_true rfl), (Nat.le_of_ble_eq_true rfl)⟩ ⟨(Nat.le_of_ble_eq_true rfl), (Nat.le_of_ble_eq_true rfl)⟩ dX4_isSingle_141
                                                            · by_cases c1_63 : k0.toInt = 63
                                                              · refine lv_tableIn (off := 139) (tgt := 140) C.x C.b dX4_isSingle_1 (by rw [c1_63]; decide +kernel) (by rw [c1_63]; decide +kernel) (by rw [c1_63]; decide +kernel) (by decide) ?_
                                                                refine lv_iconst (v := 1) C.x C.b dX4_isSingle_140 (by decide +kernel) ?_
                                                                exact c_retz (ty := .boolean) (hv := rfl) C hsz hsl () ⟨(vX4_isSingle_1  ), (vX4_isSingle_33 k0 c1_33 c1_34 c1_35 c1_36 c1_37 c1_38 c1_39 c1_40 c1_41 c1_42 c1_43 c1_44 c1_45 c1_46 c1_47 c1_48 c1_49 c1_50 c1_51 c1_52 c1_53 c1_54 c1_55 c1_56 c1_57 c1_58 c1_59 c1_60 c1_61 c1_62 c1_63)⟩ hP hS ⟨(Nat.le_of_ble_eq_true rfl), (Nat.le_of_ble_eq_true rfl)⟩ ⟨(Nat.le_of_ble_eq_true rfl), (Nat.le_of_ble_eq_true rfl)⟩ dX4_isSingle_141
                                                              · refine lv_tableOut (tgt := 142) C.x C.b dX4_isSingle_1 (by omega) (by decide) ?_
                                                                refine lv_iconst (v := 0) C.x C.b dX4_isSingle_142 (by decide +kernel) ?_
                                                                exact c_retz (ty := .boolean) (hv := rfl) C hsz hsl () ⟨(vX4_isSingle_3  ), (vX4_isSingle_34 k0 c1_33 c1_34 c1_35 c1_36 c1_37 c1_38 c1_39 c1_40 c1_41 c1_42 c1_43 c1_44 c1_45 c1_46 c1_47 c1_48 c1_49 c1_50 c1_51 c1_52 c1_53 c1_54 c1_55 c1_56 c1_57 c1_58 c1_59 c1_60 c1_61 c1_62 c1_63)⟩ hP hS ⟨(Nat.le_of_ble_eq_true rfl), (Nat.le_of_ble_eq_true rfl)⟩ ⟨(Nat.le_of_ble_eq_true rfl), (Nat.le_of_ble_eq_true rfl)⟩ dX4_isSingle_143

-- post @32
theorem vX4_append_1 (κ : KS) (hpre_0 : L9 (κ.2.2.1 9)) (hpre_1 : 0 ≤ (κ.1 6).toInt) (hpre_2 : (κ.1 6).toInt ≤ 40) (c2 : 40 ≤ (κ.1 6).toInt) : L9 (κ.2.2.1 9) ∧ ((κ.1 6).toInt < 40 → (κ.1 6).toInt = (κ.1 6).toInt + 1) ∧ (40 ≤ (κ.1 6).toInt → (κ.1 6).toInt = (κ.1 6).toInt) := by
  refine ⟨?_, ?_, ?_⟩ <;> first | assumption | omega | exact l9_upd hpre_0 ⟨by omega, by omega⟩
-- post2 @32
theorem vX4_append_2 (κ : KS) (k0 : Int32) (hpre_0 : L9 (κ.2.2.1 9)) (hpre_1 : 0 ≤ (κ.1 6).toInt) (hpre_2 : (κ.1 6).toInt ≤ 40) (hpre_3 : 32 ≤ k0.toInt) (hpre_4 : k0.toInt ≤ 126) (c2 : 40 ≤ (κ.1 6).toInt) : (κ.1 6).toInt < 40 → (κ.2.2.1 9) = upd (κ.2.2.1 9) (κ.1 6).toNatClampNeg k0 := by
  intro h40
  first | rfl | (exfalso; omega)
-- in@21 @21
theorem vX4_append_3 (κ : KS) (hpre_1 : 0 ≤ (κ.1 6).toInt) (hpre_2 : (κ.1 6).toInt ≤ 40) (c2 : (κ.1 6).toInt < 40) : vp_in (κ.1 6) 40 := by
  exact vp_in_iff.mpr ⟨by omega, by omega⟩
-- char@21 @21
theorem vX4_append_4 (k0 : Int32) (hpre_3 : 32 ≤ k0.toInt) (hpre_4 : k0.toInt ≤ 126) : vp_nar .char k0 = k0 := by
  exact Value.int.inj (narc ⟨by omega, by omega⟩)
-- nw@28 @28
theorem vX4_append_5 (κ : KS) (x3 : Int32) (hpre_1 : 0 ≤ (κ.1 6).toInt) (hpre_2 : (κ.1 6).toInt ≤ 40) (c2 : (κ.1 6).toInt < 40) (ex3 : x3 = (κ.1 6) + (1 : Int32)) : x3.toInt = (κ.1 6).toInt + 1 := by
  have q1 : (1 : Int32).toInt = 1 := by decide +kernel
  have w1 : (1 : Int32).toInt = 1 := by decide +kernel
  rw [ex3, z_add (by omega) (by omega)]; first | done | omega
-- post @32
theorem vX4_append_6 (κ : KS) (k0 : Int32) (x3 : Int32) (hpre_0 : L9 (κ.2.2.1 9)) (hpre_1 : 0 ≤ (κ.1 6).toInt) (hpre_2 : (κ.1 6).toInt ≤ 40) (hpre_3 : 32 ≤ k0.toInt) (hpre_4 : k0.toInt ≤ 126) (c2 : (κ.1 6).toInt < 40) (ex3 : x3 = (κ.1 6) + (1 : Int32)) (tx3 : x3.toInt = (κ.1 6).toInt + 1) : L9 (upd (κ.2.2.1 9) (κ.1 6).toNatClampNeg k0) ∧ ((κ.1 6).toInt < 40 → x3.toInt = (κ.1 6).toInt + 1) ∧ (40 ≤ (κ.1 6).toInt → x3.toInt = (κ.1 6).toInt) := by
  have q1 : (1 : Int32).toInt = 1 := by decide +kernel
  refine ⟨?_, ?_, ?_⟩ <;> first | assumption | omega | exact l9_upd hpre_0 ⟨by omega, by omega⟩
-- post2 @32
theorem vX4_append_7 (κ : KS) (k0 : Int32) (x3 : Int32) (hpre_0 : L9 (κ.2.2.1 9)) (hpre_1 : 0 ≤ (κ.1 6).toInt) (hpre_2 : (κ.1 6).toInt ≤ 40) (hpre_3 : 32 ≤ k0.toInt) (hpre_4 : k0.toInt ≤ 126) (c2 : (κ.1 6).toInt < 40) (ex3 : x3 = (κ.1 6) + (1 : Int32)) (tx3 : x3.toInt = (κ.1 6).toInt + 1) : (κ.1 6).toInt < 40 → (upd (κ.2.2.1 9) (κ.1 6).toNatClampNeg k0) = upd (κ.2.2.1 9) (κ.1 6).toNatClampNeg k0 := by
  have q1 : (1 : Int32).toInt = 1 := by decide +kernel
  intro h40
  first | rfl | (exfalso; omega)
set_option maxHeartbeats 4000000 in
set_option maxRecDepth 100000 in
theorem NX4_append (l : Launch) (D : va_G) (cy : Nat → ClassId) (ad : Nat → Nat) (A : Nat → Prop) (sz0 : Nat) (sa : Nat → Nat)  (κ : KS) (sz sl : Nat) (hAF : ∀ q, A q → Fr sz0 q) (hAn : ∀ q : Nat, sz ≤ q → A q) (k0 : Int32) (hpre : L9 (κ.2.2.1 9) ∧ 0 ≤ (κ.1 6).toInt ∧ (κ.1 6).toInt ≤ 40 ∧ 32 ≤ k0.toInt ∧ k0.toInt ≤ 126) : Met l yX4_append (Cond.code yX4_append cX4_append 2 none :: GWc) ({ frames := 0, cells := 0, slots := 0, locals := 0 }) (PcC D cy ad A sz0 sa [.ref (ad 2), .int k0] κ sz sl) (va_Qv (fun (u : (Nat → Int32) × Int32) => ((L9 u.1 ∧ ((κ.1 6).toInt < 40 → u.2.toInt = (κ.1 6).toInt + 1) ∧ (40 ≤ (κ.1 6).toInt → u.2.toInt = (κ.1 6).toInt))) ∧ ((κ.1 6).toInt < 40 → u.1 = upd (κ.2.2.1 9) (κ.1 6).toNatClampNeg k0)) (fun (u : (Nat → Int32) × Int32) (t : State) => Bx D cy ad A sz sl (tI (tA κ 9 u.1) 6 u.2) (0) (0) t) A) (0) (0) A := by
  refine CM_of (loc0 := [(0, .ref (ad 2)), (1, .int k0)]) (own := RX4) (nm := "append") (by decide) rfl rfl rfl (Nat.le_of_ble_eq_true rfl) hAF hAn ?_
  intro p e s m below meth c ls hsz hsl C hP hS hl
  obtain ⟨hpre_0, hpre_1, hpre_2, hpre_3, hpre_4⟩ := hpre
  refine lv_aload_n C.x C.b dX4_append_0 rfl (lv_at hl 0 rfl) ?_
  refine cg_X4_1 (v := (κ.1 6)) C hP rfl cw_474 dX4_append_1 ?_
  refine lv_aload_n C.x C.b dX4_append_4 rfl (lv_at hl 0 rfl) ?_
  refine cg_X4_0 C hP cw_463 dX4_append_5 ?_
  refine cl_9 C hP dX4_append_8 ?_
  refine lv_icmp_ge (tgt := 32) C.x C.b dX4_append_9 (by decide) (fun c2 => ?_) (fun c2 => ?_)
  · have c2 : 40 ≤ (κ.1 6).toInt := by have h := z_le c2; rw [show (40 : Int32).toInt = 40 from by decide +kernel] at h; exact h
    have hP : CH D cy ad A (tI (tA κ 9 (κ.2.2.1 9)) 6 (κ.1 6)) s.heap := CH.cong hP rfl rfl rfl rfl rfl rfl rfl rfl rfl rfl rfl rfl rfl rfl rfl rfl rfl rfl rfl rfl rfl rfl rfl rfl rfl rfl rfl
    exact c_retv C hsz hsl ⟨(κ.2.2.1 9), (κ.1 6)⟩ ⟨(vX4_append_1 κ hpre_0 hpre_1 hpre_2 c2), (vX4_append_2 κ k0 hpre_0 hpre_1 hpre_2 hpre_3 hpre_4 c2)⟩ hP hS ⟨(Nat.le_of_ble_eq_true rfl), (Nat.le_of_ble_eq_true rfl)⟩ ⟨(Nat.le_of_ble_eq_true rfl), (Nat.le_of_ble_eq_true rfl)⟩ dX4_append_32
  · have c2 : (κ.1 6).toInt < 40 := by have h := z_nle c2; rw [show (40 : Int32).toInt = 40 from by decide +kernel] at h; exact h
    refine lv_aload_n C.x C.b dX4_append_12 rfl (lv_at hl 0 rfl) ?_
    refine cg_X4_0 C hP cw_463 dX4_append_13 ?_
    refine lv_aload_n C.x C.b dX4_append_16 rfl (lv_at hl 0 rfl) ?_
    refine cg_X4_1 (v := (κ.1 6)) C hP rfl cw_474 dX4_append_17 ?_
    refine lv_iload_n C.x C.b dX4_append_20 rfl (lv_at hl 1 rfl) ?_
    refine cw_st9 (f := (κ.2.2.1 9)) C hP hS rfl (vX4_append_4 k0 hpre_3 hpre_4) (vX4_append_3 κ hpre_1 hpre_2 c2) dX4_append_21 (fun H locs hP hS => ?_)
    refine lv_aload_n C.x C.b dX4_append_22 rfl (lv_at hl 0 rfl) ?_
    refine lv_dup C.x C.b dX4_append_23 rfl ?_
    refine cg_X4_1 (v := (κ.1 6)) C hP rfl cw_474 dX4_append_24 ?_
    refine lv_iconst (v := 1) C.x C.b dX4_append_27 (by decide +kernel) ?_
    refine lv_iadd C.x C.b dX4_append_28 ?_
    refine lv_topi (fun x3 ex3 => ?_)
    have tx3 : x3.toInt = (κ.1 6).toInt + 1 := (vX4_append_5 κ x3 hpre_1 hpre_2 c2 ex3)
    refine cp_X4_1 (v := x3) C hP hS cw_474 dX4_append_29 (fun H locs hP hS => ?_)
    exact c_retv C hsz hsl ⟨(upd (κ.2.2.1 9) (κ.1 6).toNatClampNeg k0), x3⟩ ⟨(vX4_append_6 κ k0 x3 hpre_0 hpre_1 hpre_2 hpre_3 hpre_4 c2 ex3 tx3), (vX4_append_7 κ k0 x3 hpre_0 hpre_1 hpre_2 hpre_3 hpre_4 c2 ex3 tx3)⟩ hP hS ⟨(Nat.le_of_ble_eq_true rfl), (Nat.le_of_ble_eq_true rfl)⟩ ⟨(Nat.le_of_ble_eq_true rfl), (Nat.le_of_ble_eq_true rfl)⟩ dX4_append_32

-- init@2 @2
theorem vX4_endOfDigits_1 (κ : KS) (k0 : Int32) (hpre_1 : 0 ≤ (κ.1 6).toInt) (hpre_2 : (κ.1 6).toInt ≤ 40) (hpre_3 : 0 ≤ k0.toInt) (hpre_4 : k0.toInt ≤ 41) : k0.toInt ≤ k0.toInt ∧ k0.toInt ≤ max k0.toInt (κ.1 6).toInt := by
  refine ⟨?_, ?_⟩ <;> first | assumption | omega | (subst_vars; omega) | trivial
-- init2@2 @2
theorem vX4_endOfDigits_2 (κ : KS) (k0 : Int32) (hpre_0 : L9 (κ.2.2.1 9)) (hpre_1 : 0 ≤ (κ.1 6).toInt) (hpre_2 : (κ.1 6).toInt ≤ 40) (hpre_3 : 0 ≤ k0.toInt) (hpre_4 : k0.toInt ≤ 41) : (κ.1 6).toInt ≤ 40 → RT dg (tx (κ.2.2.1 9) (κ.1 6)) k0.toInt k0.toInt := by
  intro _; exact RT.at rfl
-- post @28
theorem vX4_endOfDigits_3 (κ : KS) (k0 : Int32) (y1 : Int32) (hpre_1 : 0 ≤ (κ.1 6).toInt) (hpre_2 : (κ.1 6).toInt ≤ 40) (hpre_3 : 0 ≤ k0.toInt) (hpre_4 : k0.toInt ≤ 41) (hi2_0 : k0.toInt ≤ y1.toInt) (hi2_1 : y1.toInt ≤ max k0.toInt (κ.1 6).toInt) (c2 : (κ.1 6).toInt ≤ y1.toInt) : k0.toInt ≤ y1.toInt ∧ y1.toInt ≤ max k0.toInt (κ.1 6).toInt := by
  refine ⟨?_, ?_⟩ <;> first | assumption | omega | (subst_vars; omega) | trivial
-- post2 @28
theorem vX4_endOfDigits_4 (κ : KS) (k0 : Int32) (y1 : Int32) (hpre_0 : L9 (κ.2.2.1 9)) (hpre_1 : 0 ≤ (κ.1 6).toInt) (hpre_2 : (κ.1 6).toInt ≤ 40) (hpre_3 : 0 ≤ k0.toInt) (hpre_4 : k0.toInt ≤ 41) (hi2_0 : k0.toInt ≤ y1.toInt) (hi2_1 : y1.toInt ≤ max k0.toInt (κ.1 6).toInt) (hi2y : (κ.1 6).toInt ≤ 40 → RT dg (tx (κ.2.2.1 9) (κ.1 6)) k0.toInt y1.toInt) (c2 : (κ.1 6).toInt ≤ y1.toInt) : (κ.1 6).toInt ≤ 40 → RT dg (tx (κ.2.2.1 9) (κ.1 6)) k0.toInt y1.toInt ∧ ¬ dg (tx (κ.2.2.1 9) (κ.1 6) y1.toInt) := by
  intro h40
  refine ⟨hi2y h40, ?_⟩
  first | omega | (rw [tx_o (by omega)]; omega)
-- pre:X4_peek@12 @12
theorem vX4_endOfDigits_5 (κ : KS) (hpre_0 : L9 (κ.2.2.1 9)) : L9 (κ.2.2.1 9) := by
  first | assumption | omega | (subst_vars; omega) | trivial
-- post @28
theorem vX4_endOfDigits_6 (κ : KS) (k0 : Int32) (y1 : Int32) (r3 : Int32) (hpre_1 : 0 ≤ (κ.1 6).toInt) (hpre_2 : (κ.1 6).toInt ≤ 40) (hpre_3 : 0 ≤ k0.toInt) (hpre_4 : k0.toInt ≤ 41) (hi2_0 : k0.toInt ≤ y1.toInt) (hi2_1 : y1.toInt ≤ max k0.toInt (κ.1 6).toInt) (c2 : y1.toInt < (κ.1 6).toInt) (hr3_0 : 0 ≤ r3.toInt) (hr3_1 : r3.toInt ≤ 126) (hr3_2 : ¬ r3.toInt = 0 → 0 ≤ y1.toInt ∧ y1.toInt < (κ.1 6).toInt) : k0.toInt ≤ y1.toInt ∧ y1.toInt ≤ max k0.toInt (κ.1 6).toInt := by
  refine ⟨?_, ?_⟩ <;> first | assumption | omega | (subst_vars; omega) | trivial
-- post2 @28
theorem vX4_endOfDigits_7 (κ : KS) (k0 : Int32) (y1 : Int32) (r3 : Int32) (r4 : Int32) (hpre_0 : L9 (κ.2.2.1 9)) (hpre_1 : 0 ≤ (κ.1 6).toInt) (hpre_2 : (κ.1 6).toInt ≤ 40) (hpre_3 : 0 ≤ k0.toInt) (hpre_4 : k0.toInt ≤ 41) (hi2_0 : k0.toInt ≤ y1.toInt) (hi2_1 : y1.toInt ≤ max k0.toInt (κ.1 6).toInt) (hi2y : (κ.1 6).toInt ≤ 40 → RT dg (tx (κ.2.2.1 9) (κ.1 6)) k0.toInt y1.toInt) (c2 : y1.toInt < (κ.1 6).toInt) (hr3y : (κ.1 6).toInt ≤ 40 → r3.toInt = tx (κ.2.2.1 9) (κ.1 6) y1.toInt) (hr3_0 : 0 ≤ r3.toInt) (hr3_1 : r3.toInt ≤ 126) (hr3_2 : ¬ r3.toInt = 0 → 0 ≤ y1.toInt ∧ y1.toInt < (κ.1 6).toInt) (hr4y_0 : ¬ r4.toInt = 0 → dg r3.toInt) (hr4y_1 : r4.toInt = 0 → ¬ dg r3.toInt) (hr4_0 : 0 ≤ r4.toInt) (hr4_1 : r4.toInt ≤ 1) (c5 : r4.toInt = 0) : (κ.1 6).toInt ≤ 40 → RT dg (tx (κ.2.2.1 9) (κ.1 6)) k0.toInt y1.toInt ∧ ¬ dg (tx (κ.2.2.1 9) (κ.1 6) y1.toInt) := by
  intro h40
  refine ⟨hi2y h40, ?_⟩
  first | omega | (rw [tx_o (by omega)]; omega)
-- nw@21 @21
theorem vX4_endOfDigits_8 (κ : KS) (k0 : Int32) (y1 : Int32) (r3 : Int32) (x6 : Int32) (hpre_1 : 0 ≤ (κ.1 6).toInt) (hpre_2 : (κ.1 6).toInt ≤ 40) (hpre_3 : 0 ≤ k0.toInt) (hpre_4 : k0.toInt ≤ 41) (hi2_0 : k0.toInt ≤ y1.toInt) (hi2_1 : y1.toInt ≤ max k0.toInt (κ.1 6).toInt) (c2 : y1.toInt < (κ.1 6).toInt) (hr3_0 : 0 ≤ r3.toInt) (hr3_1 : r3.toInt ≤ 126) (hr3_2 : ¬ r3.toInt = 0 → 0 ≤ y1.toInt ∧ y1.toInt < (κ.1 6).toInt) (ex6 : x6 = y1 + (1 : Int32)) : x6.toInt = y1.toInt + 1 := by
  have q1 : (1 : Int32).toInt = 1 := by decide +kernel
  have z9 : (1 : Int32).toInt = 1 := by decide +kernel
  rw [ex6, z_add (by omega) (by omega)]; first | done | omega
-- inv@2 @2
theorem vX4_endOfDigits_9 (κ : KS) (k0 : Int32) (y1 : Int32) (r3 : Int32) (x6 : Int32) (hpre_1 : 0 ≤ (κ.1 6).toInt) (hpre_2 : (κ.1 6).toInt ≤ 40) (hpre_3 : 0 ≤ k0.toInt) (hpre_4 : k0.toInt ≤ 41) (hi2_0 : k0.toInt ≤ y1.toInt) (hi2_1 : y1.toInt ≤ max k0.toInt (κ.1 6).toInt) (c2 : y1.toInt < (κ.1 6).toInt) (hr3_0 : 0 ≤ r3.toInt) (hr3_1 : r3.toInt ≤ 126) (hr3_2 : ¬ r3.toInt = 0 → 0 ≤ y1.toInt ∧ y1.toInt < (κ.1 6).toInt) (ex6 : x6 = y1 + (1 : Int32)) (tx6 : x6.toInt = y1.toInt + 1) : k0.toInt ≤ x6.toInt ∧ x6.toInt ≤ max k0.toInt (κ.1 6).toInt := by
  have q1 : (1 : Int32).toInt = 1 := by decide +kernel
  refine ⟨?_, ?_⟩ <;> first | assumption | omega | (subst_vars; omega) | trivial
-- inv2@2 @2
theorem vX4_endOfDigits_10 (κ : KS) (k0 : Int32) (y1 : Int32) (r3 : Int32) (r4 : Int32) (x6 : Int32) (hpre_0 : L9 (κ.2.2.1 9)) (hpre_1 : 0 ≤ (κ.1 6).toInt) (hpre_2 : (κ.1 6).toInt ≤ 40) (hpre_3 : 0 ≤ k0.toInt) (hpre_4 : k0.toInt ≤ 41) (hi2_0 : k0.toInt ≤ y1.toInt) (hi2_1 : y1.toInt ≤ max k0.toInt (κ.1 6).toInt) (hi2y : (κ.1 6).toInt ≤ 40 → RT dg (tx (κ.2.2.1 9) (κ.1 6)) k0.toInt y1.toInt) (c2 : y1.toInt < (κ.1 6).toInt) (hr3y : (κ.1 6).toInt ≤ 40 → r3.toInt = tx (κ.2.2.1 9) (κ.1 6) y1.toInt) (hr3_0 : 0 ≤ r3.toInt) (hr3_1 : r3.toInt ≤ 126) (hr3_2 : ¬ r3.toInt = 0 → 0 ≤ y1.toInt ∧ y1.toInt < (κ.1 6).toInt) (hr4y_0 : ¬ r4.toInt = 0 → dg r3.toInt) (hr4y_1 : r4.toInt = 0 → ¬ dg r3.toInt) (hr4_0 : 0 ≤ r4.toInt) (hr4_1 : r4.toInt ≤ 1) (c5 : ¬ r4.toInt = 0) (ex6 : x6 = y1 + (1 : Int32)) (tx6 : x6.toInt = y1.toInt + 1) : (κ.1 6).toInt ≤ 40 → RT dg (tx (κ.2.2.1 9) (κ.1 6)) k0.toInt x6.toInt := by
  have q1 : (1 : Int32).toInt = 1 := by decide +kernel
  intro h40
  refine RT.up (hi2y h40) ?_ ?_ <;> omega
-- meas@2 @2
theorem vX4_endOfDigits_11 (κ : KS) (k0 : Int32) (y1 : Int32) (r3 : Int32) (x6 : Int32) (hpre_1 : 0 ≤ (κ.1 6).toInt) (hpre_2 : (κ.1 6).toInt ≤ 40) (hpre_3 : 0 ≤ k0.toInt) (hpre_4 : k0.toInt ≤ 41) (hi2_0 : k0.toInt ≤ y1.toInt) (hi2_1 : y1.toInt ≤ max k0.toInt (κ.1 6).toInt) (c2 : y1.toInt < (κ.1 6).toInt) (hr3_0 : 0 ≤ r3.toInt) (hr3_1 : r3.toInt ≤ 126) (hr3_2 : ¬ r3.toInt = 0 → 0 ≤ y1.toInt ∧ y1.toInt < (κ.1 6).toInt) (ex6 : x6 = y1 + (1 : Int32)) (tx6 : x6.toInt = y1.toInt + 1) : (41 - x6.toInt).toNat < (41 - y1.toInt).toNat := by
  have q1 : (1 : Int32).toInt = 1 := by decide +kernel
  first | assumption | omega | (subst_vars; omega) | trivial
set_option maxHeartbeats 4000000 in
set_option maxRecDepth 100000 in
theorem NX4_endOfDigits (l : Launch) (D : va_G) (cy : Nat → ClassId) (ad : Nat → Nat) (A : Nat → Prop) (sz0 : Nat) (sa : Nat → Nat)  (κ : KS) (sz sl : Nat) (hAF : ∀ q, A q → Fr sz0 q) (hAn : ∀ q : Nat, sz ≤ q → A q) (k0 : Int32) (hpre : L9 (κ.2.2.1 9) ∧ 0 ≤ (κ.1 6).toInt ∧ (κ.1 6).toInt ≤ 40 ∧ 0 ≤ k0.toInt ∧ k0.toInt ≤ 41) : Met l yX4_endOfDigits (Cond.code yX4_endOfDigits cX4_endOfDigits 3 (some .int) :: GWc) ({ frames := 1, cells := 0, slots := 0, locals := 21 }) (PcC D cy ad A sz0 sa [.ref (ad 2), .int k0] κ sz sl) (va_Qi (fun (r : Int32) (u : Unit) => ((k0.toInt ≤ r.toInt ∧ r.toInt ≤ max k0.toInt (κ.1 6).toInt)) ∧ ((κ.1 6).toInt ≤ 40 → RT dg (tx (κ.2.2.1 9) (κ.1 6)) k0.toInt r.toInt ∧ ¬ dg (tx (κ.2.2.1 9) (κ.1 6) r.toInt))) (fun (u : Unit) (t : State) => Bx D cy ad A sz sl κ (0) (0) t) A) (0) (0) A := by
  refine CM_of (loc0 := [(0, .ref (ad 2)), (1, .int k0)]) (own := RX4) (nm := "endOfDigits") (by decide) rfl rfl rfl (Nat.le_of_ble_eq_true rfl) hAF hAn ?_
  intro p e s m below meth c ls hsz hsl C hP hS hl
  obtain ⟨hpre_0, hpre_1, hpre_2, hpre_3, hpre_4⟩ := hpre
  refine lv_iload_n C.x C.b dX4_endOfDigits_0 rfl (lv_at hl 1 rfl) ?_
  refine lv_istore_n (lv' := [(2, .int k0), (0, .ref (ad 2)), (1, .int k0)]) C.x C.b dX4_endOfDigits_1 rfl hl (by decide) rfl (fun ls hl => ?_)
  have lp2 : ∀ (n : Nat) (y1 : Int32) (H : Heap) (locs : List Loc) (ls : Array Slot), (41 - y1.toInt).toNat < n → ((k0.toInt ≤ y1.toInt ∧ y1.toInt ≤ max k0.toInt (κ.1 6).toInt) ∧ ((κ.1 6).toInt ≤ 40 → RT dg (tx (κ.2.2.1 9) (κ.1 6)) k0.toInt y1.toInt)) → CH D cy ad A κ H → va_S A s.heap H locs → lv_has ls 3 [(2, .int y1), (0, .ref (ad 2)), (1, .int k0)] → W p l e (headSpec (Cond.code yX4_endOfDigits cX4_endOfDigits 3 (some .int) :: GWc) ({ frames := 1, cells := 0, slots := 0, locals := 21 })).room s m #[.ref (ad 2), .int k0] below meth c H locs (0) (0) (MQ below (va_Qi (fun (r : Int32) (u : Unit) => ((k0.toInt ≤ r.toInt ∧ r.toInt ≤ max k0.toInt (κ.1 6).toInt)) ∧ ((κ.1 6).toInt ≤ 40 → RT dg (tx (κ.2.2.1 9) (κ.1 6)) k0.toInt r.toInt ∧ ¬ dg (tx (κ.2.2.1 9) (κ.1 6) r.toInt))) (fun (u : Unit) (t : State) => Bx D cy ad A sz sl κ (0) (0) t) A) #[.ref (ad 2), .int k0] s (0) (0) A) (F0 m 2 ls []) := by
    intro n
    induction n with
    | zero => intro y1 H locs ls hn; exact absurd hn (Nat.not_lt_zero _)
    | succ n2 ih2 =>
      intro y1 H locs ls hn2  hi2 hP hS hl
      obtain ⟨hi2, hi2y⟩ := hi2
      obtain ⟨hi2_0, hi2_1⟩ := hi2
      refine lv_iload_n C.x C.b dX4_endOfDigits_2 rfl (lv_at hl 0 rfl) ?_
      refine lv_aload_n C.x C.b dX4_endOfDigits_3 rfl (lv_at hl 1 rfl) ?_
      refine cg_X4_1 (v := (κ.1 6)) C hP rfl cw_474 dX4_endOfDigits_4 ?_
      refine lv_icmp_ge (tgt := 27) C.x C.b dX4_endOfDigits_7 (by decide) (fun c2 => ?_) (fun c2 => ?_)
      · have c2 : (κ.1 6).toInt ≤ y1.toInt := by have h := z_le c2; exact h
        refine lv_iload_n C.x C.b dX4_endOfDigits_27 rfl (lv_at hl 0 rfl) ?_
        exact c_reti C hsz hsl () ⟨(vX4_endOfDigits_3 κ k0 y1 hpre_1 hpre_2 hpre_3 hpre_4 hi2_0 hi2_1 c2), (vX4_endOfDigits_4 κ k0 y1 hpre_0 hpre_1 hpre_2 hpre_3 hpre_4 hi2_0 hi2_1 hi2y c2)⟩ hP hS ⟨(Nat.le_of_ble_eq_true rfl), (Nat.le_of_ble_eq_true rfl)⟩ ⟨(Nat.le_of_ble_eq_true rfl), (Nat.le_of_ble_eq_true rfl)⟩ dX4_endOfDigits_28
      · have c2 : y1.toInt < (κ.1 6).toInt := by have h := z_nle c2; exact h
        refine lv_aload_n C.x C.b dX4_endOfDigits_10 rfl (lv_at hl 1 rfl) ?_
        refine lv_iload_n C.x C.b dX4_endOfDigits_11 rfl (lv_at hl 0 rfl) ?_
        refine c_callVi (n := 1) (As := [.int y1]) (rest := []) C hP hS hl.1 (NX4_peek l D cy ad A sz0 sa κ H.size (SLT H) C.f (fun q h => C.a q (Nat.le_trans hS.1 h)) y1 (vX4_endOfDigits_5 κ hpre_0)) ⟨cw_481, cw_485, by decide +kernel⟩ ⟨cw_482, cw_483, cw_484⟩ rfl (hP.recvS (k := 2) (ci := 6) C.K rfl rfl) rfl rfl (lv_room (Nat.le_of_ble_eq_true rfl)) ⟨Nat.le_of_ble_eq_true rfl, Nat.le_of_ble_eq_true rfl⟩ ⟨(Nat.le_of_ble_eq_true rfl), (Nat.le_of_ble_eq_true rfl)⟩ dX4_endOfDigits_12 (fun r3 u H locs hr3 hP hS => ?_)
        obtain ⟨hr3, hr3y⟩ := hr3
        have hr3y : (κ.1 6).toInt ≤ 40 → r3.toInt = tx (κ.2.2.1 9) (κ.1 6) y1.toInt := hr3y
        have hr3 : (0 ≤ r3.toInt ∧ r3.toInt ≤ 126 ∧ (¬ r3.toInt = 0 → 0 ≤ y1.toInt ∧ y1.toInt < (κ.1 6).toInt)) := hr3
        obtain ⟨hr3_0, hr3_1, hr3_2⟩ := hr3
        refine c_callSi (C2 := "") (b := 0) (n := 1) (As := [.int r3]) (rest := []) C hP hS hl.1 (NX4_isDigit l D cy ad A sz0 sa κ H.size (SLT H) C.f (fun q h => C.a q (Nat.le_trans hS.1 h)) r3 ) ⟨cw_490, cw_492, by decide +kernel⟩ ⟨cw_491, cw_484⟩ rfl rfl (lv_room (Nat.le_of_ble_eq_true rfl)) ⟨Nat.le_of_ble_eq_true rfl, Nat.le_of_ble_eq_true rfl⟩ ⟨(Nat.le_of_ble_eq_true rfl), (Nat.le_of_ble_eq_true rfl)⟩ dX4_endOfDigits_15 (fun r4 u H locs hr4 hP hS => ?_)
        obtain ⟨hr4, hr4y⟩ := hr4
        have hr4y : (¬ r4.toInt = 0 → dg r3.toInt) ∧ (r4.toInt = 0 → ¬ dg r3.toInt) := hr4y
        have hr4 : (0 ≤ r4.toInt ∧ r4.toInt ≤ 1) := hr4
        obtain ⟨hr4y_0, hr4y_1⟩ := hr4y
        obtain ⟨hr4_0, hr4_1⟩ := hr4
        refine lv_if_eq (tgt := 27) C.x C.b dX4_endOfDigits_18 (by decide) (fun c5 => ?_) (fun c5 => ?_)
        · have c5 : r4.toInt = 0 := by have h := z_eq c5; rw [show (0 : Int32).toInt = 0 from by decide +kernel] at h; exact h
          refine lv_iload_n C.x C.b dX4_endOfDigits_27 rfl (lv_at hl 0 rfl) ?_
          exact c_reti C hsz hsl () ⟨(vX4_endOfDigits_6 κ k0 y1 r3 hpre_1 hpre_2 hpre_3 hpre_4 hi2_0 hi2_1 c2 hr3_0 hr3_1 hr3_2), (vX4_endOfDigits_7 κ k0 y1 r3 r4 hpre_0 hpre_1 hpre_2 hpre_3 hpre_4 hi2_0 hi2_1 hi2y c2 hr3y hr3_0 hr3_1 hr3_2 hr4y_0 hr4y_1 hr4_0 hr4_1 c5)⟩ hP hS ⟨(Nat.le_of_ble_eq_true rfl), (Nat.le_of_ble_eq_true rfl)⟩ ⟨(Nat.le_of_ble_eq_true rfl), (Nat.le_of_ble_eq_true rfl)⟩ dX4_endOfDigits_28
        · have c5 : ¬ r4.toInt = 0 := by have h := z_ne c5; rw [show (0 : Int32).toInt = 0 from by decide +kernel] at h; exact h
          obtain ⟨x6, ex6⟩ : ∃ y : Int32, y = y1 + (1 : Int32) := ⟨_, rfl⟩
          have tx6 : x6.toInt = y1.toInt + 1 := (vX4_endOfDigits_8 κ k0 y1 r3 x6 hpre_1 hpre_2 hpre_3 hpre_4 hi2_0 hi2_1 c2 hr3_0 hr3_1 hr3_2 ex6)
          refine lv_iinc (v := x6) (lv' := [(2, .int x6), (0, .ref (ad 2)), (1, .int k0)]) C.x C.b dX4_endOfDigits_21 hl (k := 0) rfl (by rw [ex6]; rfl) (by decide) rfl (fun ls hl => ?_)
          refine lv_goto (tgt := 2) C.x C.b dX4_endOfDigits_24 (by decide) ?_
          refine W.widen (k := 0) (n := 0) (Nat.le_of_ble_eq_true rfl) (Nat.le_of_ble_eq_true rfl) ?_
          exact ih2 x6 _ _ _ (Nat.lt_of_lt_of_le (vX4_endOfDigits_11 κ k0 y1 r3 x6 hpre_1 hpre_2 hpre_3 hpre_4 hi2_0 hi2_1 c2 hr3_0 hr3_1 hr3_2 ex6 tx6) (Nat.le_of_lt_succ hn2))  ⟨(vX4_endOfDigits_9 κ k0 y1 r3 x6 hpre_1 hpre_2 hpre_3 hpre_4 hi2_0 hi2_1 c2 hr3_0 hr3_1 hr3_2 ex6 tx6), (vX4_endOfDigits_10 κ k0 y1 r3 r4 x6 hpre_0 hpre_1 hpre_2 hpre_3 hpre_4 hi2_0 hi2_1 hi2y c2 hr3y hr3_0 hr3_1 hr3_2 hr4y_0 hr4y_1 hr4_0 hr4_1 c5 ex6 tx6)⟩ hP hS (lv_sub hl [0, 1, 2] rfl)
  refine W.widen (k := 0) (n := 0) (Nat.le_of_ble_eq_true rfl) (Nat.le_of_ble_eq_true rfl) ?_
  exact lp2 ((41 - k0.toInt).toNat + 1) k0 _ _ _ (Nat.lt_succ_self _)  ⟨(vX4_endOfDigits_1 κ k0 hpre_1 hpre_2 hpre_3 hpre_4), (vX4_endOfDigits_2 κ k0 hpre_0 hpre_1 hpre_2 hpre_3 hpre_4)⟩ hP hS (lv_sub hl [0, 1, 2] rfl)

-- init@6 @6
theorem vX4_digits_1 (k0 : Int32) (hpre_1 : 0 ≤ k0.toInt) : 0 ≤ k0.toInt := by
  first | assumption | omega | (subst_vars; omega) | trivial
-- pre:X4_peek@20 @20
theorem vX4_digits_2 (κ : KS) (hpre_0 : L9 (κ.2.2.1 9)) : L9 (κ.2.2.1 9) := by
  first | assumption | omega | (subst_vars; omega) | trivial
-- nw@29 @29
theorem vX4_digits_3 (κ : KS) (k1 : Int32) (y1 : Int32) (y2 : Int32) (x4 : Int32) (r5 : Int32) (x6 : Int32) (x7 : Int32) (x8 : Int32) (hpre_2 : k1.toInt ≤ 41) (hi6 : 0 ≤ y2.toInt) (c3 : y2.toInt < k1.toInt) (ex4 : x4 = y1 * (10 : Int32)) (hr5_0 : 0 ≤ r5.toInt) (hr5_1 : r5.toInt ≤ 126) (hr5_2 : ¬ r5.toInt = 0 → 0 ≤ y2.toInt ∧ y2.toInt < (κ.1 6).toInt) (ex6 : x6 = r5 - (48 : Int32)) (ex7 : x7 = x4 + x6) (ex8 : x8 = y2 + (1 : Int32)) : x8.toInt = y2.toInt + 1 := by
  have q1 : (1 : Int32).toInt = 1 := by decide +kernel
  have q10 : (10 : Int32).toInt = 10 := by decide +kernel
  have q48 : (48 : Int32).toInt = 48 := by decide +kernel
  have z9 : (1 : Int32).toInt = 1 := by decide +kernel
  rw [ex8, z_add (by omega) (by omega)]; first | done | omega
-- inv@6 @6
theorem vX4_digits_4 (κ : KS) (k1 : Int32) (y1 : Int32) (y2 : Int32) (x4 : Int32) (r5 : Int32) (x6 : Int32) (x7 : Int32) (x8 : Int32) (hpre_2 : k1.toInt ≤ 41) (hi6 : 0 ≤ y2.toInt) (c3 : y2.toInt < k1.toInt) (ex4 : x4 = y1 * (10 : Int32)) (hr5_0 : 0 ≤ r5.toInt) (hr5_1 : r5.toInt ≤ 126) (hr5_2 : ¬ r5.toInt = 0 → 0 ≤ y2.toInt ∧ y2.toInt < (κ.1 6).toInt) (ex6 : x6 = r5 - (48 : Int32)) (ex7 : x7 = x4 + x6) (ex8 : x8 = y2 + (1 : Int32)) (tx8 : x8.toInt = y2.toInt + 1) : 0 ≤ x8.toInt := by
  have q1 : (1 : Int32).toInt = 1 := by decide +kernel
  have q10 : (10 : Int32).toInt = 10 := by decide +kernel
  have q48 : (48 : Int32).toInt = 48 := by decide +kernel
  first | assumption | omega | (subst_vars; omega) | trivial
-- meas@6 @6
theorem vX4_digits_5 (κ : KS) (k1 : Int32) (y1 : Int32) (y2 : Int32) (x4 : Int32) (r5 : Int32) (x6 : Int32) (x7 : Int32) (x8 : Int32) (hpre_2 : k1.toInt ≤ 41) (hi6 : 0 ≤ y2.toInt) (c3 : y2.toInt < k1.toInt) (ex4 : x4 = y1 * (10 : Int32)) (hr5_0 : 0 ≤ r5.toInt) (hr5_1 : r5.toInt ≤ 126) (hr5_2 : ¬ r5.toInt = 0 → 0 ≤ y2.toInt ∧ y2.toInt < (κ.1 6).toInt) (ex6 : x6 = r5 - (48 : Int32)) (ex7 : x7 = x4 + x6) (ex8 : x8 = y2 + (1 : Int32)) (tx8 : x8.toInt = y2.toInt + 1) : (k1.toInt - x8.toInt).toNat < (k1.toInt - y2.toInt).toNat := by
  have q1 : (1 : Int32).toInt = 1 := by decide +kernel
  have q10 : (10 : Int32).toInt = 10 := by decide +kernel
  have q48 : (48 : Int32).toInt = 48 := by decide +kernel
  first | assumption | omega | (subst_vars; omega) | trivial
set_option maxHeartbeats 4000000 in
set_option maxRecDepth 100000 in
theorem NX4_digits (l : Launch) (D : va_G) (cy : Nat → ClassId) (ad : Nat → Nat) (A : Nat → Prop) (sz0 : Nat) (sa : Nat → Nat)  (κ : KS) (sz sl : Nat) (hAF : ∀ q, A q → Fr sz0 q) (hAn : ∀ q : Nat, sz ≤ q → A q) (k0 : Int32) (k1 : Int32) (k2 : Int32) (hpre : L9 (κ.2.2.1 9) ∧ 0 ≤ k0.toInt ∧ k1.toInt ≤ 41) : Met l yX4_digits (Cond.code yX4_digits cX4_digits 6 (some .int) :: GWc) ({ frames := 1, cells := 0, slots := 0, locals := 21 }) (PcC D cy ad A sz0 sa [.ref (ad 2), .int k0, .int k1, .int k2] κ sz sl) (va_Qi (fun (r : Int32) (u : Unit) => True) (fun (u : Unit) (t : State) => Bx D cy ad A sz sl κ (0) (0) t) A) (0) (0) A := by
  refine CM_of (loc0 := [(0, .ref (ad 2)), (1, .int k0), (2, .int k1), (3, .int k2)]) (own := RX4) (nm := "digits") (by decide) rfl rfl rfl (Nat.le_of_ble_eq_true rfl) hAF hAn ?_
  intro p e s m below meth c ls hsz hsl C hP hS hl
  obtain ⟨hpre_0, hpre_1, hpre_2⟩ := hpre
  refine lv_iload_n C.x C.b dX4_digits_0 rfl (lv_at hl 3 rfl) ?_
  refine lv_istore (lv' := [(4, .int k2), (0, .ref (ad 2)), (1, .int k0), (2, .int k1), (3, .int k2)]) C.x C.b dX4_digits_1 hl (by decide) rfl (fun ls hl => ?_)
  refine lv_iload_n C.x C.b dX4_digits_3 rfl (lv_at hl 2 rfl) ?_
  refine lv_istore (lv' := [(5, .int k0), (4, .int k2), (0, .ref (ad 2)), (1, .int k0), (2, .int k1), (3, .int k2)]) C.x C.b dX4_digits_4 hl (by decide) rfl (fun ls hl => ?_)
  have lp6 : ∀ (n : Nat) (y1 : Int32) (y2 : Int32) (H : Heap) (locs : List Loc) (ls : Array Slot), (k1.toInt - y2.toInt).toNat < n → (0 ≤ y2.toInt) → CH D cy ad A κ H → va_S A s.heap H locs → lv_has ls 6 [(5, .int y2), (4, .int y1), (0, .ref (ad 2)), (1, .int k0), (2, .int k1), (3, .int k2)] → W p l e (headSpec (Cond.code yX4_digits cX4_digits 6 (some .int) :: GWc) ({ frames := 1, cells := 0, slots := 0, locals := 21 })).room s m #[.ref (ad 2), .int k0, .int k1, .int k2] below meth c H locs (0) (0) (MQ below (va_Qi (fun (r : Int32) (u : Unit) => True) (fun (u : Unit) (t : State) => Bx D cy ad A sz sl κ (0) (0) t) A) #[.ref (ad 2), .int k0, .int k1, .int k2] s (0) (0) A) (F0 m 6 ls []) := by
    intro n
    induction n with
    | zero => intro y1 y2 H locs ls hn; exact absurd hn (Nat.not_lt_zero _)
    | succ n6 ih6 =>
      intro y1 y2 H locs ls hn6  hi6 hP hS hl
      refine lv_iload C.x C.b dX4_digits_6 (lv_at hl 0 rfl) ?_
      refine lv_iload_n C.x C.b dX4_digits_8 rfl (lv_at hl 4 rfl) ?_
      refine lv_icmp_ge (tgt := 35) C.x C.b dX4_digits_9 (by decide) (fun c3 => ?_) (fun c3 => ?_)
      · have c3 : k1.toInt ≤ y2.toInt := by have h := z_le c3; exact h
        refine lv_iload C.x C.b dX4_digits_35 (lv_at hl 1 rfl) ?_
        exact c_reti C hsz hsl () trivial hP hS ⟨(Nat.le_of_ble_eq_true rfl), (Nat.le_of_ble_eq_true rfl)⟩ ⟨(Nat.le_of_ble_eq_true rfl), (Nat.le_of_ble_eq_true rfl)⟩ dX4_digits_37
      · have c3 : y2.toInt < k1.toInt := by have h := z_nle c3; exact h
        refine lv_iload C.x C.b dX4_digits_12 (lv_at hl 1 rfl) ?_
        refine lv_bipush (v := 10) C.x C.b dX4_digits_14 (by decide +kernel) ?_
        refine lv_imul C.x C.b dX4_digits_16 ?_
        refine lv_topi (fun x4 ex4 => ?_)
        refine lv_aload_n C.x C.b dX4_digits_17 rfl (lv_at hl 2 rfl) ?_
        refine lv_iload C.x C.b dX4_digits_18 (lv_at hl 0 rfl) ?_
        refine c_callVi (n := 1) (As := [.int y2]) (rest := [.int x4]) C hP hS hl.1 (NX4_peek l D cy ad A sz0 sa κ H.size (SLT H) C.f (fun q h => C.a q (Nat.le_trans hS.1 h)) y2 (vX4_digits_2 κ hpre_0)) ⟨cw_481, cw_485, by decide +kernel⟩ ⟨cw_482, cw_483, cw_484⟩ rfl (hP.recvS (k := 2) (ci := 6) C.K rfl rfl) rfl rfl (lv_room (Nat.le_of_ble_eq_true rfl)) ⟨Nat.le_of_ble_eq_true rfl, Nat.le_of_ble_eq_true rfl⟩ ⟨(Nat.le_of_ble_eq_true rfl), (Nat.le_of_ble_eq_true rfl)⟩ dX4_digits_20 (fun r5 u H locs hr5 hP hS => ?_)
        obtain ⟨hr5, hr5y⟩ := hr5
        have hr5y : (κ.1 6).toInt ≤ 40 → r5.toInt = tx (κ.2.2.1 9) (κ.1 6) y2.toInt := hr5y
        have hr5 : (0 ≤ r5.toInt ∧ r5.toInt ≤ 126 ∧ (¬ r5.toInt = 0 → 0 ≤ y2.toInt ∧ y2.toInt < (κ.1 6).toInt)) := hr5
        obtain ⟨hr5_0, hr5_1, hr5_2⟩ := hr5
        refine lv_bipush (v := 48) C.x C.b dX4_digits_23 (by decide +kernel) ?_
        refine lv_isub C.x C.b dX4_digits_25 ?_
        refine lv_topi (fun x6 ex6 => ?_)
        refine lv_iadd C.x C.b dX4_digits_26 ?_
        refine lv_topi (fun x7 ex7 => ?_)
        refine lv_istore (lv' := [(4, .int x7), (5, .int y2), (0, .ref (ad 2)), (1, .int k0), (2, .int k1), (3, .int k2)]) C.x C.b dX4_digits_27 hl (by decide) rfl (fun ls hl => ?_)
        obtain ⟨x8, ex8⟩ : ∃ y : Int32, y = y2 + (1 : Int32) := ⟨_, rfl⟩
        have tx8 : x8.toInt = y2.toInt + 1 := (vX4_digits_3 κ k1 y1 y2 x4 r5 x6 x7 x8 hpre_2 hi6 c3 ex4 hr5_0 hr5_1 hr5_2 ex6 ex7 ex8)
        refine lv_iinc (v := x8) (lv' := [(5, .int x8), (4, .int x7), (0, .ref (ad 2)), (1, .int k0), (2, .int k1), (3, .int k2)]) C.x C.b dX4_digits_29 hl (k := 1) rfl (by rw [ex8]; rfl) (by decide) rfl (fun ls hl => ?_)
        refine lv_goto (tgt := 6) C.x C.b dX4_digits_32 (by decide) ?_
        refine W.widen (k := 0) (n := 0) (Nat.le_of_ble_eq_true rfl) (Nat.le_of_ble_eq_true rfl) ?_
        exact ih6 x7 x8 _ _ _ (Nat.lt_of_lt_of_le (vX4_digits_5 κ k1 y1 y2 x4 r5 x6 x7 x8 hpre_2 hi6 c3 ex4 hr5_0 hr5_1 hr5_2 ex6 ex7 ex8 tx8) (Nat.le_of_lt_succ hn6))  (vX4_digits_4 κ k1 y1 y2 x4 r5 x6 x7 x8 hpre_2 hi6 c3 ex4 hr5_0 hr5_1 hr5_2 ex6 ex7 ex8 tx8) hP hS (lv_sub hl [0, 1, 2, 3, 4, 5] rfl)
  refine W.widen (k := 0) (n := 0) (Nat.le_of_ble_eq_true rfl) (Nat.le_of_ble_eq_true rfl) ?_
  exact lp6 ((k1.toInt - k0.toInt).toNat + 1) k2 k0 _ _ _ (Nat.lt_succ_self _)  (vX4_digits_1 k0 hpre_1) hP hS (lv_sub hl [0, 1, 2, 3, 4, 5] rfl)
