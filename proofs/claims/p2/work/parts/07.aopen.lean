-- in@8 @8
theorem v_isSign_1 (σ : RS) (hpre_0 : 0 ≤ (σ.1 14).toInt) (hpre_1 : (σ.1 14).toInt ≤ 41) : vp_in (σ.1 14) 42 := by
  exact vp_in_iff.mpr ⟨by omega, by omega⟩
-- post @33
theorem v_isSign_2 (σ : RS) (k0 : Int32) (x1 : Int32) (hpre_0 : 0 ≤ (σ.1 14).toInt) (hpre_1 : (σ.1 14).toInt ≤ 41) (ex1 : x1 = (σ.2.1 4) (σ.1 14).toNatClampNeg) (tx1 : x1.toInt = ((σ.2.1 4) (σ.1 14).toNatClampNeg).toInt) (c2 : ¬ x1.toInt = 5) : ((0 : Int32).toInt = 0 ∧ ¬ (((σ.2.1 4) (σ.1 14).toNatClampNeg).toInt = 5 ∧ ((σ.2.2.1 6) (σ.1 14).toNatClampNeg).toInt = k0.toInt)) ∨ ((0 : Int32).toInt = 1 ∧ (((σ.2.1 4) (σ.1 14).toNatClampNeg).toInt = 5 ∧ ((σ.2.2.1 6) (σ.1 14).toNatClampNeg).toInt = k0.toInt)) := by
  have q0 : (0 : Int32).toInt = 0 := by decide +kernel
  first | assumption | omega | (subst_vars; omega) | trivial
-- bool@ret @33
theorem v_isSign_3   : (0 : Int32) = 0 ∨ (0 : Int32) = 1 := by
  have q0 : (0 : Int32).toInt = 0 := by decide +kernel
  first | exact Or.inl rfl | exact Or.inr rfl | exact bool_of (by omega)
-- in@21 @21
theorem v_isSign_4 (σ : RS) (x1 : Int32) (hpre_0 : 0 ≤ (σ.1 14).toInt) (hpre_1 : (σ.1 14).toInt ≤ 41) (ex1 : x1 = (σ.2.1 4) (σ.1 14).toNatClampNeg) (tx1 : x1.toInt = ((σ.2.1 4) (σ.1 14).toNatClampNeg).toInt) (c2 : x1.toInt = 5) : vp_in (σ.1 14) 42 := by
  exact vp_in_iff.mpr ⟨by omega, by omega⟩
-- post @33
theorem v_isSign_5 (σ : RS) (k0 : Int32) (x1 : Int32) (x3 : Int64) (x4 : Int64) (x5 : Int32) (hpre_0 : 0 ≤ (σ.1 14).toInt) (hpre_1 : (σ.1 14).toInt ≤ 41) (ex1 : x1 = (σ.2.1 4) (σ.1 14).toNatClampNeg) (tx1 : x1.toInt = ((σ.2.1 4) (σ.1 14).toNatClampNeg).toInt) (c2 : x1.toInt = 5) (ex3 : x3 = (σ.2.2.1 6) (σ.1 14).toNatClampNeg) (tx3 : x3.toInt = ((σ.2.2.1 6) (σ.1 14).toNatClampNeg).toInt) (ex4 : x4 = Int32.toInt64 k0) (tx4 : x4.toInt = k0.toInt) (tx5 : (x5.toInt = 0 ↔ x3.toInt = x4.toInt) ∧ (x5.toInt < 0 ↔ x3.toInt < x4.toInt)) (c6 : ¬ x5.toInt = 0) : ((0 : Int32).toInt = 0 ∧ ¬ (((σ.2.1 4) (σ.1 14).toNatClampNeg).toInt = 5 ∧ ((σ.2.2.1 6) (σ.1 14).toNatClampNeg).toInt = k0.toInt)) ∨ ((0 : Int32).toInt = 1 ∧ (((σ.2.1 4) (σ.1 14).toNatClampNeg).toInt = 5 ∧ ((σ.2.2.1 6) (σ.1 14).toNatClampNeg).toInt = k0.toInt)) := by
  have q0 : (0 : Int32).toInt = 0 := by decide +kernel
  first | assumption | omega | (subst_vars; omega) | trivial
-- post @33
theorem v_isSign_6 (σ : RS) (k0 : Int32) (x1 : Int32) (x3 : Int64) (x4 : Int64) (x5 : Int32) (hpre_0 : 0 ≤ (σ.1 14).toInt) (hpre_1 : (σ.1 14).toInt ≤ 41) (ex1 : x1 = (σ.2.1 4) (σ.1 14).toNatClampNeg) (tx1 : x1.toInt = ((σ.2.1 4) (σ.1 14).toNatClampNeg).toInt) (c2 : x1.toInt = 5) (ex3 : x3 = (σ.2.2.1 6) (σ.1 14).toNatClampNeg) (tx3 : x3.toInt = ((σ.2.2.1 6) (σ.1 14).toNatClampNeg).toInt) (ex4 : x4 = Int32.toInt64 k0) (tx4 : x4.toInt = k0.toInt) (tx5 : (x5.toInt = 0 ↔ x3.toInt = x4.toInt) ∧ (x5.toInt < 0 ↔ x3.toInt < x4.toInt)) (c6 : x5.toInt = 0) : ((1 : Int32).toInt = 0 ∧ ¬ (((σ.2.1 4) (σ.1 14).toNatClampNeg).toInt = 5 ∧ ((σ.2.2.1 6) (σ.1 14).toNatClampNeg).toInt = k0.toInt)) ∨ ((1 : Int32).toInt = 1 ∧ (((σ.2.1 4) (σ.1 14).toNatClampNeg).toInt = 5 ∧ ((σ.2.2.1 6) (σ.1 14).toNatClampNeg).toInt = k0.toInt)) := by
  have q1 : (1 : Int32).toInt = 1 := by decide +kernel
  first | assumption | omega | (subst_vars; omega) | trivial
-- bool@ret @33
theorem v_isSign_7   : (1 : Int32) = 0 ∨ (1 : Int32) = 1 := by
  have q1 : (1 : Int32).toInt = 1 := by decide +kernel
  first | exact Or.inl rfl | exact Or.inr rfl | exact bool_of (by omega)
set_option maxHeartbeats 4000000 in
set_option maxRecDepth 100000 in
theorem M_isSign (l : Launch) (D : va_G) (cy : Nat → ClassId) (sz0 : Nat) (sa : Nat → Nat) (ad : Nat → Nat) (σ : RS) (sz : Nat) (k0 : Int32) (hpre : 0 ≤ (σ.1 14).toInt ∧ (σ.1 14).toInt ≤ 41) : Met l yX12_isSign (Cond.code yX12_isSign cX12_isSign 2 (some .boolean) :: GWm) ({ frames := 0, cells := 0, slots := 0, locals := 0 }) (PcR D cy sz0 sa ad [.ref (ad 0), .int k0] σ sz) (va_Qi (fun (r : Int32) (u : Unit) => (r.toInt = 0 ∧ ¬ (((σ.2.1 4) (σ.1 14).toNatClampNeg).toInt = 5 ∧ ((σ.2.2.1 6) (σ.1 14).toNatClampNeg).toInt = k0.toInt)) ∨ (r.toInt = 1 ∧ (((σ.2.1 4) (σ.1 14).toNatClampNeg).toInt = 5 ∧ ((σ.2.2.1 6) (σ.1 14).toNatClampNeg).toInt = k0.toInt))) (fun (u : Unit) (t : State) => RP D cy ad σ t.heap) (AR cy ad sz)) 0 0 (AR cy ad sz) := by
  refine RM_of (loc0 := [(0, .ref (ad 0)), (1, .int k0)]) (by decide) rfl rfl (Nat.le_of_ble_eq_true rfl) ?_
  intro p e s m below meth c ls hsz C hP hS hl
  have hx := C.1
  have hb := C.2.1
  have hown := C.2.2.2.2.1
  have hw := C.2.2.2.2.2.1
  clear hsz
  obtain ⟨hpre_0, hpre_1⟩ := hpre
  refine lv_aload_n hx hb dX12_isSign_0 rfl (lv_at hl 0 rfl) ?_
  refine rg_4 C hP wm_16 dX12_isSign_1 ?_
  refine lv_aload_n hx hb dX12_isSign_4 rfl (lv_at hl 0 rfl) ?_
  refine rg_14 (v := (σ.1 14)) C hP rfl wm_62 dX12_isSign_5 ?_
  refine ra_4 (f := (σ.2.1 4)) C hP rfl (v_isSign_1 σ hpre_0 hpre_1) dX12_isSign_8 (fun x1 ex1 => ?_)
  have tx1 : x1.toInt = ((σ.2.1 4) (σ.1 14).toNatClampNeg).toInt := by rw [ex1]
  refine lv_iconst (v := 5) hx hb dX12_isSign_9 (by decide +kernel) ?_
  refine lv_icmp_ne (tgt := 32) hx hb dX12_isSign_10 (by decide) (fun c2 => ?_) (fun c2 => ?_)
  · have c2 : ¬ x1.toInt = 5 := by have h := z_ne c2; rw [show (5 : Int32).toInt = 5 from by decide +kernel] at h; exact h
    refine lv_iconst (v := 0) hx hb dX12_isSign_32 (by decide +kernel) ?_
    exact r_retz C () (v_isSign_3  ) (v_isSign_2 σ k0 x1 hpre_0 hpre_1 ex1 tx1 c2) hP hS dX12_isSign_33
  · have c2 : x1.toInt = 5 := by have h := z_eq c2; rw [show (5 : Int32).toInt = 5 from by decide +kernel] at h; exact h
    refine lv_aload_n hx hb dX12_isSign_13 rfl (lv_at hl 0 rfl) ?_
    refine rg_6 C hP wm_19 dX12_isSign_14 ?_
    refine lv_aload_n hx hb dX12_isSign_17 rfl (lv_at hl 0 rfl) ?_
    refine rg_14 (v := (σ.1 14)) C hP rfl wm_62 dX12_isSign_18 ?_
    refine ra_6 (f := (σ.2.2.1 6)) C hP rfl (v_isSign_4 σ x1 hpre_0 hpre_1 ex1 tx1 c2) dX12_isSign_21 (fun x3 ex3 => ?_)
    have tx3 : x3.toInt = ((σ.2.2.1 6) (σ.1 14).toNatClampNeg).toInt := by rw [ex3]
    refine lv_iload_n hx hb dX12_isSign_22 rfl (lv_at hl 1 rfl) ?_
    refine lv_i2l hx hb dX12_isSign_23 rfl ?_
    refine lv_topl (fun x4 ex4 => ?_)
    have tx4 : x4.toInt = k0.toInt := by rw [ex4]; exact Int32.toInt_toInt64 _
    refine W.lcmp hx hb dX12_isSign_24 ?_
    refine lv_topi (fun x5 ex5 => ?_)
    have tx5 : (x5.toInt = 0 ↔ x3.toInt = x4.toInt) ∧ (x5.toInt < 0 ↔ x3.toInt < x4.toInt) := z_lcmp ex5 rfl rfl
    refine lv_if_ne (tgt := 32) hx hb dX12_isSign_25 (by decide) (fun c6 => ?_) (fun c6 => ?_)
    · have c6 : ¬ x5.toInt = 0 := by have h := z_ne c6; rw [show (0 : Int32).toInt = 0 from by decide +kernel] at h; exact h
      refine lv_iconst (v := 0) hx hb dX12_isSign_32 (by decide +kernel) ?_
      exact r_retz C () (v_isSign_3  ) (v_isSign_5 σ k0 x1 x3 x4 x5 hpre_0 hpre_1 ex1 tx1 c2 ex3 tx3 ex4 tx4 tx5 c6) hP hS dX12_isSign_33
    · have c6 : x5.toInt = 0 := by have h := z_eq c6; rw [show (0 : Int32).toInt = 0 from by decide +kernel] at h; exact h
      refine lv_iconst (v := 1) hx hb dX12_isSign_28 (by decide +kernel) ?_
      refine lv_goto (tgt := 33) hx hb dX12_isSign_29 (by decide) ?_
      exact r_retz C () (v_isSign_7  ) (v_isSign_6 σ k0 x1 x3 x4 x5 hpre_0 hpre_1 ex1 tx1 c2 ex3 tx3 ex4 tx4 tx5 c6) hP hS dX12_isSign_33

-- in@10 @10
theorem v_misfit_1 (σ : RS) (hpre_0 : 0 ≤ (σ.1 14).toInt) (hpre_1 : (σ.1 14).toInt ≤ 41) : vp_in (σ.1 14) 42 := by
  exact vp_in_iff.mpr ⟨by omega, by omega⟩
-- post @14
theorem v_misfit_2 (σ : RS) (n3 : Int32) (hr2_0 : (σ.1 8).toInt = 0 → n3.toInt = (2 : Int32).toInt) (hr2_1 : ¬ (σ.1 8).toInt = 0 → n3.toInt = (σ.1 8).toInt) : (σ.1 8).toInt = 0 → n3.toInt = 2 := by
  have q2 : (2 : Int32).toInt = 2 := by decide +kernel
  intro hc; omega
-- post2 @14
theorem v_misfit_3 (σ : RS) (x1 : Int32) (n3 : Int32) (n4 : Int32) (hpre_0 : 0 ≤ (σ.1 14).toInt) (hpre_1 : (σ.1 14).toInt ≤ 41) (ex1 : x1 = (σ.2.1 5) (σ.1 14).toNatClampNeg) (tx1 : x1.toInt = ((σ.2.1 5) (σ.1 14).toNatClampNeg).toInt) (hr2y_0 : (σ.1 8).toInt = 0 → n4.toInt = x1.toInt) (hr2y_1 : ¬ (σ.1 8).toInt = 0 → n4.toInt = (σ.1 9).toInt) (hr2_0 : (σ.1 8).toInt = 0 → n3.toInt = (2 : Int32).toInt) (hr2_1 : ¬ (σ.1 8).toInt = 0 → n3.toInt = (σ.1 8).toInt) : mkC ((σ.1 19).toInt).toNat ((σ.1 29).toInt).toNat ((σ.1 14).toInt).toNat ((σ.1 17).toInt) (n3.toInt) (n4.toInt) ((σ.1 18).toInt) ((σ.1 16).toInt).toNat ((σ.1 33).toInt) ((σ.1 34).toInt) (tz (σ.2.1 20)) (tz (σ.2.1 21)) (tz (σ.2.1 22)) (tz (σ.2.1 23)) (tz (σ.2.1 24)) (tz (σ.2.1 25)) (tz (σ.2.1 26)) (tz (σ.2.1 27)) (tz (σ.2.1 28)) (tz (σ.2.1 30)) (tz (σ.2.1 31)) (tz (σ.2.1 32)) (tz (σ.2.1 11)) (tzl (σ.2.2.1 12)) = misC (tz (σ.2.1 5)) (mkC ((σ.1 19).toInt).toNat ((σ.1 29).toInt).toNat ((σ.1 14).toInt).toNat ((σ.1 17).toInt) ((σ.1 8).toInt) ((σ.1 9).toInt) ((σ.1 18).toInt) ((σ.1 16).toInt).toNat ((σ.1 33).toInt) ((σ.1 34).toInt) (tz (σ.2.1 20)) (tz (σ.2.1 21)) (tz (σ.2.1 22)) (tz (σ.2.1 23)) (tz (σ.2.1 24)) (tz (σ.2.1 25)) (tz (σ.2.1 26)) (tz (σ.2.1 27)) (tz (σ.2.1 28)) (tz (σ.2.1 30)) (tz (σ.2.1 31)) (tz (σ.2.1 32)) (tz (σ.2.1 11)) (tzl (σ.2.2.1 12))) := by
  have q2 : (2 : Int32).toInt = 2 := by decide +kernel
  try simp only [clampN] at *
  unfold misC wrongC
  by_cases h9 : (σ.1 8).toInt = 0
  · rw [if_pos (by simp only [xfr_mk, xwa_mk, xnx_mk, xop_mk, xer_mk, xwh_mk, xdn_mk, xwr_mk, xtg_mk, xts_mk, xfm_mk, xbs_mk, xsg_mk, xpa_mk, xcn_mk, xck_mk, xcl_mk, xpl_mk, xam_mk, xoo_mk, xlv_mk, xjm_mk, xst_mk, xwi_mk]; exact h9)]
    simp only [xfr_mk, xwa_mk, xnx_mk, xop_mk, xer_mk, xwh_mk, xdn_mk, xwr_mk, xtg_mk, xts_mk, xfm_mk, xbs_mk, xsg_mk, xpa_mk, xcn_mk, xck_mk, xcl_mk, xpl_mk, xam_mk, xoo_mk, xlv_mk, xjm_mk, xst_mk, xwi_mk, tz]
    refine mk_cong ?_ ?_ ?_ ?_ ?_ ?_ ?_ ?_ ?_ ?_ ?_ ?_ ?_ ?_ ?_ ?_ ?_ ?_ ?_ ?_ ?_ ?_ ?_ ?_ <;> first | with_reducible rfl | omega | (simp only [tz, tzl]; omega) | (repeat refine tz_uc ?_ (by first | with_reducible rfl | omega | (simp only [tz, tzl]; omega)) (by first | with_reducible rfl | omega | (simp only [tz, tzl]; omega))) <;> with_reducible rfl | (repeat refine tzl_uc ?_ (by first | with_reducible rfl | omega | (simp only [tz, tzl]; omega)) (by first | with_reducible rfl | omega | (simp only [tz, tzl]; omega))) <;> with_reducible rfl
  · rw [if_neg (by simp only [xfr_mk, xwa_mk, xnx_mk, xop_mk, xer_mk, xwh_mk, xdn_mk, xwr_mk, xtg_mk, xts_mk, xfm_mk, xbs_mk, xsg_mk, xpa_mk, xcn_mk, xck_mk, xcl_mk, xpl_mk, xam_mk, xoo_mk, xlv_mk, xjm_mk, xst_mk, xwi_mk]; exact h9)]
    refine mk_cong ?_ ?_ ?_ ?_ ?_ ?_ ?_ ?_ ?_ ?_ ?_ ?_ ?_ ?_ ?_ ?_ ?_ ?_ ?_ ?_ ?_ ?_ ?_ ?_ <;> first | with_reducible rfl | omega | (simp only [tz, tzl]; omega) | (repeat refine tz_uc ?_ (by first | with_reducible rfl | omega | (simp only [tz, tzl]; omega)) (by first | with_reducible rfl | omega | (simp only [tz, tzl]; omega))) <;> with_reducible rfl | (repeat refine tzl_uc ?_ (by first | with_reducible rfl | omega | (simp only [tz, tzl]; omega)) (by first | with_reducible rfl | omega | (simp only [tz, tzl]; omega))) <;> with_reducible rfl
set_option maxHeartbeats 4000000 in
set_option maxRecDepth 100000 in
theorem M_misfit (l : Launch) (D : va_G) (cy : Nat → ClassId) (sz0 : Nat) (sa : Nat → Nat) (ad : Nat → Nat) (σ : RS) (sz : Nat)  (hpre : 0 ≤ (σ.1 14).toInt ∧ (σ.1 14).toInt ≤ 41) : Met l yX12_misfit (Cond.code yX12_misfit cX12_misfit 1 none :: GWm) ({ frames := 1, cells := 0, slots := 0, locals := 22 }) (PcR D cy sz0 sa ad [.ref (ad 0)] σ sz) (va_Qv (fun (u : Int32 × Int32) => ((σ.1 8).toInt = 0 → u.1.toInt = 2) ∧ (mkC ((σ.1 19).toInt).toNat ((σ.1 29).toInt).toNat ((σ.1 14).toInt).toNat ((σ.1 17).toInt) (u.1.toInt) (u.2.toInt) ((σ.1 18).toInt) ((σ.1 16).toInt).toNat ((σ.1 33).toInt) ((σ.1 34).toInt) (tz (σ.2.1 20)) (tz (σ.2.1 21)) (tz (σ.2.1 22)) (tz (σ.2.1 23)) (tz (σ.2.1 24)) (tz (σ.2.1 25)) (tz (σ.2.1 26)) (tz (σ.2.1 27)) (tz (σ.2.1 28)) (tz (σ.2.1 30)) (tz (σ.2.1 31)) (tz (σ.2.1 32)) (tz (σ.2.1 11)) (tzl (σ.2.2.1 12)) = misC (tz (σ.2.1 5)) (mkC ((σ.1 19).toInt).toNat ((σ.1 29).toInt).toNat ((σ.1 14).toInt).toNat ((σ.1 17).toInt) ((σ.1 8).toInt) ((σ.1 9).toInt) ((σ.1 18).toInt) ((σ.1 16).toInt).toNat ((σ.1 33).toInt) ((σ.1 34).toInt) (tz (σ.2.1 20)) (tz (σ.2.1 21)) (tz (σ.2.1 22)) (tz (σ.2.1 23)) (tz (σ.2.1 24)) (tz (σ.2.1 25)) (tz (σ.2.1 26)) (tz (σ.2.1 27)) (tz (σ.2.1 28)) (tz (σ.2.1 30)) (tz (σ.2.1 31)) (tz (σ.2.1 32)) (tz (σ.2.1 11)) (tzl (σ.2.2.1 12))))) (fun (u : Int32 × Int32) (t : State) => RP D cy ad (rS (rS σ 8 u.1) 9 u.2) t.heap) (AR cy ad sz)) 0 0 (AR cy ad sz) := by
  refine RM_of (loc0 := [(0, .ref (ad 0))]) (by decide) rfl rfl (Nat.le_of_ble_eq_true rfl) ?_
  intro p e s m below meth c ls hsz C hP hS hl
  have hx := C.1
  have hb := C.2.1
  have hown := C.2.2.2.2.1
  have hw := C.2.2.2.2.2.1
  clear hsz
  obtain ⟨hpre_0, hpre_1⟩ := hpre
  refine lv_aload_n hx hb dX12_misfit_0 rfl (lv_at hl 0 rfl) ?_
  refine lv_iconst (v := 2) hx hb dX12_misfit_1 (by decide +kernel) ?_
  refine lv_aload_n hx hb dX12_misfit_2 rfl (lv_at hl 0 rfl) ?_
  refine rg_5 C hP wm_18 dX12_misfit_3 ?_
  refine lv_aload_n hx hb dX12_misfit_6 rfl (lv_at hl 0 rfl) ?_
  refine rg_14 (v := (σ.1 14)) C hP rfl wm_62 dX12_misfit_7 ?_
  refine ra_5 (f := (σ.2.1 5)) C hP rfl (v_misfit_1 σ hpre_0 hpre_1) dX12_misfit_10 (fun x1 ex1 => ?_)
  have tx1 : x1.toInt = ((σ.2.1 5) (σ.1 14).toNatClampNeg).toInt := by rw [ex1]
  refine r_callVv (As := [.int 2, .int x1]) (rest := []) C hP hS hl.1 ⟨Nat.zero_le _, Nat.zero_le _⟩ (M_wrong l D cy sz0 sa ad σ s.heap.size (2 : Int32) x1 trivial) (n := 2) ⟨wm_27, wm_12, by decide +kernel⟩ ⟨wm_28, wm_29, wm_10⟩ rfl rfl (lv_room (Nat.le_of_ble_eq_true rfl)) ⟨Nat.le_of_ble_eq_true rfl, Nat.le_of_ble_eq_true rfl⟩ dX12_misfit_11 (fun u H locs hr2 hP hS => ?_)
  obtain ⟨n3, n4⟩ := u
  obtain ⟨hr2, hr2y⟩ := hr2
  have hr2y : ((σ.1 8).toInt = 0 → n4.toInt = x1.toInt) ∧ (¬ (σ.1 8).toInt = 0 → n4.toInt = (σ.1 9).toInt) := hr2y
  have hr2 : ((σ.1 8).toInt = 0 → n3.toInt = (2 : Int32).toInt) ∧ (¬ (σ.1 8).toInt = 0 → n3.toInt = (σ.1 8).toInt) := hr2
  obtain ⟨hr2y_0, hr2y_1⟩ := hr2y
  obtain ⟨hr2_0, hr2_1⟩ := hr2
  have hP : RP D cy ad (rS (rS σ 8 n3) 9 n4) H := hP
  exact r_retv C ⟨n3, n4⟩ ⟨(v_misfit_2 σ n3 hr2_0 hr2_1), (v_misfit_3 σ x1 n3 n4 hpre_0 hpre_1 ex1 tx1 hr2y_0 hr2y_1 hr2_0 hr2_1)⟩ hP hS dX12_misfit_14

-- nw@12 @12
theorem v_emit_1 (σ : RS) (x1 : Int32) (hpre_0 : 0 ≤ (σ.1 15).toInt) (hpre_1 : 0 ≤ (σ.1 16).toInt) (hpre_2 : (σ.1 15).toInt + (σ.1 16).toInt < 3600) (ex1 : x1 = (σ.1 15) + (σ.1 16)) : x1.toInt = (σ.1 15).toInt + (σ.1 16).toInt := by
  rw [ex1, z_add (by omega) (by omega)]; first | done | omega
-- in@14 @14
theorem v_emit_2 (σ : RS) (x1 : Int32) (hpre_0 : 0 ≤ (σ.1 15).toInt) (hpre_1 : 0 ≤ (σ.1 16).toInt) (hpre_2 : (σ.1 15).toInt + (σ.1 16).toInt < 3600) (ex1 : x1 = (σ.1 15) + (σ.1 16)) (tx1 : x1.toInt = (σ.1 15).toInt + (σ.1 16).toInt) : vp_in x1 3600 := by
  exact vp_in_iff.mpr ⟨by omega, by omega⟩
-- nw@27 @27
theorem v_emit_3 (σ : RS) (x1 : Int32) (x2 : Int32) (hpre_0 : 0 ≤ (σ.1 15).toInt) (hpre_1 : 0 ≤ (σ.1 16).toInt) (hpre_2 : (σ.1 15).toInt + (σ.1 16).toInt < 3600) (ex1 : x1 = (σ.1 15) + (σ.1 16)) (tx1 : x1.toInt = (σ.1 15).toInt + (σ.1 16).toInt) (ex2 : x2 = (σ.1 15) + (σ.1 16)) : x2.toInt = (σ.1 15).toInt + (σ.1 16).toInt := by
  rw [ex2, z_add (by omega) (by omega)]; first | done | omega
-- in@29 @29
theorem v_emit_4 (σ : RS) (x1 : Int32) (x2 : Int32) (hpre_0 : 0 ≤ (σ.1 15).toInt) (hpre_1 : 0 ≤ (σ.1 16).toInt) (hpre_2 : (σ.1 15).toInt + (σ.1 16).toInt < 3600) (ex1 : x1 = (σ.1 15) + (σ.1 16)) (tx1 : x1.toInt = (σ.1 15).toInt + (σ.1 16).toInt) (ex2 : x2 = (σ.1 15) + (σ.1 16)) (tx2 : x2.toInt = (σ.1 15).toInt + (σ.1 16).toInt) : vp_in x2 3600 := by
  exact vp_in_iff.mpr ⟨by omega, by omega⟩
-- nw@36 @36
theorem v_emit_5 (σ : RS) (x1 : Int32) (x2 : Int32) (x3 : Int32) (hpre_0 : 0 ≤ (σ.1 15).toInt) (hpre_1 : 0 ≤ (σ.1 16).toInt) (hpre_2 : (σ.1 15).toInt + (σ.1 16).toInt < 3600) (ex1 : x1 = (σ.1 15) + (σ.1 16)) (tx1 : x1.toInt = (σ.1 15).toInt + (σ.1 16).toInt) (ex2 : x2 = (σ.1 15) + (σ.1 16)) (tx2 : x2.toInt = (σ.1 15).toInt + (σ.1 16).toInt) (ex3 : x3 = (σ.1 16) + (1 : Int32)) : x3.toInt = (σ.1 16).toInt + 1 := by
  have q1 : (1 : Int32).toInt = 1 := by decide +kernel
  have w1 : (1 : Int32).toInt = 1 := by decide +kernel
  rw [ex3, z_add (by omega) (by omega)]; first | done | omega
-- nw@48 @48
theorem v_emit_6 (σ : RS) (x1 : Int32) (x2 : Int32) (x3 : Int32) (x4 : Int32) (hpre_0 : 0 ≤ (σ.1 15).toInt) (hpre_1 : 0 ≤ (σ.1 16).toInt) (hpre_2 : (σ.1 15).toInt + (σ.1 16).toInt < 3600) (ex1 : x1 = (σ.1 15) + (σ.1 16)) (tx1 : x1.toInt = (σ.1 15).toInt + (σ.1 16).toInt) (ex2 : x2 = (σ.1 15) + (σ.1 16)) (tx2 : x2.toInt = (σ.1 15).toInt + (σ.1 16).toInt) (ex3 : x3 = (σ.1 16) + (1 : Int32)) (tx3 : x3.toInt = (σ.1 16).toInt + 1) (ex4 : x4 = (σ.1 15) + x3) : x4.toInt = (σ.1 15).toInt + x3.toInt := by
  have q1 : (1 : Int32).toInt = 1 := by decide +kernel
  rw [ex4, z_add (by omega) (by omega)]; first | done | omega
-- nw@50 @50
theorem v_emit_7 (σ : RS) (x1 : Int32) (x2 : Int32) (x3 : Int32) (x4 : Int32) (x5 : Int32) (hpre_0 : 0 ≤ (σ.1 15).toInt) (hpre_1 : 0 ≤ (σ.1 16).toInt) (hpre_2 : (σ.1 15).toInt + (σ.1 16).toInt < 3600) (ex1 : x1 = (σ.1 15) + (σ.1 16)) (tx1 : x1.toInt = (σ.1 15).toInt + (σ.1 16).toInt) (ex2 : x2 = (σ.1 15) + (σ.1 16)) (tx2 : x2.toInt = (σ.1 15).toInt + (σ.1 16).toInt) (ex3 : x3 = (σ.1 16) + (1 : Int32)) (tx3 : x3.toInt = (σ.1 16).toInt + 1) (ex4 : x4 = (σ.1 15) + x3) (tx4 : x4.toInt = (σ.1 15).toInt + x3.toInt) (ex5 : x5 = x4 - (1 : Int32)) : x5.toInt = x4.toInt - 1 := by
  have q1 : (1 : Int32).toInt = 1 := by decide +kernel
  have w1 : (1 : Int32).toInt = 1 := by decide +kernel
  rw [ex5, z_sub (by omega) (by omega)]; first | done | omega
-- post @51
theorem v_emit_8 (σ : RS) (x1 : Int32) (x2 : Int32) (x3 : Int32) (x4 : Int32) (x5 : Int32) (hpre_0 : 0 ≤ (σ.1 15).toInt) (hpre_1 : 0 ≤ (σ.1 16).toInt) (hpre_2 : (σ.1 15).toInt + (σ.1 16).toInt < 3600) (ex1 : x1 = (σ.1 15) + (σ.1 16)) (tx1 : x1.toInt = (σ.1 15).toInt + (σ.1 16).toInt) (ex2 : x2 = (σ.1 15) + (σ.1 16)) (tx2 : x2.toInt = (σ.1 15).toInt + (σ.1 16).toInt) (ex3 : x3 = (σ.1 16) + (1 : Int32)) (tx3 : x3.toInt = (σ.1 16).toInt + 1) (ex4 : x4 = (σ.1 15) + x3) (tx4 : x4.toInt = (σ.1 15).toInt + x3.toInt) (ex5 : x5 = x4 - (1 : Int32)) (tx5 : x5.toInt = x4.toInt - 1) : x3.toInt = (σ.1 16).toInt + 1 ∧ x5.toInt = (σ.1 15).toInt + (σ.1 16).toInt := by
  have q1 : (1 : Int32).toInt = 1 := by decide +kernel
  refine ⟨?_, ?_⟩ <;> first | assumption | omega | (subst_vars; omega) | trivial
-- set@step @51
theorem v_emit_9 (σ : RS) (k0 : Int32) (x1 : Int32) (x2 : Int32) (x3 : Int32) (x4 : Int32) (x5 : Int32) (hpre_0 : 0 ≤ (σ.1 15).toInt) (hpre_1 : 0 ≤ (σ.1 16).toInt) (hpre_2 : (σ.1 15).toInt + (σ.1 16).toInt < 3600) (ex1 : x1 = (σ.1 15) + (σ.1 16)) (tx1 : x1.toInt = (σ.1 15).toInt + (σ.1 16).toInt) (ex2 : x2 = (σ.1 15) + (σ.1 16)) (tx2 : x2.toInt = (σ.1 15).toInt + (σ.1 16).toInt) (ex3 : x3 = (σ.1 16) + (1 : Int32)) (tx3 : x3.toInt = (σ.1 16).toInt + 1) (ex4 : x4 = (σ.1 15) + x3) (tx4 : x4.toInt = (σ.1 15).toInt + x3.toInt) (ex5 : x5 = x4 - (1 : Int32)) (tx5 : x5.toInt = x4.toInt - 1) : (upd (σ.2.1 11) x1.toNatClampNeg k0) = (upd (σ.2.1 11) ((σ.1 15).toInt + (σ.1 16).toInt).toNat k0) := by
  have q1 : (1 : Int32).toInt = 1 := by decide +kernel
  first | rfl | (subst_vars; rfl) | (congr 1; rw [clampN]; omega)
-- set@with @51
theorem v_emit_10 (σ : RS) (k1 : Int64) (x1 : Int32) (x2 : Int32) (x3 : Int32) (x4 : Int32) (x5 : Int32) (hpre_0 : 0 ≤ (σ.1 15).toInt) (hpre_1 : 0 ≤ (σ.1 16).toInt) (hpre_2 : (σ.1 15).toInt + (σ.1 16).toInt < 3600) (ex1 : x1 = (σ.1 15) + (σ.1 16)) (tx1 : x1.toInt = (σ.1 15).toInt + (σ.1 16).toInt) (ex2 : x2 = (σ.1 15) + (σ.1 16)) (tx2 : x2.toInt = (σ.1 15).toInt + (σ.1 16).toInt) (ex3 : x3 = (σ.1 16) + (1 : Int32)) (tx3 : x3.toInt = (σ.1 16).toInt + 1) (ex4 : x4 = (σ.1 15) + x3) (tx4 : x4.toInt = (σ.1 15).toInt + x3.toInt) (ex5 : x5 = x4 - (1 : Int32)) (tx5 : x5.toInt = x4.toInt - 1) : (vp_updL (σ.2.2.1 12) x2.toNatClampNeg k1) = (vp_updL (σ.2.2.1 12) ((σ.1 15).toInt + (σ.1 16).toInt).toNat k1) := by
  have q1 : (1 : Int32).toInt = 1 := by decide +kernel
  first | rfl | (subst_vars; rfl) | (congr 1; rw [clampN]; omega)
set_option maxHeartbeats 4000000 in
set_option maxRecDepth 100000 in
theorem M_emit (l : Launch) (D : va_G) (cy : Nat → ClassId) (sz0 : Nat) (sa : Nat → Nat) (ad : Nat → Nat) (σ : RS) (sz : Nat) (k0 : Int32) (k1 : Int64) (hpre : 0 ≤ (σ.1 15).toInt ∧ 0 ≤ (σ.1 16).toInt ∧ (σ.1 15).toInt + (σ.1 16).toInt < 3600) : Met l yX12_emit (Cond.code yX12_emit cX12_emit 4 (some .int) :: GWm) ({ frames := 0, cells := 0, slots := 0, locals := 0 }) (PcR D cy sz0 sa ad [.ref (ad 0), .int k0, .long k1] σ sz) (va_Qi (fun (r : Int32) (u : Int32) => u.toInt = (σ.1 16).toInt + 1 ∧ r.toInt = (σ.1 15).toInt + (σ.1 16).toInt) (fun (u : Int32) (t : State) => RP D cy ad (rS (rJ (rA σ 11 (upd (σ.2.1 11) ((σ.1 15).toInt + (σ.1 16).toInt).toNat k0)) 12 (vp_updL (σ.2.2.1 12) ((σ.1 15).toInt + (σ.1 16).toInt).toNat k1)) 16 u) t.heap) (AR cy ad sz)) 0 0 (AR cy ad sz) := by
  refine RM_of (loc0 := [(0, .ref (ad 0)), (1, .int k0), (2, .long k1)]) (by decide) rfl rfl (Nat.le_of_ble_eq_true rfl) ?_
  intro p e s m below meth c ls hsz C hP hS hl
  have hx := C.1
  have hb := C.2.1
  have hown := C.2.2.2.2.1
  have hw := C.2.2.2.2.2.1
  clear hsz
  obtain ⟨hpre_0, hpre_1, hpre_2⟩ := hpre
  refine lv_aload_n hx hb dX12_emit_0 rfl (lv_at hl 0 rfl) ?_
  refine rg_11 C hP wm_65 dX12_emit_1 ?_
  refine lv_aload_n hx hb dX12_emit_4 rfl (lv_at hl 0 rfl) ?_
  refine rg_15 (v := (σ.1 15)) C hP rfl wm_66 dX12_emit_5 ?_
  refine lv_aload_n hx hb dX12_emit_8 rfl (lv_at hl 0 rfl) ?_
  refine rg_16 (v := (σ.1 16)) C hP rfl wm_67 dX12_emit_9 ?_
  refine lv_iadd hx hb dX12_emit_12 ?_
  refine lv_topi (fun x1 ex1 => ?_)
  have tx1 : x1.toInt = (σ.1 15).toInt + (σ.1 16).toInt := (v_emit_1 σ x1 hpre_0 hpre_1 hpre_2 ex1)
  refine lv_iload_n hx hb dX12_emit_13 rfl (lv_at hl 1 rfl) ?_
  refine rw_11 (f := (σ.2.1 11)) C hP hS rfl (v_emit_2 σ x1 hpre_0 hpre_1 hpre_2 ex1 tx1) dX12_emit_14 (fun H locs hP hS => ?_)
  refine lv_aload_n hx hb dX12_emit_15 rfl (lv_at hl 0 rfl) ?_
  refine rg_12 C hP wm_68 dX12_emit_16 ?_
  refine lv_aload_n hx hb dX12_emit_19 rfl (lv_at hl 0 rfl) ?_
  refine rg_15 (v := (σ.1 15)) C hP rfl wm_66 dX12_emit_20 ?_
  refine lv_aload_n hx hb dX12_emit_23 rfl (lv_at hl 0 rfl) ?_
  refine rg_16 (v := (σ.1 16)) C hP rfl wm_67 dX12_emit_24 ?_
  refine lv_iadd hx hb dX12_emit_27 ?_
  refine lv_topi (fun x2 ex2 => ?_)
  have tx2 : x2.toInt = (σ.1 15).toInt + (σ.1 16).toInt := (v_emit_3 σ x1 x2 hpre_0 hpre_1 hpre_2 ex1 tx1 ex2)
  refine lv_lload_n hx hb dX12_emit_28 rfl (lv_at hl 2 rfl) ?_
  refine rw_12 (f := (σ.2.2.1 12)) C hP hS rfl (v_emit_4 σ x1 x2 hpre_0 hpre_1 hpre_2 ex1 tx1 ex2 tx2) dX12_emit_29 (fun H locs hP hS => ?_)
  refine lv_aload_n hx hb dX12_emit_30 rfl (lv_at hl 0 rfl) ?_
  refine lv_dup hx hb dX12_emit_31 rfl ?_
  refine rg_16 (v := (σ.1 16)) C hP rfl wm_67 dX12_emit_32 ?_
  refine lv_iconst (v := 1) hx hb dX12_emit_35 (by decide +kernel) ?_
  refine lv_iadd hx hb dX12_emit_36 ?_
  refine lv_topi (fun x3 ex3 => ?_)
  have tx3 : x3.toInt = (σ.1 16).toInt + 1 := (v_emit_5 σ x1 x2 x3 hpre_0 hpre_1 hpre_2 ex1 tx1 ex2 tx2 ex3)
  refine rp_16 C hP hS wm_67 dX12_emit_37 (fun H locs hP hS => ?_)
  refine lv_aload_n hx hb dX12_emit_40 rfl (lv_at hl 0 rfl) ?_
  refine rg_15 (v := (σ.1 15)) C hP rfl wm_66 dX12_emit_41 ?_
  refine lv_aload_n hx hb dX12_emit_44 rfl (lv_at hl 0 rfl) ?_
  refine rg_16 (v := x3) C hP rfl wm_67 dX12_emit_45 ?_
  refine lv_iadd hx hb dX12_emit_48 ?_
  refine lv_topi (fun x4 ex4 => ?_)
  have tx4 : x4.toInt = (σ.1 15).toInt + x3.toInt := (v_emit_6 σ x1 x2 x3 x4 hpre_0 hpre_1 hpre_2 ex1 tx1 ex2 tx2 ex3 tx3 ex4)
  refine lv_iconst (v := 1) hx hb dX12_emit_49 (by decide +kernel) ?_
  refine lv_isub hx hb dX12_emit_50 ?_
  refine lv_topi (fun x5 ex5 => ?_)
  have tx5 : x5.toInt = x4.toInt - 1 := (v_emit_7 σ x1 x2 x3 x4 x5 hpre_0 hpre_1 hpre_2 ex1 tx1 ex2 tx2 ex3 tx3 ex4 tx4 ex5)
  have hs11 : (upd (σ.2.1 11) x1.toNatClampNeg k0) = (upd (σ.2.1 11) ((σ.1 15).toInt + (σ.1 16).toInt).toNat k0) := (v_emit_9 σ k0 x1 x2 x3 x4 x5 hpre_0 hpre_1 hpre_2 ex1 tx1 ex2 tx2 ex3 tx3 ex4 tx4 ex5 tx5)
  have hs12 : (vp_updL (σ.2.2.1 12) x2.toNatClampNeg k1) = (vp_updL (σ.2.2.1 12) ((σ.1 15).toInt + (σ.1 16).toInt).toNat k1) := (v_emit_10 σ k1 x1 x2 x3 x4 x5 hpre_0 hpre_1 hpre_2 ex1 tx1 ex2 tx2 ex3 tx3 ex4 tx4 ex5 tx5)
  rw [hs11, hs12] at hP
  have hP : RP D cy ad (rS (rJ (rA σ 11 (upd (σ.2.1 11) ((σ.1 15).toInt + (σ.1 16).toInt).toNat k0)) 12 (vp_updL (σ.2.2.1 12) ((σ.1 15).toInt + (σ.1 16).toInt).toNat k1)) 16 x3) H := RP.cong hP (Eq.trans (b := (σ.1 0)) rfl rfl) (Eq.trans (b := (σ.1 1)) rfl rfl) (Eq.trans (b := (σ.2.1 2)) rfl rfl) (Eq.trans (b := (σ.1 3)) rfl rfl) (Eq.trans (b := (σ.2.1 4)) rfl rfl) (Eq.trans (b := (σ.2.1 5)) rfl rfl) (Eq.trans (b := (σ.2.2.1 6)) rfl rfl) (Eq.trans (b := (σ.2.1 7)) rfl rfl) (Eq.trans (b := (σ.1 8)) rfl rfl) (Eq.trans (b := (σ.1 9)) rfl rfl) (Eq.trans (b := (σ.1 10)) rfl rfl) (Eq.trans (b := (upd (σ.2.1 11) ((σ.1 15).toInt + (σ.1 16).toInt).toNat k0)) rfl rfl) (Eq.trans (b := (vp_updL (σ.2.2.1 12) ((σ.1 15).toInt + (σ.1 16).toInt).toNat k1)) rfl rfl) (Eq.trans (b := (σ.2.1 13)) rfl rfl) (Eq.trans (b := (σ.1 14)) rfl rfl) (Eq.trans (b := (σ.1 15)) rfl rfl) (Eq.trans (b := x3) rfl rfl) (Eq.trans (b := (σ.1 17)) rfl rfl) (Eq.trans (b := (σ.1 18)) rfl rfl) (Eq.trans (b := (σ.1 19)) rfl rfl) (Eq.trans (b := (σ.2.1 20)) rfl rfl) (Eq.trans (b := (σ.2.1 21)) rfl rfl) (Eq.trans (b := (σ.2.1 22)) rfl rfl) (Eq.trans (b := (σ.2.1 23)) rfl rfl) (Eq.trans (b := (σ.2.1 24)) rfl rfl) (Eq.trans (b := (σ.2.1 25)) rfl rfl) (Eq.trans (b := (σ.2.1 26)) rfl rfl) (Eq.trans (b := (σ.2.1 27)) rfl rfl) (Eq.trans (b := (σ.2.1 28)) rfl rfl) (Eq.trans (b := (σ.1 29)) rfl rfl) (Eq.trans (b := (σ.2.1 30)) rfl rfl) (Eq.trans (b := (σ.2.1 31)) rfl rfl) (Eq.trans (b := (σ.2.1 32)) rfl rfl) (Eq.trans (b := (σ.1 33)) rfl rfl) (Eq.trans (b := (σ.1 34)) rfl rfl) (Eq.trans (b := (σ.1 35)) rfl rfl) (Eq.trans (b := (σ.2.1 36)) rfl rfl) (Eq.trans (b := (σ.2.1 37)) rfl rfl) (Eq.trans (b := (σ.2.1 38)) rfl rfl) (Eq.trans (b := (σ.2.1 39)) rfl rfl) (Eq.trans (b := (σ.2.1 40)) rfl rfl) (Eq.trans (b := (σ.2.1 41)) rfl rfl) (Eq.trans (b := (σ.2.1 42)) rfl rfl) (Eq.trans (b := (σ.2.1 43)) rfl rfl) (Eq.trans (b := (σ.2.1 44)) rfl rfl) (Eq.trans (b := (σ.2.1 45)) rfl rfl) (Eq.trans (b := (σ.2.1 46)) rfl rfl) (Eq.trans (b := (σ.1 47)) rfl rfl) (Eq.trans (b := (σ.2.1 48)) rfl rfl) (Eq.trans (b := (σ.1 49)) rfl rfl) (Eq.trans (b := (σ.2.1 50)) rfl rfl) (Eq.trans (b := (σ.2.1 51)) rfl rfl) (Eq.trans (b := (σ.2.2.1 52)) rfl rfl) (Eq.trans (b := (σ.2.2.1 53)) rfl rfl) (Eq.trans (b := (σ.2.2.2)) rfl rfl) (Eq.trans (b := (σ.1 55)) rfl rfl) (Eq.trans (b := (σ.1 56)) rfl rfl) (Eq.trans (b := (σ.1 57)) rfl rfl) (Eq.trans (b := (σ.2.1 58)) rfl rfl) (Eq.trans (b := (σ.1 59)) rfl rfl)
  exact r_reti C x3 (v_emit_8 σ x1 x2 x3 x4 x5 hpre_0 hpre_1 hpre_2 ex1 tx1 ex2 tx2 ex3 tx3 ex4 tx4 ex5 tx5) hP hS dX12_emit_51

-- nw@5 @5
theorem v_fresh_1 (σ : RS) (x1 : Int32) (hpre_0 : 1 ≤ (σ.1 19).toInt) (hpre_1 : (σ.1 19).toInt ≤ 8) (ex1 : x1 = (σ.1 19) - (1 : Int32)) : x1.toInt = (σ.1 19).toInt - 1 := by
  have q1 : (1 : Int32).toInt = 1 := by decide +kernel
  have w1 : (1 : Int32).toInt = 1 := by decide +kernel
  rw [ex1, z_sub (by omega) (by omega)]; first | done | omega
-- in@16 @16
theorem v_fresh_2 (σ : RS) (x1 : Int32) (hpre_0 : 1 ≤ (σ.1 19).toInt) (hpre_1 : (σ.1 19).toInt ≤ 8) (ex1 : x1 = (σ.1 19) - (1 : Int32)) (tx1 : x1.toInt = (σ.1 19).toInt - 1) : vp_in x1 8 := by
  have q1 : (1 : Int32).toInt = 1 := by decide +kernel
  exact vp_in_iff.mpr ⟨by omega, by omega⟩
-- bool@30 @30
theorem v_fresh_3   : (0 : Int32) = 0 ∨ (0 : Int32) = 1 := by
  have q0 : (0 : Int32).toInt = 0 := by decide +kernel
  first | exact Or.inl rfl | exact Or.inr rfl | exact bool_of (by omega)
-- bool@37 @37
theorem v_fresh_4   : (1 : Int32) = 0 ∨ (1 : Int32) = 1 := by
  have q1 : (1 : Int32).toInt = 1 := by decide +kernel
  first | exact Or.inl rfl | exact Or.inr rfl | exact bool_of (by omega)
-- set@base @50
theorem v_fresh_5 (σ : RS) (x1 : Int32) (hpre_0 : 1 ≤ (σ.1 19).toInt) (hpre_1 : (σ.1 19).toInt ≤ 8) (ex1 : x1 = (σ.1 19) - (1 : Int32)) (tx1 : x1.toInt = (σ.1 19).toInt - 1) : (upd (σ.2.1 21) x1.toNatClampNeg (σ.1 29)) = (upd (σ.2.1 21) ((σ.1 19).toInt - 1).toNat (σ.1 29)) := by
  have q1 : (1 : Int32).toInt = 1 := by decide +kernel
  first | rfl | (subst_vars; rfl) | (congr 1; rw [clampN]; omega)
-- set@sign @50
theorem v_fresh_6 (σ : RS) (x1 : Int32) (hpre_0 : 1 ≤ (σ.1 19).toInt) (hpre_1 : (σ.1 19).toInt ≤ 8) (ex1 : x1 = (σ.1 19) - (1 : Int32)) (tx1 : x1.toInt = (σ.1 19).toInt - 1) : (upd (σ.2.1 22) x1.toNatClampNeg (0 : Int32)) = (upd (σ.2.1 22) ((σ.1 19).toInt - 1).toNat (0 : Int32)) := by
  have q0 : (0 : Int32).toInt = 0 := by decide +kernel
  have q1 : (1 : Int32).toInt = 1 := by decide +kernel
  first | rfl | (subst_vars; rfl) | (congr 1; rw [clampN]; omega)
-- set@closed @50
theorem v_fresh_7 (σ : RS) (x1 : Int32) (hpre_0 : 1 ≤ (σ.1 19).toInt) (hpre_1 : (σ.1 19).toInt ≤ 8) (ex1 : x1 = (σ.1 19) - (1 : Int32)) (tx1 : x1.toInt = (σ.1 19).toInt - 1) : (upd (σ.2.1 26) x1.toNatClampNeg (0 : Int32)) = (upd (σ.2.1 26) ((σ.1 19).toInt - 1).toNat (0 : Int32)) := by
  have q0 : (0 : Int32).toInt = 0 := by decide +kernel
  have q1 : (1 : Int32).toInt = 1 := by decide +kernel
  first | rfl | (subst_vars; rfl) | (congr 1; rw [clampN]; omega)
-- set@plain @50
theorem v_fresh_8 (σ : RS) (x1 : Int32) (hpre_0 : 1 ≤ (σ.1 19).toInt) (hpre_1 : (σ.1 19).toInt ≤ 8) (ex1 : x1 = (σ.1 19) - (1 : Int32)) (tx1 : x1.toInt = (σ.1 19).toInt - 1) : (upd (σ.2.1 27) x1.toNatClampNeg (1 : Int32)) = (upd (σ.2.1 27) ((σ.1 19).toInt - 1).toNat (1 : Int32)) := by
  have q1 : (1 : Int32).toInt = 1 := by decide +kernel
  first | rfl | (subst_vars; rfl) | (congr 1; rw [clampN]; omega)
-- set@aims @50
theorem v_fresh_9 (σ : RS) (x1 : Int32) (hpre_0 : 1 ≤ (σ.1 19).toInt) (hpre_1 : (σ.1 19).toInt ≤ 8) (ex1 : x1 = (σ.1 19) - (1 : Int32)) (tx1 : x1.toInt = (σ.1 19).toInt - 1) : (upd (σ.2.1 28) x1.toNatClampNeg (0 : Int32)) = (upd (σ.2.1 28) ((σ.1 19).toInt - 1).toNat (0 : Int32)) := by
  have q0 : (0 : Int32).toInt = 0 := by decide +kernel
  have q1 : (1 : Int32).toInt = 1 := by decide +kernel
  first | rfl | (subst_vars; rfl) | (congr 1; rw [clampN]; omega)
-- set@operand @50
theorem v_fresh_10   : (1 : Int32) = (1 : Int32) := by
  have q1 : (1 : Int32).toInt = 1 := by decide +kernel
  first | rfl | (subst_vars; rfl) | (congr 1; rw [clampN]; omega)
set_option maxHeartbeats 4000000 in
set_option maxRecDepth 100000 in
theorem M_fresh (l : Launch) (D : va_G) (cy : Nat → ClassId) (sz0 : Nat) (sa : Nat → Nat) (ad : Nat → Nat) (σ : RS) (sz : Nat)  (hpre : 1 ≤ (σ.1 19).toInt ∧ (σ.1 19).toInt ≤ 8) : Met l yX12_fresh (Cond.code yX12_fresh cX12_fresh 2 none :: GWm) ({ frames := 0, cells := 0, slots := 0, locals := 0 }) (PcR D cy sz0 sa ad [.ref (ad 0)] σ sz) (va_Qv (fun (u : Unit) => True) (fun (u : Unit) (t : State) => RP D cy ad (rS (rA (rA (rA (rA (rA σ 21 (upd (σ.2.1 21) ((σ.1 19).toInt - 1).toNat (σ.1 29))) 22 (upd (σ.2.1 22) ((σ.1 19).toInt - 1).toNat (0 : Int32))) 26 (upd (σ.2.1 26) ((σ.1 19).toInt - 1).toNat (0 : Int32))) 27 (upd (σ.2.1 27) ((σ.1 19).toInt - 1).toNat (1 : Int32))) 28 (upd (σ.2.1 28) ((σ.1 19).toInt - 1).toNat (0 : Int32))) 17 (1 : Int32)) t.heap) (AR cy ad sz)) 0 0 (AR cy ad sz) := by
  refine RM_of (loc0 := [(0, .ref (ad 0))]) (by decide) rfl rfl (Nat.le_of_ble_eq_true rfl) ?_
  intro p e s m below meth c ls hsz C hP hS hl
  have hx := C.1
  have hb := C.2.1
  have hown := C.2.2.2.2.1
  have hw := C.2.2.2.2.2.1
  clear hsz
  obtain ⟨hpre_0, hpre_1⟩ := hpre
  refine lv_aload_n hx hb dX12_fresh_0 rfl (lv_at hl 0 rfl) ?_
  refine rg_19 (v := (σ.1 19)) C hP rfl wm_70 dX12_fresh_1 ?_
  refine lv_iconst (v := 1) hx hb dX12_fresh_4 (by decide +kernel) ?_
  refine lv_isub hx hb dX12_fresh_5 ?_
  refine lv_topi (fun x1 ex1 => ?_)
  have tx1 : x1.toInt = (σ.1 19).toInt - 1 := (v_fresh_1 σ x1 hpre_0 hpre_1 ex1)
  refine lv_istore_n (lv' := [(1, .int x1), (0, .ref (ad 0))]) hx hb dX12_fresh_6 rfl hl (by decide) rfl (fun ls hl => ?_)
  refine lv_aload_n hx hb dX12_fresh_7 rfl (lv_at hl 1 rfl) ?_
  refine rg_21 C hP wm_76 dX12_fresh_8 ?_
  refine lv_iload_n hx hb dX12_fresh_11 rfl (lv_at hl 0 rfl) ?_
  refine lv_aload_n hx hb dX12_fresh_12 rfl (lv_at hl 1 rfl) ?_
  refine rg_29 (v := (σ.1 29)) C hP rfl wm_77 dX12_fresh_13 ?_
  refine rw_21 (f := (σ.2.1 21)) C hP hS rfl (v_fresh_2 σ x1 hpre_0 hpre_1 ex1 tx1) dX12_fresh_16 (fun H locs hP hS => ?_)
  refine lv_aload_n hx hb dX12_fresh_17 rfl (lv_at hl 1 rfl) ?_
  refine rg_22 C hP wm_78 dX12_fresh_18 ?_
  refine lv_iload_n hx hb dX12_fresh_21 rfl (lv_at hl 0 rfl) ?_
  refine lv_iconst (v := 0) hx hb dX12_fresh_22 (by decide +kernel) ?_
  refine rw_22 (f := (σ.2.1 22)) C hP hS rfl (v_fresh_2 σ x1 hpre_0 hpre_1 ex1 tx1) dX12_fresh_23 (fun H locs hP hS => ?_)
  refine lv_aload_n hx hb dX12_fresh_24 rfl (lv_at hl 1 rfl) ?_
  refine rg_26 C hP wm_79 dX12_fresh_25 ?_
  refine lv_iload_n hx hb dX12_fresh_28 rfl (lv_at hl 0 rfl) ?_
  refine lv_iconst (v := 0) hx hb dX12_fresh_29 (by decide +kernel) ?_
  refine rw_26 (f := (σ.2.1 26)) C hP hS rfl (v_fresh_3  ) (v_fresh_2 σ x1 hpre_0 hpre_1 ex1 tx1) dX12_fresh_30 (fun H locs hP hS => ?_)
  refine lv_aload_n hx hb dX12_fresh_31 rfl (lv_at hl 1 rfl) ?_
  refine rg_27 C hP wm_80 dX12_fresh_32 ?_
  refine lv_iload_n hx hb dX12_fresh_35 rfl (lv_at hl 0 rfl) ?_
  refine lv_iconst (v := 1) hx hb dX12_fresh_36 (by decide +kernel) ?_
  refine rw_27 (f := (σ.2.1 27)) C hP hS rfl (v_fresh_4  ) (v_fresh_2 σ x1 hpre_0 hpre_1 ex1 tx1) dX12_fresh_37 (fun H locs hP hS => ?_)
  refine lv_aload_n hx hb dX12_fresh_38 rfl (lv_at hl 1 rfl) ?_
  refine rg_28 C hP wm_81 dX12_fresh_39 ?_
  refine lv_iload_n hx hb dX12_fresh_42 rfl (lv_at hl 0 rfl) ?_
  refine lv_iconst (v := 0) hx hb dX12_fresh_43 (by decide +kernel) ?_
  refine rw_28 (f := (σ.2.1 28)) C hP hS rfl (v_fresh_3  ) (v_fresh_2 σ x1 hpre_0 hpre_1 ex1 tx1) dX12_fresh_44 (fun H locs hP hS => ?_)
  refine lv_aload_n hx hb dX12_fresh_45 rfl (lv_at hl 1 rfl) ?_
  refine lv_iconst (v := 1) hx hb dX12_fresh_46 (by decide +kernel) ?_
  refine rp_17 C hP hS (v_fresh_4  ) wm_82 dX12_fresh_47 (fun H locs hP hS => ?_)
  have hs21 : (upd (σ.2.1 21) x1.toNatClampNeg (σ.1 29)) = (upd (σ.2.1 21) ((σ.1 19).toInt - 1).toNat (σ.1 29)) := (v_fresh_5 σ x1 hpre_0 hpre_1 ex1 tx1)
  have hs22 : (upd (σ.2.1 22) x1.toNatClampNeg (0 : Int32)) = (upd (σ.2.1 22) ((σ.1 19).toInt - 1).toNat (0 : Int32)) := (v_fresh_6 σ x1 hpre_0 hpre_1 ex1 tx1)
  have hs26 : (upd (σ.2.1 26) x1.toNatClampNeg (0 : Int32)) = (upd (σ.2.1 26) ((σ.1 19).toInt - 1).toNat (0 : Int32)) := (v_fresh_7 σ x1 hpre_0 hpre_1 ex1 tx1)
  have hs27 : (upd (σ.2.1 27) x1.toNatClampNeg (1 : Int32)) = (upd (σ.2.1 27) ((σ.1 19).toInt - 1).toNat (1 : Int32)) := (v_fresh_8 σ x1 hpre_0 hpre_1 ex1 tx1)
  have hs28 : (upd (σ.2.1 28) x1.toNatClampNeg (0 : Int32)) = (upd (σ.2.1 28) ((σ.1 19).toInt - 1).toNat (0 : Int32)) := (v_fresh_9 σ x1 hpre_0 hpre_1 ex1 tx1)
  have hs17 : (1 : Int32) = (1 : Int32) := (v_fresh_10  )
  rw [hs21, hs22, hs26, hs27, hs28, hs17] at hP
  have hP : RP D cy ad (rS (rA (rA (rA (rA (rA σ 21 (upd (σ.2.1 21) ((σ.1 19).toInt - 1).toNat (σ.1 29))) 22 (upd (σ.2.1 22) ((σ.1 19).toInt - 1).toNat (0 : Int32))) 26 (upd (σ.2.1 26) ((σ.1 19).toInt - 1).toNat (0 : Int32))) 27 (upd (σ.2.1 27) ((σ.1 19).toInt - 1).toNat (1 : Int32))) 28 (upd (σ.2.1 28) ((σ.1 19).toInt - 1).toNat (0 : Int32))) 17 (1 : Int32)) H := RP.cong hP (Eq.trans (b := (σ.1 0)) rfl rfl) (Eq.trans (b := (σ.1 1)) rfl rfl) (Eq.trans (b := (σ.2.1 2)) rfl rfl) (Eq.trans (b := (σ.1 3)) rfl rfl) (Eq.trans (b := (σ.2.1 4)) rfl rfl) (Eq.trans (b := (σ.2.1 5)) rfl rfl) (Eq.trans (b := (σ.2.2.1 6)) rfl rfl) (Eq.trans (b := (σ.2.1 7)) rfl rfl) (Eq.trans (b := (σ.1 8)) rfl rfl) (Eq.trans (b := (σ.1 9)) rfl rfl) (Eq.trans (b := (σ.1 10)) rfl rfl) (Eq.trans (b := (σ.2.1 11)) rfl rfl) (Eq.trans (b := (σ.2.2.1 12)) rfl rfl) (Eq.trans (b := (σ.2.1 13)) rfl rfl) (Eq.trans (b := (σ.1 14)) rfl rfl) (Eq.trans (b := (σ.1 15)) rfl rfl) (Eq.trans (b := (σ.1 16)) rfl rfl) (Eq.trans (b := (1 : Int32)) rfl rfl) (Eq.trans (b := (σ.1 18)) rfl rfl) (Eq.trans (b := (σ.1 19)) rfl rfl) (Eq.trans (b := (σ.2.1 20)) rfl rfl) (Eq.trans (b := (upd (σ.2.1 21) ((σ.1 19).toInt - 1).toNat (σ.1 29))) rfl rfl) (Eq.trans (b := (upd (σ.2.1 22) ((σ.1 19).toInt - 1).toNat (0 : Int32))) rfl rfl) (Eq.trans (b := (σ.2.1 23)) rfl rfl) (Eq.trans (b := (σ.2.1 24)) rfl rfl) (Eq.trans (b := (σ.2.1 25)) rfl rfl) (Eq.trans (b := (upd (σ.2.1 26) ((σ.1 19).toInt - 1).toNat (0 : Int32))) rfl rfl) (Eq.trans (b := (upd (σ.2.1 27) ((σ.1 19).toInt - 1).toNat (1 : Int32))) rfl rfl) (Eq.trans (b := (upd (σ.2.1 28) ((σ.1 19).toInt - 1).toNat (0 : Int32))) rfl rfl) (Eq.trans (b := (σ.1 29)) rfl rfl) (Eq.trans (b := (σ.2.1 30)) rfl rfl) (Eq.trans (b := (σ.2.1 31)) rfl rfl) (Eq.trans (b := (σ.2.1 32)) rfl rfl) (Eq.trans (b := (σ.1 33)) rfl rfl) (Eq.trans (b := (σ.1 34)) rfl rfl) (Eq.trans (b := (σ.1 35)) rfl rfl) (Eq.trans (b := (σ.2.1 36)) rfl rfl) (Eq.trans (b := (σ.2.1 37)) rfl rfl) (Eq.trans (b := (σ.2.1 38)) rfl rfl) (Eq.trans (b := (σ.2.1 39)) rfl rfl) (Eq.trans (b := (σ.2.1 40)) rfl rfl) (Eq.trans (b := (σ.2.1 41)) rfl rfl) (Eq.trans (b := (σ.2.1 42)) rfl rfl) (Eq.trans (b := (σ.2.1 43)) rfl rfl) (Eq.trans (b := (σ.2.1 44)) rfl rfl) (Eq.trans (b := (σ.2.1 45)) rfl rfl) (Eq.trans (b := (σ.2.1 46)) rfl rfl) (Eq.trans (b := (σ.1 47)) rfl rfl) (Eq.trans (b := (σ.2.1 48)) rfl rfl) (Eq.trans (b := (σ.1 49)) rfl rfl) (Eq.trans (b := (σ.2.1 50)) rfl rfl) (Eq.trans (b := (σ.2.1 51)) rfl rfl) (Eq.trans (b := (σ.2.2.1 52)) rfl rfl) (Eq.trans (b := (σ.2.2.1 53)) rfl rfl) (Eq.trans (b := (σ.2.2.2)) rfl rfl) (Eq.trans (b := (σ.1 55)) rfl rfl) (Eq.trans (b := (σ.1 56)) rfl rfl) (Eq.trans (b := (σ.1 57)) rfl rfl) (Eq.trans (b := (σ.2.1 58)) rfl rfl) (Eq.trans (b := (σ.1 59)) rfl rfl)
  exact r_retv C () trivial hP hS dX12_fresh_50

-- nw@9 @9
theorem v_ready_1 (σ : RS) (x1 : Int32) (hpre_0 : 1 ≤ (σ.1 19).toInt) (hpre_1 : (σ.1 19).toInt ≤ 8) (ex1 : x1 = (σ.1 19) - (1 : Int32)) : x1.toInt = (σ.1 19).toInt - 1 := by
  have q1 : (1 : Int32).toInt = 1 := by decide +kernel
  have w1 : (1 : Int32).toInt = 1 := by decide +kernel
  rw [ex1, z_sub (by omega) (by omega)]; first | done | omega
-- in@11 @11
theorem v_ready_2 (σ : RS) (x1 : Int32) (hpre_0 : 1 ≤ (σ.1 19).toInt) (hpre_1 : (σ.1 19).toInt ≤ 8) (ex1 : x1 = (σ.1 19) - (1 : Int32)) (tx1 : x1.toInt = (σ.1 19).toInt - 1) : vp_in x1 8 := by
  have q1 : (1 : Int32).toInt = 1 := by decide +kernel
  exact vp_in_iff.mpr ⟨by omega, by omega⟩
-- bool@11 @11
theorem v_ready_3 (k0 : Int32) (hpre_2 : k0 = 0 ∨ k0 = 1) : k0 = 0 ∨ k0 = 1 := by
  first | exact Or.inl rfl | exact Or.inr rfl | exact hpre_2
-- bool@14 @14
theorem v_ready_4   : (0 : Int32) = 0 ∨ (0 : Int32) = 1 := by
  have q0 : (0 : Int32).toInt = 0 := by decide +kernel
  first | exact Or.inl rfl | exact Or.inr rfl | exact hpre_2
-- set@aims @17
theorem v_ready_5 (σ : RS) (k0 : Int32) (x1 : Int32) (hpre_0 : 1 ≤ (σ.1 19).toInt) (hpre_1 : (σ.1 19).toInt ≤ 8) (hpre_2 : k0 = 0 ∨ k0 = 1) (ex1 : x1 = (σ.1 19) - (1 : Int32)) (tx1 : x1.toInt = (σ.1 19).toInt - 1) : (upd (σ.2.1 28) x1.toNatClampNeg k0) = (upd (σ.2.1 28) ((σ.1 19).toInt - 1).toNat k0) := by
  have q1 : (1 : Int32).toInt = 1 := by decide +kernel
  first | rfl | (subst_vars; rfl) | (congr 1; rw [clampN]; omega)
-- set@operand @17
theorem v_ready_6   : (0 : Int32) = (0 : Int32) := by
  have q0 : (0 : Int32).toInt = 0 := by decide +kernel
  first | rfl | (subst_vars; rfl) | (congr 1; rw [clampN]; omega)
set_option maxHeartbeats 4000000 in
set_option maxRecDepth 100000 in
theorem M_ready (l : Launch) (D : va_G) (cy : Nat → ClassId) (sz0 : Nat) (sa : Nat → Nat) (ad : Nat → Nat) (σ : RS) (sz : Nat) (k0 : Int32) (hpre : 1 ≤ (σ.1 19).toInt ∧ (σ.1 19).toInt ≤ 8 ∧ (k0 = 0 ∨ k0 = 1)) : Met l yX12_ready (Cond.code yX12_ready cX12_ready 2 none :: GWm) ({ frames := 0, cells := 0, slots := 0, locals := 0 }) (PcR D cy sz0 sa ad [.ref (ad 0), .int k0] σ sz) (va_Qv (fun (u : Unit) => True) (fun (u : Unit) (t : State) => RP D cy ad (rS (rA σ 28 (upd (σ.2.1 28) ((σ.1 19).toInt - 1).toNat k0)) 17 (0 : Int32)) t.heap) (AR cy ad sz)) 0 0 (AR cy ad sz) := by
  refine RM_of (loc0 := [(0, .ref (ad 0)), (1, .int k0)]) (by decide) rfl rfl (Nat.le_of_ble_eq_true rfl) ?_
  intro p e s m below meth c ls hsz C hP hS hl
  have hx := C.1
  have hb := C.2.1
  have hown := C.2.2.2.2.1
  have hw := C.2.2.2.2.2.1
  clear hsz
  obtain ⟨hpre_0, hpre_1, hpre_2⟩ := hpre
  refine lv_aload_n hx hb dX12_ready_0 rfl (lv_at hl 0 rfl) ?_
  refine rg_28 C hP wm_81 dX12_ready_1 ?_
  refine lv_aload_n hx hb dX12_ready_4 rfl (lv_at hl 0 rfl) ?_
  refine rg_19 (v := (σ.1 19)) C hP rfl wm_70 dX12_ready_5 ?_
  refine lv_iconst (v := 1) hx hb dX12_ready_8 (by decide +kernel) ?_
  refine lv_isub hx hb dX12_ready_9 ?_
  refine lv_topi (fun x1 ex1 => ?_)
  have tx1 : x1.toInt = (σ.1 19).toInt - 1 := (v_ready_1 σ x1 hpre_0 hpre_1 ex1)
  refine lv_iload_n hx hb dX12_ready_10 rfl (lv_at hl 1 rfl) ?_
  refine rw_28 (f := (σ.2.1 28)) C hP hS rfl (v_ready_3 k0 hpre_2) (v_ready_2 σ x1 hpre_0 hpre_1 ex1 tx1) dX12_ready_11 (fun H locs hP hS => ?_)
  refine lv_aload_n hx hb dX12_ready_12 rfl (lv_at hl 0 rfl) ?_
  refine lv_iconst (v := 0) hx hb dX12_ready_13 (by decide +kernel) ?_
  refine rp_17 C hP hS (v_ready_4  ) wm_82 dX12_ready_14 (fun H locs hP hS => ?_)
  have hs28 : (upd (σ.2.1 28) x1.toNatClampNeg k0) = (upd (σ.2.1 28) ((σ.1 19).toInt - 1).toNat k0) := (v_ready_5 σ k0 x1 hpre_0 hpre_1 hpre_2 ex1 tx1)
  have hs17 : (0 : Int32) = (0 : Int32) := (v_ready_6  )
  rw [hs28, hs17] at hP
  have hP : RP D cy ad (rS (rA σ 28 (upd (σ.2.1 28) ((σ.1 19).toInt - 1).toNat k0)) 17 (0 : Int32)) H := RP.cong hP (Eq.trans (b := (σ.1 0)) rfl rfl) (Eq.trans (b := (σ.1 1)) rfl rfl) (Eq.trans (b := (σ.2.1 2)) rfl rfl) (Eq.trans (b := (σ.1 3)) rfl rfl) (Eq.trans (b := (σ.2.1 4)) rfl rfl) (Eq.trans (b := (σ.2.1 5)) rfl rfl) (Eq.trans (b := (σ.2.2.1 6)) rfl rfl) (Eq.trans (b := (σ.2.1 7)) rfl rfl) (Eq.trans (b := (σ.1 8)) rfl rfl) (Eq.trans (b := (σ.1 9)) rfl rfl) (Eq.trans (b := (σ.1 10)) rfl rfl) (Eq.trans (b := (σ.2.1 11)) rfl rfl) (Eq.trans (b := (σ.2.2.1 12)) rfl rfl) (Eq.trans (b := (σ.2.1 13)) rfl rfl) (Eq.trans (b := (σ.1 14)) rfl rfl) (Eq.trans (b := (σ.1 15)) rfl rfl) (Eq.trans (b := (σ.1 16)) rfl rfl) (Eq.trans (b := (0 : Int32)) rfl rfl) (Eq.trans (b := (σ.1 18)) rfl rfl) (Eq.trans (b := (σ.1 19)) rfl rfl) (Eq.trans (b := (σ.2.1 20)) rfl rfl) (Eq.trans (b := (σ.2.1 21)) rfl rfl) (Eq.trans (b := (σ.2.1 22)) rfl rfl) (Eq.trans (b := (σ.2.1 23)) rfl rfl) (Eq.trans (b := (σ.2.1 24)) rfl rfl) (Eq.trans (b := (σ.2.1 25)) rfl rfl) (Eq.trans (b := (σ.2.1 26)) rfl rfl) (Eq.trans (b := (σ.2.1 27)) rfl rfl) (Eq.trans (b := (upd (σ.2.1 28) ((σ.1 19).toInt - 1).toNat k0)) rfl rfl) (Eq.trans (b := (σ.1 29)) rfl rfl) (Eq.trans (b := (σ.2.1 30)) rfl rfl) (Eq.trans (b := (σ.2.1 31)) rfl rfl) (Eq.trans (b := (σ.2.1 32)) rfl rfl) (Eq.trans (b := (σ.1 33)) rfl rfl) (Eq.trans (b := (σ.1 34)) rfl rfl) (Eq.trans (b := (σ.1 35)) rfl rfl) (Eq.trans (b := (σ.2.1 36)) rfl rfl) (Eq.trans (b := (σ.2.1 37)) rfl rfl) (Eq.trans (b := (σ.2.1 38)) rfl rfl) (Eq.trans (b := (σ.2.1 39)) rfl rfl) (Eq.trans (b := (σ.2.1 40)) rfl rfl) (Eq.trans (b := (σ.2.1 41)) rfl rfl) (Eq.trans (b := (σ.2.1 42)) rfl rfl) (Eq.trans (b := (σ.2.1 43)) rfl rfl) (Eq.trans (b := (σ.2.1 44)) rfl rfl) (Eq.trans (b := (σ.2.1 45)) rfl rfl) (Eq.trans (b := (σ.2.1 46)) rfl rfl) (Eq.trans (b := (σ.1 47)) rfl rfl) (Eq.trans (b := (σ.2.1 48)) rfl rfl) (Eq.trans (b := (σ.1 49)) rfl rfl) (Eq.trans (b := (σ.2.1 50)) rfl rfl) (Eq.trans (b := (σ.2.1 51)) rfl rfl) (Eq.trans (b := (σ.2.2.1 52)) rfl rfl) (Eq.trans (b := (σ.2.2.1 53)) rfl rfl) (Eq.trans (b := (σ.2.2.2)) rfl rfl) (Eq.trans (b := (σ.1 55)) rfl rfl) (Eq.trans (b := (σ.1 56)) rfl rfl) (Eq.trans (b := (σ.1 57)) rfl rfl) (Eq.trans (b := (σ.2.1 58)) rfl rfl) (Eq.trans (b := (σ.1 59)) rfl rfl)
  exact r_retv C () trivial hP hS dX12_ready_17

-- in@32 @32
theorem v_open_1 (σ : RS) (hpre_0 : 0 ≤ (σ.1 19).toInt) (hpre_1 : (σ.1 19).toInt ≤ 5) (c1 : ¬ (σ.1 19).toInt = 5) : vp_in (σ.1 19) 8 := by
  exact vp_in_iff.mpr ⟨by omega, by omega⟩
-- nw@39 @39
theorem v_open_2 (σ : RS) (x2 : Int32) (hpre_0 : 0 ≤ (σ.1 19).toInt) (hpre_1 : (σ.1 19).toInt ≤ 5) (c1 : ¬ (σ.1 19).toInt = 5) (ex2 : x2 = (σ.1 19) + (1 : Int32)) : x2.toInt = (σ.1 19).toInt + 1 := by
  have q1 : (1 : Int32).toInt = 1 := by decide +kernel
  have w1 : (1 : Int32).toInt = 1 := by decide +kernel
  rw [ex2, z_add (by omega) (by omega)]; first | done | omega
-- pre:fresh@44 @44
theorem v_open_3 (σ : RS) (x2 : Int32) (hpre_0 : 0 ≤ (σ.1 19).toInt) (hpre_1 : (σ.1 19).toInt ≤ 5) (c1 : ¬ (σ.1 19).toInt = 5) (ex2 : x2 = (σ.1 19) + (1 : Int32)) (tx2 : x2.toInt = (σ.1 19).toInt + 1) : 1 ≤ x2.toInt ∧ x2.toInt ≤ 8 := by
  have q1 : (1 : Int32).toInt = 1 := by decide +kernel
  refine ⟨?_, ?_⟩ <;> first | assumption | omega | (subst_vars; omega) | trivial
-- post @47
theorem v_open_4 (σ : RS) (k0 : Int32) (x2 : Int32) (hpre_0 : 0 ≤ (σ.1 19).toInt) (hpre_1 : (σ.1 19).toInt ≤ 5) (hpre_2 : (σ.1 8).toInt = 0) (c1 : ¬ (σ.1 19).toInt = 5) (ex2 : x2 = (σ.1 19) + (1 : Int32)) (tx2 : x2.toInt = (σ.1 19).toInt + 1) : ((σ.1 19).toInt = 5 ∧ (σ.1 8).toInt = 3 ∧ x2.toInt = 5) ∨ ((σ.1 19).toInt < 5 ∧ (σ.1 8) = (σ.1 8) ∧ x2.toInt = (σ.1 19).toInt + 1 ∧ (upd (σ.2.1 20) (σ.1 19).toNatClampNeg k0) = upd (σ.2.1 20) (σ.1 19).toInt.toNat k0 ∧ (upd (σ.2.1 21) (x2.toInt - 1).toNat (σ.1 29)) = upd (σ.2.1 21) (σ.1 19).toInt.toNat (σ.1 29) ∧ (upd (σ.2.1 22) (x2.toInt - 1).toNat (0 : Int32)) = upd (σ.2.1 22) (σ.1 19).toInt.toNat (0 : Int32) ∧ (upd (σ.2.1 27) (x2.toInt - 1).toNat (1 : Int32)) = upd (σ.2.1 27) (σ.1 19).toInt.toNat (1 : Int32) ∧ (upd (σ.2.1 28) (x2.toInt - 1).toNat (0 : Int32)) = upd (σ.2.1 28) (σ.1 19).toInt.toNat (0 : Int32) ∧ (1 : Int32).toInt = 1) := by
  have q0 : (0 : Int32).toInt = 0 := by decide +kernel
  have q1 : (1 : Int32).toInt = 1 := by decide +kernel
  first
  | (refine Or.inr ⟨by omega, rfl, by omega, rfl, ?_, ?_, ?_, ?_, q1⟩ <;> (congr 1; omega))
  | exact Or.inl ⟨by omega, by omega, by omega⟩
-- post2 @47
theorem v_open_5 (σ : RS) (k0 : Int32) (x2 : Int32) (hpre_0 : 0 ≤ (σ.1 19).toInt) (hpre_1 : (σ.1 19).toInt ≤ 5) (hpre_2 : (σ.1 8).toInt = 0) (hpre_3 : 0 ≤ (σ.1 14).toInt) (hpre_4 : (σ.1 14).toInt ≤ 41) (c1 : ¬ (σ.1 19).toInt = 5) (ex2 : x2 = (σ.1 19) + (1 : Int32)) (tx2 : x2.toInt = (σ.1 19).toInt + 1) : 0 ≤ (σ.1 29).toInt → mkC (x2.toInt).toNat ((σ.1 29).toInt).toNat ((σ.1 14).toInt).toNat ((1 : Int32).toInt) ((σ.1 8).toInt) ((σ.1 9).toInt) ((σ.1 18).toInt) ((σ.1 16).toInt).toNat ((σ.1 33).toInt) ((σ.1 34).toInt) (tz (upd (σ.2.1 20) (σ.1 19).toNatClampNeg k0)) (tz (upd (σ.2.1 21) (x2.toInt - 1).toNat (σ.1 29))) (tz (upd (σ.2.1 22) (x2.toInt - 1).toNat (0 : Int32))) (tz (σ.2.1 23)) (tz (σ.2.1 24)) (tz (σ.2.1 25)) (tz (upd (σ.2.1 26) (x2.toInt - 1).toNat (0 : Int32))) (tz (upd (σ.2.1 27) (x2.toInt - 1).toNat (1 : Int32))) (tz (upd (σ.2.1 28) (x2.toInt - 1).toNat (0 : Int32))) (tz (σ.2.1 30)) (tz (σ.2.1 31)) (tz (σ.2.1 32)) (tz (σ.2.1 11)) (tzl (σ.2.2.1 12)) = opnC (tz (σ.2.1 5)) (mkC ((σ.1 19).toInt).toNat ((σ.1 29).toInt).toNat ((σ.1 14).toInt).toNat ((σ.1 17).toInt) ((σ.1 8).toInt) ((σ.1 9).toInt) ((σ.1 18).toInt) ((σ.1 16).toInt).toNat ((σ.1 33).toInt) ((σ.1 34).toInt) (tz (σ.2.1 20)) (tz (σ.2.1 21)) (tz (σ.2.1 22)) (tz (σ.2.1 23)) (tz (σ.2.1 24)) (tz (σ.2.1 25)) (tz (σ.2.1 26)) (tz (σ.2.1 27)) (tz (σ.2.1 28)) (tz (σ.2.1 30)) (tz (σ.2.1 31)) (tz (σ.2.1 32)) (tz (σ.2.1 11)) (tzl (σ.2.2.1 12))) (k0.toInt) := by
  have q0 : (0 : Int32).toInt = 0 := by decide +kernel
  have q1 : (1 : Int32).toInt = 1 := by decide +kernel
  intro h8
  have wx2 : x2.toInt.toNat = (σ.1 19).toInt.toNat + 1 := (by omega)
  have wn0 : (x2.toInt - 1).toNat = x2.toInt.toNat - 1 := (by omega)
  try simp only [clampN, wx2, wn0] at *
  unfold opnC
  first
  | (rw [if_pos (by simp only [xfr_mk, xwa_mk, xnx_mk, xop_mk, xer_mk, xwh_mk, xdn_mk, xwr_mk, xtg_mk, xts_mk, xfm_mk, xbs_mk, xsg_mk, xpa_mk, xcn_mk, xck_mk, xcl_mk, xpl_mk, xam_mk, xoo_mk, xlv_mk, xjm_mk, xst_mk, xwi_mk]; omega)]
     unfold wrongC
     rw [if_pos (by simp only [xfr_mk, xwa_mk, xnx_mk, xop_mk, xer_mk, xwh_mk, xdn_mk, xwr_mk, xtg_mk, xts_mk, xfm_mk, xbs_mk, xsg_mk, xpa_mk, xcn_mk, xck_mk, xcl_mk, xpl_mk, xam_mk, xoo_mk, xlv_mk, xjm_mk, xst_mk, xwi_mk]; omega)]
     try simp only [emitC, patC, skC, freC, rdyC, setA, setP, plC, dnC, xfr_mk, xwa_mk, xnx_mk, xop_mk, xer_mk, xwh_mk, xdn_mk, xwr_mk, xtg_mk, xts_mk, xfm_mk, xbs_mk, xsg_mk, xpa_mk, xcn_mk, xck_mk, xcl_mk, xpl_mk, xam_mk, xoo_mk, xlv_mk, xjm_mk, xst_mk, xwi_mk]
     refine mk_cong ?_ ?_ ?_ ?_ ?_ ?_ ?_ ?_ ?_ ?_ ?_ ?_ ?_ ?_ ?_ ?_ ?_ ?_ ?_ ?_ ?_ ?_ ?_ ?_ <;> first | with_reducible rfl | omega | (simp only [tz, tzl]; omega) | (repeat refine tz_uc ?_ (by first | with_reducible rfl | omega | (simp only [tz, tzl]; omega)) (by first | with_reducible rfl | omega | (simp only [tz, tzl]; omega))) <;> with_reducible rfl | (repeat refine tzl_uc ?_ (by first | with_reducible rfl | omega | (simp only [tz, tzl]; omega)) (by first | with_reducible rfl | omega | (simp only [tz, tzl]; omega))) <;> with_reducible rfl)
  | (rw [if_neg (by simp only [xfr_mk, xwa_mk, xnx_mk, xop_mk, xer_mk, xwh_mk, xdn_mk, xwr_mk, xtg_mk, xts_mk, xfm_mk, xbs_mk, xsg_mk, xpa_mk, xcn_mk, xck_mk, xcl_mk, xpl_mk, xam_mk, xoo_mk, xlv_mk, xjm_mk, xst_mk, xwi_mk]; omega)]
     try simp only [emitC, patC, skC, freC, rdyC, setA, setP, plC, dnC, xfr_mk, xwa_mk, xnx_mk, xop_mk, xer_mk, xwh_mk, xdn_mk, xwr_mk, xtg_mk, xts_mk, xfm_mk, xbs_mk, xsg_mk, xpa_mk, xcn_mk, xck_mk, xcl_mk, xpl_mk, xam_mk, xoo_mk, xlv_mk, xjm_mk, xst_mk, xwi_mk]
     refine mk_cong ?_ ?_ ?_ ?_ ?_ ?_ ?_ ?_ ?_ ?_ ?_ ?_ ?_ ?_ ?_ ?_ ?_ ?_ ?_ ?_ ?_ ?_ ?_ ?_ <;> first | with_reducible rfl | omega | (simp only [tz, tzl]; omega) | (repeat refine tz_uc ?_ (by first | with_reducible rfl | omega | (simp only [tz, tzl]; omega)) (by first | with_reducible rfl | omega | (simp only [tz, tzl]; omega))) <;> with_reducible rfl | (repeat refine tzl_uc ?_ (by first | with_reducible rfl | omega | (simp only [tz, tzl]; omega)) (by first | with_reducible rfl | omega | (simp only [tz, tzl]; omega))) <;> with_reducible rfl)
-- in@18 @18
theorem v_open_6 (σ : RS) (hpre_3 : 0 ≤ (σ.1 14).toInt) (hpre_4 : (σ.1 14).toInt ≤ 41) : vp_in (σ.1 14) 42 := by
  exact vp_in_iff.mpr ⟨by omega, by omega⟩
-- post @22
theorem v_open_7 (σ : RS) (k0 : Int32) (n6 : Int32) (hpre_0 : 0 ≤ (σ.1 19).toInt) (hpre_1 : (σ.1 19).toInt ≤ 5) (hpre_2 : (σ.1 8).toInt = 0) (c1 : (σ.1 19).toInt = 5) (hr5_0 : (σ.1 8).toInt = 0 → n6.toInt = (3 : Int32).toInt) (hr5_1 : ¬ (σ.1 8).toInt = 0 → n6.toInt = (σ.1 8).toInt) : ((σ.1 19).toInt = 5 ∧ n6.toInt = 3 ∧ (σ.1 19).toInt = 5) ∨ ((σ.1 19).toInt < 5 ∧ n6 = (σ.1 8) ∧ (σ.1 19).toInt = (σ.1 19).toInt + 1 ∧ (σ.2.1 20) = upd (σ.2.1 20) (σ.1 19).toInt.toNat k0 ∧ (σ.2.1 21) = upd (σ.2.1 21) (σ.1 19).toInt.toNat (σ.1 29) ∧ (σ.2.1 22) = upd (σ.2.1 22) (σ.1 19).toInt.toNat (0 : Int32) ∧ (σ.2.1 27) = upd (σ.2.1 27) (σ.1 19).toInt.toNat (1 : Int32) ∧ (σ.2.1 28) = upd (σ.2.1 28) (σ.1 19).toInt.toNat (0 : Int32) ∧ (σ.1 17).toInt = 1) := by
  have q0 : (0 : Int32).toInt = 0 := by decide +kernel
  have q1 : (1 : Int32).toInt = 1 := by decide +kernel
  have q3 : (3 : Int32).toInt = 3 := by decide +kernel
  first
  | (refine Or.inr ⟨by omega, rfl, by omega, rfl, ?_, ?_, ?_, ?_, q1⟩ <;> (congr 1; omega))
  | exact Or.inl ⟨by omega, by omega, by omega⟩
-- post2 @22
theorem v_open_8 (σ : RS) (k0 : Int32) (x4 : Int32) (n6 : Int32) (n7 : Int32) (hpre_0 : 0 ≤ (σ.1 19).toInt) (hpre_1 : (σ.1 19).toInt ≤ 5) (hpre_2 : (σ.1 8).toInt = 0) (hpre_3 : 0 ≤ (σ.1 14).toInt) (hpre_4 : (σ.1 14).toInt ≤ 41) (c1 : (σ.1 19).toInt = 5) (ex4 : x4 = (σ.2.1 5) (σ.1 14).toNatClampNeg) (tx4 : x4.toInt = ((σ.2.1 5) (σ.1 14).toNatClampNeg).toInt) (hr5y_0 : (σ.1 8).toInt = 0 → n7.toInt = x4.toInt) (hr5y_1 : ¬ (σ.1 8).toInt = 0 → n7.toInt = (σ.1 9).toInt) (hr5_0 : (σ.1 8).toInt = 0 → n6.toInt = (3 : Int32).toInt) (hr5_1 : ¬ (σ.1 8).toInt = 0 → n6.toInt = (σ.1 8).toInt) : 0 ≤ (σ.1 29).toInt → mkC ((σ.1 19).toInt).toNat ((σ.1 29).toInt).toNat ((σ.1 14).toInt).toNat ((σ.1 17).toInt) (n6.toInt) (n7.toInt) ((σ.1 18).toInt) ((σ.1 16).toInt).toNat ((σ.1 33).toInt) ((σ.1 34).toInt) (tz (σ.2.1 20)) (tz (σ.2.1 21)) (tz (σ.2.1 22)) (tz (σ.2.1 23)) (tz (σ.2.1 24)) (tz (σ.2.1 25)) (tz (σ.2.1 26)) (tz (σ.2.1 27)) (tz (σ.2.1 28)) (tz (σ.2.1 30)) (tz (σ.2.1 31)) (tz (σ.2.1 32)) (tz (σ.2.1 11)) (tzl (σ.2.2.1 12)) = opnC (tz (σ.2.1 5)) (mkC ((σ.1 19).toInt).toNat ((σ.1 29).toInt).toNat ((σ.1 14).toInt).toNat ((σ.1 17).toInt) ((σ.1 8).toInt) ((σ.1 9).toInt) ((σ.1 18).toInt) ((σ.1 16).toInt).toNat ((σ.1 33).toInt) ((σ.1 34).toInt) (tz (σ.2.1 20)) (tz (σ.2.1 21)) (tz (σ.2.1 22)) (tz (σ.2.1 23)) (tz (σ.2.1 24)) (tz (σ.2.1 25)) (tz (σ.2.1 26)) (tz (σ.2.1 27)) (tz (σ.2.1 28)) (tz (σ.2.1 30)) (tz (σ.2.1 31)) (tz (σ.2.1 32)) (tz (σ.2.1 11)) (tzl (σ.2.2.1 12))) (k0.toInt) := by
  have q3 : (3 : Int32).toInt = 3 := by decide +kernel
  intro h8
  try simp only [clampN] at *
  unfold opnC
  first
  | (rw [if_pos (by simp only [xfr_mk, xwa_mk, xnx_mk, xop_mk, xer_mk, xwh_mk, xdn_mk, xwr_mk, xtg_mk, xts_mk, xfm_mk, xbs_mk, xsg_mk, xpa_mk, xcn_mk, xck_mk, xcl_mk, xpl_mk, xam_mk, xoo_mk, xlv_mk, xjm_mk, xst_mk, xwi_mk]; omega)]
     unfold wrongC
     rw [if_pos (by simp only [xfr_mk, xwa_mk, xnx_mk, xop_mk, xer_mk, xwh_mk, xdn_mk, xwr_mk, xtg_mk, xts_mk, xfm_mk, xbs_mk, xsg_mk, xpa_mk, xcn_mk, xck_mk, xcl_mk, xpl_mk, xam_mk, xoo_mk, xlv_mk, xjm_mk, xst_mk, xwi_mk]; omega)]
     try simp only [emitC, patC, skC, freC, rdyC, setA, setP, plC, dnC, xfr_mk, xwa_mk, xnx_mk, xop_mk, xer_mk, xwh_mk, xdn_mk, xwr_mk, xtg_mk, xts_mk, xfm_mk, xbs_mk, xsg_mk, xpa_mk, xcn_mk, xck_mk, xcl_mk, xpl_mk, xam_mk, xoo_mk, xlv_mk, xjm_mk, xst_mk, xwi_mk]
     refine mk_cong ?_ ?_ ?_ ?_ ?_ ?_ ?_ ?_ ?_ ?_ ?_ ?_ ?_ ?_ ?_ ?_ ?_ ?_ ?_ ?_ ?_ ?_ ?_ ?_ <;> first | with_reducible rfl | omega | (simp only [tz, tzl]; omega) | (repeat refine tz_uc ?_ (by first | with_reducible rfl | omega | (simp only [tz, tzl]; omega)) (by first | with_reducible rfl | omega | (simp only [tz, tzl]; omega))) <;> with_reducible rfl | (repeat refine tzl_uc ?_ (by first | with_reducible rfl | omega | (simp only [tz, tzl]; omega)) (by first | with_reducible rfl | omega | (simp only [tz, tzl]; omega))) <;> with_reducible rfl)
  | (rw [if_neg (by simp only [xfr_mk, xwa_mk, xnx_mk, xop_mk, xer_mk, xwh_mk, xdn_mk, xwr_mk, xtg_mk, xts_mk, xfm_mk, xbs_mk, xsg_mk, xpa_mk, xcn_mk, xck_mk, xcl_mk, xpl_mk, xam_mk, xoo_mk, xlv_mk, xjm_mk, xst_mk, xwi_mk]; omega)]
     try simp only [emitC, patC, skC, freC, rdyC, setA, setP, plC, dnC, xfr_mk, xwa_mk, xnx_mk, xop_mk, xer_mk, xwh_mk, xdn_mk, xwr_mk, xtg_mk, xts_mk, xfm_mk, xbs_mk, xsg_mk, xpa_mk, xcn_mk, xck_mk, xcl_mk, xpl_mk, xam_mk, xoo_mk, xlv_mk, xjm_mk, xst_mk, xwi_mk]
     refine mk_cong ?_ ?_ ?_ ?_ ?_ ?_ ?_ ?_ ?_ ?_ ?_ ?_ ?_ ?_ ?_ ?_ ?_ ?_ ?_ ?_ ?_ ?_ ?_ ?_ <;> first | with_reducible rfl | omega | (simp only [tz, tzl]; omega) | (repeat refine tz_uc ?_ (by first | with_reducible rfl | omega | (simp only [tz, tzl]; omega)) (by first | with_reducible rfl | omega | (simp only [tz, tzl]; omega))) <;> with_reducible rfl | (repeat refine tzl_uc ?_ (by first | with_reducible rfl | omega | (simp only [tz, tzl]; omega)) (by first | with_reducible rfl | omega | (simp only [tz, tzl]; omega))) <;> with_reducible rfl)
set_option maxHeartbeats 4000000 in
set_option maxRecDepth 100000 in
theorem M_open (l : Launch) (D : va_G) (cy : Nat → ClassId) (sz0 : Nat) (sa : Nat → Nat) (ad : Nat → Nat) (σ : RS) (sz : Nat) (k0 : Int32) (hpre : 0 ≤ (σ.1 19).toInt ∧ (σ.1 19).toInt ≤ 5 ∧ (σ.1 8).toInt = 0 ∧ 0 ≤ (σ.1 14).toInt ∧ (σ.1 14).toInt ≤ 41) : Met l yX12_open (Cond.code yX12_open cX12_open 2 none :: GWm) ({ frames := 1, cells := 0, slots := 0, locals := 22 }) (PcR D cy sz0 sa ad [.ref (ad 0), .int k0] σ sz) (va_Qv (fun (u : (Nat → Int32) × Int32 × (Nat → Int32) × (Nat → Int32) × (Nat → Int32) × (Nat → Int32) × (Nat → Int32) × Int32 × Int32 × Int32) => (((σ.1 19).toInt = 5 ∧ u.2.2.2.2.2.2.2.2.1.toInt = 3 ∧ u.2.1.toInt = 5) ∨ ((σ.1 19).toInt < 5 ∧ u.2.2.2.2.2.2.2.2.1 = (σ.1 8) ∧ u.2.1.toInt = (σ.1 19).toInt + 1 ∧ u.1 = upd (σ.2.1 20) (σ.1 19).toInt.toNat k0 ∧ u.2.2.1 = upd (σ.2.1 21) (σ.1 19).toInt.toNat (σ.1 29) ∧ u.2.2.2.1 = upd (σ.2.1 22) (σ.1 19).toInt.toNat (0 : Int32) ∧ u.2.2.2.2.2.1 = upd (σ.2.1 27) (σ.1 19).toInt.toNat (1 : Int32) ∧ u.2.2.2.2.2.2.1 = upd (σ.2.1 28) (σ.1 19).toInt.toNat (0 : Int32) ∧ u.2.2.2.2.2.2.2.1.toInt = 1)) ∧ (0 ≤ (σ.1 29).toInt → mkC (u.2.1.toInt).toNat ((σ.1 29).toInt).toNat ((σ.1 14).toInt).toNat (u.2.2.2.2.2.2.2.1.toInt) (u.2.2.2.2.2.2.2.2.1.toInt) (u.2.2.2.2.2.2.2.2.2.toInt) ((σ.1 18).toInt) ((σ.1 16).toInt).toNat ((σ.1 33).toInt) ((σ.1 34).toInt) (tz u.1) (tz u.2.2.1) (tz u.2.2.2.1) (tz (σ.2.1 23)) (tz (σ.2.1 24)) (tz (σ.2.1 25)) (tz u.2.2.2.2.1) (tz u.2.2.2.2.2.1) (tz u.2.2.2.2.2.2.1) (tz (σ.2.1 30)) (tz (σ.2.1 31)) (tz (σ.2.1 32)) (tz (σ.2.1 11)) (tzl (σ.2.2.1 12)) = opnC (tz (σ.2.1 5)) (mkC ((σ.1 19).toInt).toNat ((σ.1 29).toInt).toNat ((σ.1 14).toInt).toNat ((σ.1 17).toInt) ((σ.1 8).toInt) ((σ.1 9).toInt) ((σ.1 18).toInt) ((σ.1 16).toInt).toNat ((σ.1 33).toInt) ((σ.1 34).toInt) (tz (σ.2.1 20)) (tz (σ.2.1 21)) (tz (σ.2.1 22)) (tz (σ.2.1 23)) (tz (σ.2.1 24)) (tz (σ.2.1 25)) (tz (σ.2.1 26)) (tz (σ.2.1 27)) (tz (σ.2.1 28)) (tz (σ.2.1 30)) (tz (σ.2.1 31)) (tz (σ.2.1 32)) (tz (σ.2.1 11)) (tzl (σ.2.2.1 12))) (k0.toInt))) (fun (u : (Nat → Int32) × Int32 × (Nat → Int32) × (Nat → Int32) × (Nat → Int32) × (Nat → Int32) × (Nat → Int32) × Int32 × Int32 × Int32) (t : State) => RP D cy ad (rS (rS (rS (rA (rA (rA (rA (rA (rS (rA σ 20 u.1) 19 u.2.1) 21 u.2.2.1) 22 u.2.2.2.1) 26 u.2.2.2.2.1) 27 u.2.2.2.2.2.1) 28 u.2.2.2.2.2.2.1) 17 u.2.2.2.2.2.2.2.1) 8 u.2.2.2.2.2.2.2.2.1) 9 u.2.2.2.2.2.2.2.2.2) t.heap) (AR cy ad sz)) 0 0 (AR cy ad sz) := by
  refine RM_of (loc0 := [(0, .ref (ad 0)), (1, .int k0)]) (by decide) rfl rfl (Nat.le_of_ble_eq_true rfl) ?_
  intro p e s m below meth c ls hsz C hP hS hl
  have hx := C.1
  have hb := C.2.1
  have hown := C.2.2.2.2.1
  have hw := C.2.2.2.2.2.1
  clear hsz
  obtain ⟨hpre_0, hpre_1, hpre_2, hpre_3, hpre_4⟩ := hpre
  refine lv_aload_n hx hb dX12_open_0 rfl (lv_at hl 0 rfl) ?_
  refine rg_19 (v := (σ.1 19)) C hP rfl wm_70 dX12_open_1 ?_
  refine lv_iconst (v := 5) hx hb dX12_open_4 (by decide +kernel) ?_
  refine lv_icmp_ne (tgt := 23) hx hb dX12_open_5 (by decide) (fun c1 => ?_) (fun c1 => ?_)
  · have c1 : ¬ (σ.1 19).toInt = 5 := by have h := z_ne c1; rw [show (5 : Int32).toInt = 5 from by decide +kernel] at h; exact h
    refine lv_aload_n hx hb dX12_open_23 rfl (lv_at hl 0 rfl) ?_
    refine rg_20 C hP wm_71 dX12_open_24 ?_
    refine lv_aload_n hx hb dX12_open_27 rfl (lv_at hl 0 rfl) ?_
    refine rg_19 (v := (σ.1 19)) C hP rfl wm_70 dX12_open_28 ?_
    refine lv_iload_n hx hb dX12_open_31 rfl (lv_at hl 1 rfl) ?_
    refine rw_20 (f := (σ.2.1 20)) C hP hS rfl (v_open_1 σ hpre_0 hpre_1 c1) dX12_open_32 (fun H locs hP hS => ?_)
    refine lv_aload_n hx hb dX12_open_33 rfl (lv_at hl 0 rfl) ?_
    refine lv_dup hx hb dX12_open_34 rfl ?_
    refine rg_19 (v := (σ.1 19)) C hP rfl wm_70 dX12_open_35 ?_
    refine lv_iconst (v := 1) hx hb dX12_open_38 (by decide +kernel) ?_
    refine lv_iadd hx hb dX12_open_39 ?_
    refine lv_topi (fun x2 ex2 => ?_)
    have tx2 : x2.toInt = (σ.1 19).toInt + 1 := (v_open_2 σ x2 hpre_0 hpre_1 c1 ex2)
    refine rp_19 C hP hS wm_70 dX12_open_40 (fun H locs hP hS => ?_)
    refine lv_aload_n hx hb dX12_open_43 rfl (lv_at hl 0 rfl) ?_
    refine r_callVv (As := []) (rest := []) C hP hS hl.1 ⟨Nat.zero_le _, Nat.zero_le _⟩ (M_fresh l D cy sz0 sa ad (rS (rA σ 20 (upd (σ.2.1 20) (σ.1 19).toNatClampNeg k0)) 19 x2) H.size  (v_open_3 σ x2 hpre_0 hpre_1 c1 ex2 tx2)) (n := 0) ⟨wm_72, wm_75, by decide +kernel⟩ ⟨wm_73, wm_74, wm_10⟩ rfl rfl (lv_room (Nat.le_of_ble_eq_true rfl)) ⟨Nat.le_of_ble_eq_true rfl, Nat.le_of_ble_eq_true rfl⟩ dX12_open_44 (fun u H locs hr3 hP hS => ?_)
    have hr3 : True := hr3
    have hP : RP D cy ad (rS (rA (rA (rA (rA (rA (rS (rA σ 20 (upd (σ.2.1 20) (σ.1 19).toNatClampNeg k0)) 19 x2) 21 (upd (σ.2.1 21) (x2.toInt - 1).toNat (σ.1 29))) 22 (upd (σ.2.1 22) (x2.toInt - 1).toNat (0 : Int32))) 26 (upd (σ.2.1 26) (x2.toInt - 1).toNat (0 : Int32))) 27 (upd (σ.2.1 27) (x2.toInt - 1).toNat (1 : Int32))) 28 (upd (σ.2.1 28) (x2.toInt - 1).toNat (0 : Int32))) 17 (1 : Int32)) H := hP
    have hP : RP D cy ad (rS (rS (rS (rA (rA (rA (rA (rA (rS (rA σ 20 (upd (σ.2.1 20) (σ.1 19).toNatClampNeg k0)) 19 x2) 21 (upd (σ.2.1 21) (x2.toInt - 1).toNat (σ.1 29))) 22 (upd (σ.2.1 22) (x2.toInt - 1).toNat (0 : Int32))) 26 (upd (σ.2.1 26) (x2.toInt - 1).toNat (0 : Int32))) 27 (upd (σ.2.1 27) (x2.toInt - 1).toNat (1 : Int32))) 28 (upd (σ.2.1 28) (x2.toInt - 1).toNat (0 : Int32))) 17 (1 : Int32)) 8 (σ.1 8)) 9 (σ.1 9)) H := RP.cong hP (Eq.trans (b := (σ.1 0)) rfl rfl) (Eq.trans (b := (σ.1 1)) rfl rfl) (Eq.trans (b := (σ.2.1 2)) rfl rfl) (Eq.trans (b := (σ.1 3)) rfl rfl) (Eq.trans (b := (σ.2.1 4)) rfl rfl) (Eq.trans (b := (σ.2.1 5)) rfl rfl) (Eq.trans (b := (σ.2.2.1 6)) rfl rfl) (Eq.trans (b := (σ.2.1 7)) rfl rfl) (Eq.trans (b := (σ.1 8)) rfl rfl) (Eq.trans (b := (σ.1 9)) rfl rfl) (Eq.trans (b := (σ.1 10)) rfl rfl) (Eq.trans (b := (σ.2.1 11)) rfl rfl) (Eq.trans (b := (σ.2.2.1 12)) rfl rfl) (Eq.trans (b := (σ.2.1 13)) rfl rfl) (Eq.trans (b := (σ.1 14)) rfl rfl) (Eq.trans (b := (σ.1 15)) rfl rfl) (Eq.trans (b := (σ.1 16)) rfl rfl) (Eq.trans (b := (1 : Int32)) rfl rfl) (Eq.trans (b := (σ.1 18)) rfl rfl) (Eq.trans (b := x2) rfl rfl) (Eq.trans (b := (upd (σ.2.1 20) (σ.1 19).toNatClampNeg k0)) rfl rfl) (Eq.trans (b := (upd (σ.2.1 21) (x2.toInt - 1).toNat (σ.1 29))) rfl rfl) (Eq.trans (b := (upd (σ.2.1 22) (x2.toInt - 1).toNat (0 : Int32))) rfl rfl) (Eq.trans (b := (σ.2.1 23)) rfl rfl) (Eq.trans (b := (σ.2.1 24)) rfl rfl) (Eq.trans (b := (σ.2.1 25)) rfl rfl) (Eq.trans (b := (upd (σ.2.1 26) (x2.toInt - 1).toNat (0 : Int32))) rfl rfl) (Eq.trans (b := (upd (σ.2.1 27) (x2.toInt - 1).toNat (1 : Int32))) rfl rfl) (Eq.trans (b := (upd (σ.2.1 28) (x2.toInt - 1).toNat (0 : Int32))) rfl rfl) (Eq.trans (b := (σ.1 29)) rfl rfl) (Eq.trans (b := (σ.2.1 30)) rfl rfl) (Eq.trans (b := (σ.2.1 31)) rfl rfl) (Eq.trans (b := (σ.2.1 32)) rfl rfl) (Eq.trans (b := (σ.1 33)) rfl rfl) (Eq.trans (b := (σ.1 34)) rfl rfl) (Eq.trans (b := (σ.1 35)) rfl rfl) (Eq.trans (b := (σ.2.1 36)) rfl rfl) (Eq.trans (b := (σ.2.1 37)) rfl rfl) (Eq.trans (b := (σ.2.1 38)) rfl rfl) (Eq.trans (b := (σ.2.1 39)) rfl rfl) (Eq.trans (b := (σ.2.1 40)) rfl rfl) (Eq.trans (b := (σ.2.1 41)) rfl rfl) (Eq.trans (b := (σ.2.1 42)) rfl rfl) (Eq.trans (b := (σ.2.1 43)) rfl rfl) (Eq.trans (b := (σ.2.1 44)) rfl rfl) (Eq.trans (b := (σ.2.1 45)) rfl rfl) (Eq.trans (b := (σ.2.1 46)) rfl rfl) (Eq.trans (b := (σ.1 47)) rfl rfl) (Eq.trans (b := (σ.2.1 48)) rfl rfl) (Eq.trans (b := (σ.1 49)) rfl rfl) (Eq.trans (b := (σ.2.1 50)) rfl rfl) (Eq.trans (b := (σ.2.1 51)) rfl rfl) (Eq.trans (b := (σ.2.2.1 52)) rfl rfl) (Eq.trans (b := (σ.2.2.1 53)) rfl rfl) (Eq.trans (b := (σ.2.2.2)) rfl rfl) (Eq.trans (b := (σ.1 55)) rfl rfl) (Eq.trans (b := (σ.1 56)) rfl rfl) (Eq.trans (b := (σ.1 57)) rfl rfl) (Eq.trans (b := (σ.2.1 58)) rfl rfl) (Eq.trans (b := (σ.1 59)) rfl rfl)
    exact r_retv C ⟨(upd (σ.2.1 20) (σ.1 19).toNatClampNeg k0), x2, (upd (σ.2.1 21) (x2.toInt - 1).toNat (σ.1 29)), (upd (σ.2.1 22) (x2.toInt - 1).toNat (0 : Int32)), (upd (σ.2.1 26) (x2.toInt - 1).toNat (0 : Int32)), (upd (σ.2.1 27) (x2.toInt - 1).toNat (1 : Int32)), (upd (σ.2.1 28) (x2.toInt - 1).toNat (0 : Int32)), (1 : Int32), (σ.1 8), (σ.1 9)⟩ ⟨(v_open_4 σ k0 x2 hpre_0 hpre_1 hpre_2 c1 ex2 tx2), (v_open_5 σ k0 x2 hpre_0 hpre_1 hpre_2 hpre_3 hpre_4 c1 ex2 tx2)⟩ hP hS dX12_open_47
  · have c1 : (σ.1 19).toInt = 5 := by have h := z_eq c1; rw [show (5 : Int32).toInt = 5 from by decide +kernel] at h; exact h
    refine lv_aload_n hx hb dX12_open_8 rfl (lv_at hl 0 rfl) ?_
    refine lv_iconst (v := 3) hx hb dX12_open_9 (by decide +kernel) ?_
    refine lv_aload_n hx hb dX12_open_10 rfl (lv_at hl 0 rfl) ?_
    refine rg_5 C hP wm_18 dX12_open_11 ?_
    refine lv_aload_n hx hb dX12_open_14 rfl (lv_at hl 0 rfl) ?_
    refine rg_14 (v := (σ.1 14)) C hP rfl wm_62 dX12_open_15 ?_
    refine ra_5 (f := (σ.2.1 5)) C hP rfl (v_open_6 σ hpre_3 hpre_4) dX12_open_18 (fun x4 ex4 => ?_)
    have tx4 : x4.toInt = ((σ.2.1 5) (σ.1 14).toNatClampNeg).toInt := by rw [ex4]
    refine r_callVv (As := [.int 3, .int x4]) (rest := []) C hP hS hl.1 ⟨Nat.zero_le _, Nat.zero_le _⟩ (M_wrong l D cy sz0 sa ad σ s.heap.size (3 : Int32) x4 trivial) (n := 2) ⟨wm_27, wm_12, by decide +kernel⟩ ⟨wm_28, wm_29, wm_10⟩ rfl rfl (lv_room (Nat.le_of_ble_eq_true rfl)) ⟨Nat.le_of_ble_eq_true rfl, Nat.le_of_ble_eq_true rfl⟩ dX12_open_19 (fun u H locs hr5 hP hS => ?_)
    obtain ⟨n6, n7⟩ := u
    obtain ⟨hr5, hr5y⟩ := hr5
    have hr5y : ((σ.1 8).toInt = 0 → n7.toInt = x4.toInt) ∧ (¬ (σ.1 8).toInt = 0 → n7.toInt = (σ.1 9).toInt) := hr5y
    have hr5 : ((σ.1 8).toInt = 0 → n6.toInt = (3 : Int32).toInt) ∧ (¬ (σ.1 8).toInt = 0 → n6.toInt = (σ.1 8).toInt) := hr5
    obtain ⟨hr5y_0, hr5y_1⟩ := hr5y
    obtain ⟨hr5_0, hr5_1⟩ := hr5
    have hP : RP D cy ad (rS (rS σ 8 n6) 9 n7) H := hP
    have hP : RP D cy ad (rS (rS (rS (rA (rA (rA (rA (rA (rS (rA σ 20 (σ.2.1 20)) 19 (σ.1 19)) 21 (σ.2.1 21)) 22 (σ.2.1 22)) 26 (σ.2.1 26)) 27 (σ.2.1 27)) 28 (σ.2.1 28)) 17 (σ.1 17)) 8 n6) 9 n7) H := RP.cong hP (Eq.trans (b := (σ.1 0)) rfl rfl) (Eq.trans (b := (σ.1 1)) rfl rfl) (Eq.trans (b := (σ.2.1 2)) rfl rfl) (Eq.trans (b := (σ.1 3)) rfl rfl) (Eq.trans (b := (σ.2.1 4)) rfl rfl) (Eq.trans (b := (σ.2.1 5)) rfl rfl) (Eq.trans (b := (σ.2.2.1 6)) rfl rfl) (Eq.trans (b := (σ.2.1 7)) rfl rfl) (Eq.trans (b := n6) rfl rfl) (Eq.trans (b := n7) rfl rfl) (Eq.trans (b := (σ.1 10)) rfl rfl) (Eq.trans (b := (σ.2.1 11)) rfl rfl) (Eq.trans (b := (σ.2.2.1 12)) rfl rfl) (Eq.trans (b := (σ.2.1 13)) rfl rfl) (Eq.trans (b := (σ.1 14)) rfl rfl) (Eq.trans (b := (σ.1 15)) rfl rfl) (Eq.trans (b := (σ.1 16)) rfl rfl) (Eq.trans (b := (σ.1 17)) rfl rfl) (Eq.trans (b := (σ.1 18)) rfl rfl) (Eq.trans (b := (σ.1 19)) rfl rfl) (Eq.trans (b := (σ.2.1 20)) rfl rfl) (Eq.trans (b := (σ.2.1 21)) rfl rfl) (Eq.trans (b := (σ.2.1 22)) rfl rfl) (Eq.trans (b := (σ.2.1 23)) rfl rfl) (Eq.trans (b := (σ.2.1 24)) rfl rfl) (Eq.trans (b := (σ.2.1 25)) rfl rfl) (Eq.trans (b := (σ.2.1 26)) rfl rfl) (Eq.trans (b := (σ.2.1 27)) rfl rfl) (Eq.trans (b := (σ.2.1 28)) rfl rfl) (Eq.trans (b := (σ.1 29)) rfl rfl) (Eq.trans (b := (σ.2.1 30)) rfl rfl) (Eq.trans (b := (σ.2.1 31)) rfl rfl) (Eq.trans (b := (σ.2.1 32)) rfl rfl) (Eq.trans (b := (σ.1 33)) rfl rfl) (Eq.trans (b := (σ.1 34)) rfl rfl) (Eq.trans (b := (σ.1 35)) rfl rfl) (Eq.trans (b := (σ.2.1 36)) rfl rfl) (Eq.trans (b := (σ.2.1 37)) rfl rfl) (Eq.trans (b := (σ.2.1 38)) rfl rfl) (Eq.trans (b := (σ.2.1 39)) rfl rfl) (Eq.trans (b := (σ.2.1 40)) rfl rfl) (Eq.trans (b := (σ.2.1 41)) rfl rfl) (Eq.trans (b := (σ.2.1 42)) rfl rfl) (Eq.trans (b := (σ.2.1 43)) rfl rfl) (Eq.trans (b := (σ.2.1 44)) rfl rfl) (Eq.trans (b := (σ.2.1 45)) rfl rfl) (Eq.trans (b := (σ.2.1 46)) rfl rfl) (Eq.trans (b := (σ.1 47)) rfl rfl) (Eq.trans (b := (σ.2.1 48)) rfl rfl) (Eq.trans (b := (σ.1 49)) rfl rfl) (Eq.trans (b := (σ.2.1 50)) rfl rfl) (Eq.trans (b := (σ.2.1 51)) rfl rfl) (Eq.trans (b := (σ.2.2.1 52)) rfl rfl) (Eq.trans (b := (σ.2.2.1 53)) rfl rfl) (Eq.trans (b := (σ.2.2.2)) rfl rfl) (Eq.trans (b := (σ.1 55)) rfl rfl) (Eq.trans (b := (σ.1 56)) rfl rfl) (Eq.trans (b := (σ.1 57)) rfl rfl) (Eq.trans (b := (σ.2.1 58)) rfl rfl) (Eq.trans (b := (σ.1 59)) rfl rfl)
    exact r_retv C ⟨(σ.2.1 20), (σ.1 19), (σ.2.1 21), (σ.2.1 22), (σ.2.1 26), (σ.2.1 27), (σ.2.1 28), (σ.1 17), n6, n7⟩ ⟨(v_open_7 σ k0 n6 hpre_0 hpre_1 hpre_2 c1 hr5_0 hr5_1), (v_open_8 σ k0 x4 n6 n7 hpre_0 hpre_1 hpre_2 hpre_3 hpre_4 c1 ex4 tx4 hr5y_0 hr5y_1 hr5_0 hr5_1)⟩ hP hS dX12_open_22
