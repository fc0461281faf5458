-- in@6 @6
theorem v_set_1 (k0 : Int32) (hpre_0 : 0 ≤ k0.toInt) (hpre_1 : k0.toInt < 980) : vp_in k0 980 := by
  exact vp_in_iff.mpr ⟨by omega, by omega⟩
set_option maxHeartbeats 4000000 in
set_option maxRecDepth 100000 in
theorem M_set (l : Launch) (D : va_G) (cy : Nat → ClassId) (sz0 : Nat) (sa : Nat → Nat) (ad : Nat → Nat) (σ : RS) (sz : Nat) (k0 : Int32) (k1 : Int32) (k2 : Int64) (k3 : UInt64) (hpre : 0 ≤ k0.toInt ∧ k0.toInt < 980) : Met l yX12_set (Cond.code yX12_set cX12_set 7 none :: GWm) ({ frames := 0, cells := 0, slots := 0, locals := 0 }) (PcR D cy sz0 sa ad [.ref (ad 0), .int k0, .int k1, .long k2, .double k3] σ sz) (va_Qv (fun (u : Unit) => True) (fun (u : Unit) (t : State) => RP D cy ad (rR (rJ (rJ (rA σ 51 (upd (σ.2.1 51) k0.toNatClampNeg k1)) 52 (vp_updL (σ.2.2.1 52) k0.toNatClampNeg k2)) 53 (vp_updL (σ.2.2.1 53) k0.toNatClampNeg (0 : Int64))) (vf_upd (σ.2.2.2) k0.toNatClampNeg k3)) t.heap) (AR cy ad sz)) 0 0 (AR cy ad sz) := by
  refine RM_of (loc0 := [(0, .ref (ad 0)), (1, .int k0), (2, .int k1), (3, .long k2), (5, .double k3)]) (by decide) rfl rfl (Nat.le_of_ble_eq_true rfl) ?_
  intro p e s m below meth c ls hsz C hP hS hl
  have hx := C.1
  have hb := C.2.1
  have hown := C.2.2.2.2.1
  have hw := C.2.2.2.2.2.1
  clear hsz
  obtain ⟨hpre_0, hpre_1⟩ := hpre
  refine lv_aload_n hx hb dX12_set_0 rfl (lv_at hl 0 rfl) ?_
  refine rg_51 C hP wm_205 dX12_set_1 ?_
  refine lv_iload_n hx hb dX12_set_4 rfl (lv_at hl 1 rfl) ?_
  refine lv_iload_n hx hb dX12_set_5 rfl (lv_at hl 2 rfl) ?_
  refine rw_51 (f := (σ.2.1 51)) C hP hS rfl (v_set_1 k0 hpre_0 hpre_1) dX12_set_6 (fun H locs hP hS => ?_)
  refine lv_aload_n hx hb dX12_set_7 rfl (lv_at hl 0 rfl) ?_
  refine rg_52 C hP wm_206 dX12_set_8 ?_
  refine lv_iload_n hx hb dX12_set_11 rfl (lv_at hl 1 rfl) ?_
  refine lv_lload_n hx hb dX12_set_12 rfl (lv_at hl 3 rfl) ?_
  refine rw_52 (f := (σ.2.2.1 52)) C hP hS rfl (v_set_1 k0 hpre_0 hpre_1) dX12_set_13 (fun H locs hP hS => ?_)
  refine lv_aload_n hx hb dX12_set_14 rfl (lv_at hl 0 rfl) ?_
  refine rg_53 C hP wm_208 dX12_set_15 ?_
  refine lv_iload_n hx hb dX12_set_18 rfl (lv_at hl 1 rfl) ?_
  refine lv_lconst (v := 0) hx hb dX12_set_19 rfl ?_
  refine rw_53 (f := (σ.2.2.1 53)) C hP hS rfl (v_set_1 k0 hpre_0 hpre_1) dX12_set_20 (fun H locs hP hS => ?_)
  refine lv_aload_n hx hb dX12_set_21 rfl (lv_at hl 0 rfl) ?_
  refine rg_54 C hP wm_209 dX12_set_22 ?_
  refine lv_iload_n hx hb dX12_set_25 rfl (lv_at hl 1 rfl) ?_
  refine lv_dload hx hb dX12_set_26 (lv_at hl 4 rfl) ?_
  refine rw_54 (f := (σ.2.2.2)) C hP hS rfl (v_set_1 k0 hpre_0 hpre_1) dX12_set_28 (fun H locs hP hS => ?_)
  exact r_retv C () trivial hP hS dX12_set_29

-- in@10 @10
theorem v_copy_1 (k0 : Int32) (hpre_0 : 0 ≤ k0.toInt) (hpre_1 : k0.toInt < 980) : vp_in k0 980 := by
  exact vp_in_iff.mpr ⟨by omega, by omega⟩
-- in@11 @11
theorem v_copy_2 (k1 : Int32) (hpre_2 : 0 ≤ k1.toInt) (hpre_3 : k1.toInt < 980) : vp_in k1 980 := by
  exact vp_in_iff.mpr ⟨by omega, by omega⟩
-- in@22 @22
theorem v_copy_3 (σ : RS) (k0 : Int32) (x1 : Int32) (hpre_0 : 0 ≤ k0.toInt) (hpre_1 : k0.toInt < 980) (ex1 : x1 = (σ.2.1 51) k0.toNatClampNeg) (tx1 : x1.toInt = ((σ.2.1 51) k0.toNatClampNeg).toInt) : vp_in k0 980 := by
  exact vp_in_iff.mpr ⟨by omega, by omega⟩
-- in@34 @34
theorem v_copy_4 (σ : RS) (k0 : Int32) (x1 : Int32) (x2 : Int64) (hpre_0 : 0 ≤ k0.toInt) (hpre_1 : k0.toInt < 980) (ex1 : x1 = (σ.2.1 51) k0.toNatClampNeg) (tx1 : x1.toInt = ((σ.2.1 51) k0.toNatClampNeg).toInt) (ex2 : x2 = (σ.2.2.1 52) k0.toNatClampNeg) (tx2 : x2.toInt = ((σ.2.2.1 52) k0.toNatClampNeg).toInt) : vp_in k0 980 := by
  exact vp_in_iff.mpr ⟨by omega, by omega⟩
-- in@46 @46
theorem v_copy_5 (σ : RS) (k0 : Int32) (x1 : Int32) (x2 : Int64) (x3 : Int64) (hpre_0 : 0 ≤ k0.toInt) (hpre_1 : k0.toInt < 980) (ex1 : x1 = (σ.2.1 51) k0.toNatClampNeg) (tx1 : x1.toInt = ((σ.2.1 51) k0.toNatClampNeg).toInt) (ex2 : x2 = (σ.2.2.1 52) k0.toNatClampNeg) (tx2 : x2.toInt = ((σ.2.2.1 52) k0.toNatClampNeg).toInt) (ex3 : x3 = (σ.2.2.1 53) k0.toNatClampNeg) (tx3 : x3.toInt = ((σ.2.2.1 53) k0.toNatClampNeg).toInt) : vp_in k0 980 := by
  exact vp_in_iff.mpr ⟨by omega, by omega⟩
-- set@kind @48
theorem v_copy_6 (σ : RS) (k0 : Int32) (k1 : Int32) (x1 : Int32) (x2 : Int64) (x3 : Int64) (x4 : UInt64) (hpre_0 : 0 ≤ k0.toInt) (hpre_1 : k0.toInt < 980) (hpre_2 : 0 ≤ k1.toInt) (hpre_3 : k1.toInt < 980) (ex1 : x1 = (σ.2.1 51) k0.toNatClampNeg) (tx1 : x1.toInt = ((σ.2.1 51) k0.toNatClampNeg).toInt) (ex2 : x2 = (σ.2.2.1 52) k0.toNatClampNeg) (tx2 : x2.toInt = ((σ.2.2.1 52) k0.toNatClampNeg).toInt) (ex3 : x3 = (σ.2.2.1 53) k0.toNatClampNeg) (tx3 : x3.toInt = ((σ.2.2.1 53) k0.toNatClampNeg).toInt) (ex4 : x4 = (σ.2.2.2) k0.toNatClampNeg) : (upd (σ.2.1 51) k1.toNatClampNeg x1) = (upd (σ.2.1 51) k1.toNatClampNeg ((σ.2.1 51) k0.toNatClampNeg)) := by
  subst_vars; rfl
-- set@a @48
theorem v_copy_7 (σ : RS) (k0 : Int32) (k1 : Int32) (x1 : Int32) (x2 : Int64) (x3 : Int64) (x4 : UInt64) (hpre_0 : 0 ≤ k0.toInt) (hpre_1 : k0.toInt < 980) (hpre_2 : 0 ≤ k1.toInt) (hpre_3 : k1.toInt < 980) (ex1 : x1 = (σ.2.1 51) k0.toNatClampNeg) (tx1 : x1.toInt = ((σ.2.1 51) k0.toNatClampNeg).toInt) (ex2 : x2 = (σ.2.2.1 52) k0.toNatClampNeg) (tx2 : x2.toInt = ((σ.2.2.1 52) k0.toNatClampNeg).toInt) (ex3 : x3 = (σ.2.2.1 53) k0.toNatClampNeg) (tx3 : x3.toInt = ((σ.2.2.1 53) k0.toNatClampNeg).toInt) (ex4 : x4 = (σ.2.2.2) k0.toNatClampNeg) : (vp_updL (σ.2.2.1 52) k1.toNatClampNeg x2) = (vp_updL (σ.2.2.1 52) k1.toNatClampNeg ((σ.2.2.1 52) k0.toNatClampNeg)) := by
  subst_vars; rfl
-- set@b @48
theorem v_copy_8 (σ : RS) (k0 : Int32) (k1 : Int32) (x1 : Int32) (x2 : Int64) (x3 : Int64) (x4 : UInt64) (hpre_0 : 0 ≤ k0.toInt) (hpre_1 : k0.toInt < 980) (hpre_2 : 0 ≤ k1.toInt) (hpre_3 : k1.toInt < 980) (ex1 : x1 = (σ.2.1 51) k0.toNatClampNeg) (tx1 : x1.toInt = ((σ.2.1 51) k0.toNatClampNeg).toInt) (ex2 : x2 = (σ.2.2.1 52) k0.toNatClampNeg) (tx2 : x2.toInt = ((σ.2.2.1 52) k0.toNatClampNeg).toInt) (ex3 : x3 = (σ.2.2.1 53) k0.toNatClampNeg) (tx3 : x3.toInt = ((σ.2.2.1 53) k0.toNatClampNeg).toInt) (ex4 : x4 = (σ.2.2.2) k0.toNatClampNeg) : (vp_updL (σ.2.2.1 53) k1.toNatClampNeg x3) = (vp_updL (σ.2.2.1 53) k1.toNatClampNeg ((σ.2.2.1 53) k0.toNatClampNeg)) := by
  subst_vars; rfl
-- set@real @48
theorem v_copy_9 (σ : RS) (k0 : Int32) (k1 : Int32) (x1 : Int32) (x2 : Int64) (x3 : Int64) (x4 : UInt64) (hpre_0 : 0 ≤ k0.toInt) (hpre_1 : k0.toInt < 980) (hpre_2 : 0 ≤ k1.toInt) (hpre_3 : k1.toInt < 980) (ex1 : x1 = (σ.2.1 51) k0.toNatClampNeg) (tx1 : x1.toInt = ((σ.2.1 51) k0.toNatClampNeg).toInt) (ex2 : x2 = (σ.2.2.1 52) k0.toNatClampNeg) (tx2 : x2.toInt = ((σ.2.2.1 52) k0.toNatClampNeg).toInt) (ex3 : x3 = (σ.2.2.1 53) k0.toNatClampNeg) (tx3 : x3.toInt = ((σ.2.2.1 53) k0.toNatClampNeg).toInt) (ex4 : x4 = (σ.2.2.2) k0.toNatClampNeg) : (vf_upd (σ.2.2.2) k1.toNatClampNeg x4) = (vf_upd (σ.2.2.2) k1.toNatClampNeg ((σ.2.2.2) k0.toNatClampNeg)) := by
  subst_vars; rfl
set_option maxHeartbeats 4000000 in
set_option maxRecDepth 100000 in
theorem M_copy (l : Launch) (D : va_G) (cy : Nat → ClassId) (sz0 : Nat) (sa : Nat → Nat) (ad : Nat → Nat) (σ : RS) (sz : Nat) (k0 : Int32) (k1 : Int32) (hpre : 0 ≤ k0.toInt ∧ k0.toInt < 980 ∧ 0 ≤ k1.toInt ∧ k1.toInt < 980) : Met l yX12_copy (Cond.code yX12_copy cX12_copy 3 none :: GWm) ({ frames := 0, cells := 0, slots := 0, locals := 0 }) (PcR D cy sz0 sa ad [.ref (ad 0), .int k0, .int k1] σ sz) (va_Qv (fun (u : Unit) => True) (fun (u : Unit) (t : State) => RP D cy ad (rR (rJ (rJ (rA σ 51 (upd (σ.2.1 51) k1.toNatClampNeg ((σ.2.1 51) k0.toNatClampNeg))) 52 (vp_updL (σ.2.2.1 52) k1.toNatClampNeg ((σ.2.2.1 52) k0.toNatClampNeg))) 53 (vp_updL (σ.2.2.1 53) k1.toNatClampNeg ((σ.2.2.1 53) k0.toNatClampNeg))) (vf_upd (σ.2.2.2) k1.toNatClampNeg ((σ.2.2.2) k0.toNatClampNeg))) t.heap) (AR cy ad sz)) 0 0 (AR cy ad sz) := by
  refine RM_of (loc0 := [(0, .ref (ad 0)), (1, .int k0), (2, .int k1)]) (by decide) rfl rfl (Nat.le_of_ble_eq_true rfl) ?_
  intro p e s m below meth c ls hsz C hP hS hl
  have hx := C.1
  have hb := C.2.1
  have hown := C.2.2.2.2.1
  have hw := C.2.2.2.2.2.1
  clear hsz
  obtain ⟨hpre_0, hpre_1, hpre_2, hpre_3⟩ := hpre
  refine lv_aload_n hx hb dX12_copy_0 rfl (lv_at hl 0 rfl) ?_
  refine rg_51 C hP wm_205 dX12_copy_1 ?_
  refine lv_iload_n hx hb dX12_copy_4 rfl (lv_at hl 2 rfl) ?_
  refine lv_aload_n hx hb dX12_copy_5 rfl (lv_at hl 0 rfl) ?_
  refine rg_51 C hP wm_205 dX12_copy_6 ?_
  refine lv_iload_n hx hb dX12_copy_9 rfl (lv_at hl 1 rfl) ?_
  refine ra_51 (f := (σ.2.1 51)) C hP rfl (v_copy_1 k0 hpre_0 hpre_1) dX12_copy_10 (fun x1 ex1 => ?_)
  have tx1 : x1.toInt = ((σ.2.1 51) k0.toNatClampNeg).toInt := by rw [ex1]
  refine rw_51 (f := (σ.2.1 51)) C hP hS rfl (v_copy_2 k1 hpre_2 hpre_3) dX12_copy_11 (fun H locs hP hS => ?_)
  refine lv_aload_n hx hb dX12_copy_12 rfl (lv_at hl 0 rfl) ?_
  refine rg_52 C hP wm_206 dX12_copy_13 ?_
  refine lv_iload_n hx hb dX12_copy_16 rfl (lv_at hl 2 rfl) ?_
  refine lv_aload_n hx hb dX12_copy_17 rfl (lv_at hl 0 rfl) ?_
  refine rg_52 C hP wm_206 dX12_copy_18 ?_
  refine lv_iload_n hx hb dX12_copy_21 rfl (lv_at hl 1 rfl) ?_
  refine ra_52 (f := (σ.2.2.1 52)) C hP rfl (v_copy_3 σ k0 x1 hpre_0 hpre_1 ex1 tx1) dX12_copy_22 (fun x2 ex2 => ?_)
  have tx2 : x2.toInt = ((σ.2.2.1 52) k0.toNatClampNeg).toInt := by rw [ex2]
  refine rw_52 (f := (σ.2.2.1 52)) C hP hS rfl (v_copy_2 k1 hpre_2 hpre_3) dX12_copy_23 (fun H locs hP hS => ?_)
  refine lv_aload_n hx hb dX12_copy_24 rfl (lv_at hl 0 rfl) ?_
  refine rg_53 C hP wm_208 dX12_copy_25 ?_
  refine lv_iload_n hx hb dX12_copy_28 rfl (lv_at hl 2 rfl) ?_
  refine lv_aload_n hx hb dX12_copy_29 rfl (lv_at hl 0 rfl) ?_
  refine rg_53 C hP wm_208 dX12_copy_30 ?_
  refine lv_iload_n hx hb dX12_copy_33 rfl (lv_at hl 1 rfl) ?_
  refine ra_53 (f := (σ.2.2.1 53)) C hP rfl (v_copy_4 σ k0 x1 x2 hpre_0 hpre_1 ex1 tx1 ex2 tx2) dX12_copy_34 (fun x3 ex3 => ?_)
  have tx3 : x3.toInt = ((σ.2.2.1 53) k0.toNatClampNeg).toInt := by rw [ex3]
  refine rw_53 (f := (σ.2.2.1 53)) C hP hS rfl (v_copy_2 k1 hpre_2 hpre_3) dX12_copy_35 (fun H locs hP hS => ?_)
  refine lv_aload_n hx hb dX12_copy_36 rfl (lv_at hl 0 rfl) ?_
  refine rg_54 C hP wm_209 dX12_copy_37 ?_
  refine lv_iload_n hx hb dX12_copy_40 rfl (lv_at hl 2 rfl) ?_
  refine lv_aload_n hx hb dX12_copy_41 rfl (lv_at hl 0 rfl) ?_
  refine rg_54 C hP wm_209 dX12_copy_42 ?_
  refine lv_iload_n hx hb dX12_copy_45 rfl (lv_at hl 1 rfl) ?_
  refine ra_54 (f := (σ.2.2.2)) C hP rfl (v_copy_5 σ k0 x1 x2 x3 hpre_0 hpre_1 ex1 tx1 ex2 tx2 ex3 tx3) dX12_copy_46 (fun x4 ex4 => ?_)
  refine rw_54 (f := (σ.2.2.2)) C hP hS rfl (v_copy_2 k1 hpre_2 hpre_3) dX12_copy_47 (fun H locs hP hS => ?_)
  have hs51 : (upd (σ.2.1 51) k1.toNatClampNeg x1) = (upd (σ.2.1 51) k1.toNatClampNeg ((σ.2.1 51) k0.toNatClampNeg)) := (v_copy_6 σ k0 k1 x1 x2 x3 x4 hpre_0 hpre_1 hpre_2 hpre_3 ex1 tx1 ex2 tx2 ex3 tx3 ex4)
  have hs52 : (vp_updL (σ.2.2.1 52) k1.toNatClampNeg x2) = (vp_updL (σ.2.2.1 52) k1.toNatClampNeg ((σ.2.2.1 52) k0.toNatClampNeg)) := (v_copy_7 σ k0 k1 x1 x2 x3 x4 hpre_0 hpre_1 hpre_2 hpre_3 ex1 tx1 ex2 tx2 ex3 tx3 ex4)
  have hs53 : (vp_updL (σ.2.2.1 53) k1.toNatClampNeg x3) = (vp_updL (σ.2.2.1 53) k1.toNatClampNeg ((σ.2.2.1 53) k0.toNatClampNeg)) := (v_copy_8 σ k0 k1 x1 x2 x3 x4 hpre_0 hpre_1 hpre_2 hpre_3 ex1 tx1 ex2 tx2 ex3 tx3 ex4)
  have hs54 : (vf_upd (σ.2.2.2) k1.toNatClampNeg x4) = (vf_upd (σ.2.2.2) k1.toNatClampNeg ((σ.2.2.2) k0.toNatClampNeg)) := (v_copy_9 σ k0 k1 x1 x2 x3 x4 hpre_0 hpre_1 hpre_2 hpre_3 ex1 tx1 ex2 tx2 ex3 tx3 ex4)
  rw [hs51, hs52, hs53, hs54] at hP
  have hP : RP D cy ad (rR (rJ (rJ (rA σ 51 (upd (σ.2.1 51) k1.toNatClampNeg ((σ.2.1 51) k0.toNatClampNeg))) 52 (vp_updL (σ.2.2.1 52) k1.toNatClampNeg ((σ.2.2.1 52) k0.toNatClampNeg))) 53 (vp_updL (σ.2.2.1 53) k1.toNatClampNeg ((σ.2.2.1 53) k0.toNatClampNeg))) (vf_upd (σ.2.2.2) k1.toNatClampNeg ((σ.2.2.2) k0.toNatClampNeg))) H := RP.cong hP (Eq.trans (b := (σ.1 0)) rfl rfl) (Eq.trans (b := (σ.1 1)) rfl rfl) (Eq.trans (b := (σ.2.1 2)) rfl rfl) (Eq.trans (b := (σ.1 3)) rfl rfl) (Eq.trans (b := (σ.2.1 4)) rfl rfl) (Eq.trans (b := (σ.2.1 5)) rfl rfl) (Eq.trans (b := (σ.2.2.1 6)) rfl rfl) (Eq.trans (b := (σ.2.1 7)) rfl rfl) (Eq.trans (b := (σ.1 8)) rfl rfl) (Eq.trans (b := (σ.1 9)) rfl rfl) (Eq.trans (b := (σ.1 10)) rfl rfl) (Eq.trans (b := (σ.2.1 11)) rfl rfl) (Eq.trans (b := (σ.2.2.1 12)) rfl rfl) (Eq.trans (b := (σ.2.1 13)) rfl rfl) (Eq.trans (b := (σ.1 14)) rfl rfl) (Eq.trans (b := (σ.1 15)) rfl rfl) (Eq.trans (b := (σ.1 16)) rfl rfl) (Eq.trans (b := (σ.1 17)) rfl rfl) (Eq.trans (b := (σ.1 18)) rfl rfl) (Eq.trans (b := (σ.1 19)) rfl rfl) (Eq.trans (b := (σ.2.1 20)) rfl rfl) (Eq.trans (b := (σ.2.1 21)) rfl rfl) (Eq.trans (b := (σ.2.1 22)) rfl rfl) (Eq.trans (b := (σ.2.1 23)) rfl rfl) (Eq.trans (b := (σ.2.1 24)) rfl rfl) (Eq.trans (b := (σ.2.1 25)) rfl rfl) (Eq.trans (b := (σ.2.1 26)) rfl rfl) (Eq.trans (b := (σ.2.1 27)) rfl rfl) (Eq.trans (b := (σ.2.1 28)) rfl rfl) (Eq.trans (b := (σ.1 29)) rfl rfl) (Eq.trans (b := (σ.2.1 30)) rfl rfl) (Eq.trans (b := (σ.2.1 31)) rfl rfl) (Eq.trans (b := (σ.2.1 32)) rfl rfl) (Eq.trans (b := (σ.1 33)) rfl rfl) (Eq.trans (b := (σ.1 34)) rfl rfl) (Eq.trans (b := (σ.1 35)) rfl rfl) (Eq.trans (b := (σ.2.1 36)) rfl rfl) (Eq.trans (b := (σ.2.1 37)) rfl rfl) (Eq.trans (b := (σ.2.1 38)) rfl rfl) (Eq.trans (b := (σ.2.1 39)) rfl rfl) (Eq.trans (b := (σ.2.1 40)) rfl rfl) (Eq.trans (b := (σ.2.1 41)) rfl rfl) (Eq.trans (b := (σ.2.1 42)) rfl rfl) (Eq.trans (b := (σ.2.1 43)) rfl rfl) (Eq.trans (b := (σ.2.1 44)) rfl rfl) (Eq.trans (b := (σ.2.1 45)) rfl rfl) (Eq.trans (b := (σ.2.1 46)) rfl rfl) (Eq.trans (b := (σ.1 47)) rfl rfl) (Eq.trans (b := (σ.2.1 48)) rfl rfl) (Eq.trans (b := (σ.1 49)) rfl rfl) (Eq.trans (b := (σ.2.1 50)) rfl rfl) (Eq.trans (b := (upd (σ.2.1 51) k1.toNatClampNeg ((σ.2.1 51) k0.toNatClampNeg))) rfl rfl) (Eq.trans (b := (vp_updL (σ.2.2.1 52) k1.toNatClampNeg ((σ.2.2.1 52) k0.toNatClampNeg))) rfl rfl) (Eq.trans (b := (vp_updL (σ.2.2.1 53) k1.toNatClampNeg ((σ.2.2.1 53) k0.toNatClampNeg))) rfl rfl) (Eq.trans (b := (vf_upd (σ.2.2.2) k1.toNatClampNeg ((σ.2.2.2) k0.toNatClampNeg))) rfl rfl) (Eq.trans (b := (σ.1 55)) rfl rfl) (Eq.trans (b := (σ.1 56)) rfl rfl) (Eq.trans (b := (σ.1 57)) rfl rfl) (Eq.trans (b := (σ.2.1 58)) rfl rfl) (Eq.trans (b := (σ.1 59)) rfl rfl)
  exact r_retv C () trivial hP hS dX12_copy_48

-- pre:set@8 @8
theorem v_push_1 (σ : RS) (hpre_0 : 0 ≤ (σ.1 55).toInt) (hpre_1 : (σ.1 55).toInt < 979) : 0 ≤ (σ.1 55).toInt ∧ (σ.1 55).toInt < 980 := by
  refine ⟨?_, ?_⟩ <;> first | assumption | omega | (subst_vars; omega) | trivial
-- nw@17 @17
theorem v_push_2 (σ : RS) (x2 : Int32) (hpre_0 : 0 ≤ (σ.1 55).toInt) (hpre_1 : (σ.1 55).toInt < 979) (ex2 : x2 = (σ.1 55) + (1 : Int32)) : x2.toInt = (σ.1 55).toInt + 1 := by
  have q1 : (1 : Int32).toInt = 1 := by decide +kernel
  have w1 : (1 : Int32).toInt = 1 := by decide +kernel
  rw [ex2, z_add (by omega) (by omega)]; first | done | omega
-- post @21
theorem v_push_3 (σ : RS) (x2 : Int32) (hpre_0 : 0 ≤ (σ.1 55).toInt) (hpre_1 : (σ.1 55).toInt < 979) (ex2 : x2 = (σ.1 55) + (1 : Int32)) (tx2 : x2.toInt = (σ.1 55).toInt + 1) : x2.toInt = (σ.1 55).toInt + 1 := by
  have q1 : (1 : Int32).toInt = 1 := by decide +kernel
  first | assumption | omega | (subst_vars; omega) | trivial
set_option maxHeartbeats 4000000 in
set_option maxRecDepth 100000 in
theorem M_push (l : Launch) (D : va_G) (cy : Nat → ClassId) (sz0 : Nat) (sa : Nat → Nat) (ad : Nat → Nat) (σ : RS) (sz : Nat) (k0 : Int32) (k1 : Int64) (hpre : 0 ≤ (σ.1 55).toInt ∧ (σ.1 55).toInt < 979) : Met l yX12_push (Cond.code yX12_push cX12_push 4 none :: GWm) ({ frames := 1, cells := 0, slots := 0, locals := 26 }) (PcR D cy sz0 sa ad [.ref (ad 0), .int k0, .long k1] σ sz) (va_Qv (fun (u : Int32) => u.toInt = (σ.1 55).toInt + 1) (fun (u : Int32) (t : State) => RP D cy ad (rS (rR (rJ (rJ (rA σ 51 (upd (σ.2.1 51) (σ.1 55).toNatClampNeg k0)) 52 (vp_updL (σ.2.2.1 52) (σ.1 55).toNatClampNeg k1)) 53 (vp_updL (σ.2.2.1 53) (σ.1 55).toNatClampNeg (0 : Int64))) (vf_upd (σ.2.2.2) (σ.1 55).toNatClampNeg FP.dconst0)) 55 u) t.heap) (AR cy ad sz)) 0 0 (AR cy ad sz) := by
  refine RM_of (loc0 := [(0, .ref (ad 0)), (1, .int k0), (2, .long k1)]) (by decide) rfl rfl (Nat.le_of_ble_eq_true rfl) ?_
  intro p e s m below meth c ls hsz C hP hS hl
  have hx := C.1
  have hb := C.2.1
  have hown := C.2.2.2.2.1
  have hw := C.2.2.2.2.2.1
  clear hsz
  obtain ⟨hpre_0, hpre_1⟩ := hpre
  refine lv_aload_n hx hb dX12_push_0 rfl (lv_at hl 0 rfl) ?_
  refine lv_aload_n hx hb dX12_push_1 rfl (lv_at hl 0 rfl) ?_
  refine rg_55 (v := (σ.1 55)) C hP rfl wm_212 dX12_push_2 ?_
  refine lv_iload_n hx hb dX12_push_5 rfl (lv_at hl 1 rfl) ?_
  refine lv_lload_n hx hb dX12_push_6 rfl (lv_at hl 2 rfl) ?_
  refine lv_dconst0 hx hb dX12_push_7 ?_
  refine r_callVv (As := [.int (σ.1 55), .int k0, .long k1, .double FP.dconst0]) (rest := []) C hP hS hl.1 ⟨Nat.zero_le _, Nat.zero_le _⟩ (M_set l D cy sz0 sa ad σ s.heap.size (σ.1 55) k0 k1 FP.dconst0 (v_push_1 σ hpre_0 hpre_1)) (n := 4) ⟨wm_213, wm_207, by decide +kernel⟩ ⟨wm_214, wm_215, wm_10⟩ rfl rfl (lv_room (Nat.le_of_ble_eq_true rfl)) ⟨Nat.le_of_ble_eq_true rfl, Nat.le_of_ble_eq_true rfl⟩ dX12_push_8 (fun u H locs hr1 hP hS => ?_)
  have hr1 : True := hr1
  have hP : RP D cy ad (rR (rJ (rJ (rA σ 51 (upd (σ.2.1 51) (σ.1 55).toNatClampNeg k0)) 52 (vp_updL (σ.2.2.1 52) (σ.1 55).toNatClampNeg k1)) 53 (vp_updL (σ.2.2.1 53) (σ.1 55).toNatClampNeg (0 : Int64))) (vf_upd (σ.2.2.2) (σ.1 55).toNatClampNeg FP.dconst0)) H := hP
  refine lv_aload_n hx hb dX12_push_11 rfl (lv_at hl 0 rfl) ?_
  refine lv_dup hx hb dX12_push_12 rfl ?_
  refine rg_55 (v := (σ.1 55)) C hP rfl wm_212 dX12_push_13 ?_
  refine lv_iconst (v := 1) hx hb dX12_push_16 (by decide +kernel) ?_
  refine lv_iadd hx hb dX12_push_17 ?_
  refine lv_topi (fun x2 ex2 => ?_)
  have tx2 : x2.toInt = (σ.1 55).toInt + 1 := (v_push_2 σ x2 hpre_0 hpre_1 ex2)
  refine rp_55 C hP hS wm_212 dX12_push_18 (fun H locs hP hS => ?_)
  exact r_retv C x2 (v_push_3 σ x2 hpre_0 hpre_1 ex2 tx2) hP hS dX12_push_21

-- in@5 @5
theorem v_lengthOf_1 (k0 : Int32) (hpre_0 : 0 ≤ k0.toInt) (hpre_1 : k0.toInt < 980) : vp_in k0 980 := by
  exact vp_in_iff.mpr ⟨by omega, by omega⟩
-- post @10
theorem v_lengthOf_2 (σ : RS) (k0 : Int32) (x1 : Int64) (x2 : Int64) (x3 : Int32) (hpre_0 : 0 ≤ k0.toInt) (hpre_1 : k0.toInt < 980) (ex1 : x1 = (σ.2.2.1 52) k0.toNatClampNeg) (tx1 : x1.toInt = ((σ.2.2.1 52) k0.toNatClampNeg).toInt) (ex2 : x2 = x1 >>> (Int32.toInt64 (56 : Int32) &&& 63)) (ex3 : x3 = Int64.toInt32 x2) (tx3 : -2147483648 ≤ x2.toInt → x2.toInt < 2147483648 → x3.toInt = x2.toInt) : x3 = LENF ((σ.2.2.1 52) k0.toNatClampNeg) := by
  have q56 : (56 : Int32).toInt = 56 := by decide +kernel
  subst_vars; rfl
set_option maxHeartbeats 4000000 in
set_option maxRecDepth 100000 in
theorem M_lengthOf (l : Launch) (D : va_G) (cy : Nat → ClassId) (sz0 : Nat) (sa : Nat → Nat) (ad : Nat → Nat) (σ : RS) (sz : Nat) (k0 : Int32) (hpre : 0 ≤ k0.toInt ∧ k0.toInt < 980) : Met l yX12_lengthOf (Cond.code yX12_lengthOf cX12_lengthOf 2 (some .int) :: GWm) ({ frames := 0, cells := 0, slots := 0, locals := 0 }) (PcR D cy sz0 sa ad [.ref (ad 0), .int k0] σ sz) (va_Qi (fun (r : Int32) (u : Unit) => r = LENF ((σ.2.2.1 52) k0.toNatClampNeg)) (fun (u : Unit) (t : State) => RP D cy ad σ t.heap) (AR cy ad sz)) 0 0 (AR cy ad sz) := by
  refine RM_of (loc0 := [(0, .ref (ad 0)), (1, .int k0)]) (by decide) rfl rfl (Nat.le_of_ble_eq_true rfl) ?_
  intro p e s m below meth c ls hsz C hP hS hl
  have hx := C.1
  have hb := C.2.1
  have hown := C.2.2.2.2.1
  have hw := C.2.2.2.2.2.1
  clear hsz
  obtain ⟨hpre_0, hpre_1⟩ := hpre
  refine lv_aload_n hx hb dX12_lengthOf_0 rfl (lv_at hl 0 rfl) ?_
  refine rg_52 C hP wm_206 dX12_lengthOf_1 ?_
  refine lv_iload_n hx hb dX12_lengthOf_4 rfl (lv_at hl 1 rfl) ?_
  refine ra_52 (f := (σ.2.2.1 52)) C hP rfl (v_lengthOf_1 k0 hpre_0 hpre_1) dX12_lengthOf_5 (fun x1 ex1 => ?_)
  have tx1 : x1.toInt = ((σ.2.2.1 52) k0.toNatClampNeg).toInt := by rw [ex1]
  refine lv_bipush (v := 56) hx hb dX12_lengthOf_6 (by decide +kernel) ?_
  refine lv_lshr hx hb dX12_lengthOf_8 rfl ?_
  refine lv_topl (fun x2 ex2 => ?_)
  refine lv_l2i hx hb dX12_lengthOf_9 rfl ?_
  refine lv_topi (fun x3 ex3 => ?_)
  have tx3 : -2147483648 ≤ x2.toInt → x2.toInt < 2147483648 → x3.toInt = x2.toInt := z_l2i ex3
  exact r_reti C () (v_lengthOf_2 σ k0 x1 x2 x3 hpre_0 hpre_1 ex1 tx1 ex2 ex3 tx3) hP hS dX12_lengthOf_10

-- in@25 @25
theorem v_sign8_1 (k0 : Int32) (hpre_0 : 0 ≤ k0.toInt) (hpre_1 : k0.toInt < 980) : vp_in k0 980 := by
  exact vp_in_iff.mpr ⟨by omega, by omega⟩
-- nw@31 @31
theorem v_sign8_2 (k1 : Int32) (x3 : Int32) (hpre_2 : 0 ≤ k1.toInt) (hpre_3 : k1.toInt ≤ 200) (c1 : 8 ≤ k1.toInt) (ex3 : x3 = k1 - (8 : Int32)) : x3.toInt = k1.toInt - 8 := by
  have q8 : (8 : Int32).toInt = 8 := by decide +kernel
  have w1 : (8 : Int32).toInt = 8 := by decide +kernel
  rw [ex3, z_sub (by omega) (by omega)]; first | done | omega
-- nw@32 @32
theorem v_sign8_3 (k1 : Int32) (x3 : Int32) (x4 : Int32) (hpre_2 : 0 ≤ k1.toInt) (hpre_3 : k1.toInt ≤ 200) (c1 : 8 ≤ k1.toInt) (ex3 : x3 = k1 - (8 : Int32)) (tx3 : x3.toInt = k1.toInt - 8) (ex4 : x4 = (7 : Int32) * x3) : x4.toInt = 7 * x3.toInt := by
  have q7 : (7 : Int32).toInt = 7 := by decide +kernel
  have q8 : (8 : Int32).toInt = 8 := by decide +kernel
  have w0 : (7 : Int32).toInt = 7 := by decide +kernel
  rw [ex4, z_mulc 7 w0 (by omega) (by omega)]
-- post2 @39
theorem v_sign8_4 (σ : RS) (k0 : Int32) (k1 : Int32) (x2 : Int64) (x3 : Int32) (x4 : Int32) (x5 : Int64) (x6 : Int64) (x7 : Int32) (hpre_0 : 0 ≤ k0.toInt) (hpre_1 : k0.toInt < 980) (hpre_2 : 0 ≤ k1.toInt) (hpre_3 : k1.toInt ≤ 200) (c1 : 8 ≤ k1.toInt) (ex2 : x2 = (σ.2.2.1 53) k0.toNatClampNeg) (tx2 : x2.toInt = ((σ.2.2.1 53) k0.toNatClampNeg).toInt) (ex3 : x3 = k1 - (8 : Int32)) (tx3 : x3.toInt = k1.toInt - 8) (ex4 : x4 = (7 : Int32) * x3) (tx4 : x4.toInt = 7 * x3.toInt) (ex5 : x5 = x2 >>> (Int32.toInt64 x4 &&& 63)) (ex6 : x6 = x5 &&& (127 : Int64)) (ex7 : x7 = Int64.toInt32 x6) (tx7 : -2147483648 ≤ x6.toInt → x6.toInt < 2147483648 → x7.toInt = x6.toInt) : ∀ s9 : List Int, QTT ((σ.2.2.1 52) k0.toNatClampNeg) ((σ.2.2.1 53) k0.toNatClampNeg) s9 → 0 ≤ k1.toInt → k1.toInt < 17 → x7.toInt = s9.getD k1.toInt.toNat 0 := by
  have q7 : (7 : Int32).toInt = 7 := by decide +kernel
  have q8 : (8 : Int32).toInt = 8 := by decide +kernel
  have ql127 : (127 : Int64).toInt = 127 := by decide +kernel
  intro s9 h9 ha hb
  have z := q_s8b (i := k1.toInt.toNat) (j := x4) h9.2.1 h9.2.2.2 (by omega) (by omega) (by omega)
  have g := q_gb (i := k1.toInt.toNat) h9.2.2.2
  rw [← ex2, ← ex5, ← ex6] at z
  have y := tx7 (by omega) (by omega)
  omega
-- nw@15 @15
theorem v_sign8_5 (k1 : Int32) (x9 : Int32) (hpre_2 : 0 ≤ k1.toInt) (hpre_3 : k1.toInt ≤ 200) (c1 : k1.toInt < 8) (ex9 : x9 = (7 : Int32) * k1) : x9.toInt = 7 * k1.toInt := by
  have q7 : (7 : Int32).toInt = 7 := by decide +kernel
  have w0 : (7 : Int32).toInt = 7 := by decide +kernel
  rw [ex9, z_mulc 7 w0 (by omega) (by omega)]
-- post2 @39
theorem v_sign8_6 (σ : RS) (k0 : Int32) (k1 : Int32) (x8 : Int64) (x9 : Int32) (x10 : Int64) (x11 : Int64) (x12 : Int32) (hpre_0 : 0 ≤ k0.toInt) (hpre_1 : k0.toInt < 980) (hpre_2 : 0 ≤ k1.toInt) (hpre_3 : k1.toInt ≤ 200) (c1 : k1.toInt < 8) (ex8 : x8 = (σ.2.2.1 52) k0.toNatClampNeg) (tx8 : x8.toInt = ((σ.2.2.1 52) k0.toNatClampNeg).toInt) (ex9 : x9 = (7 : Int32) * k1) (tx9 : x9.toInt = 7 * k1.toInt) (ex10 : x10 = x8 >>> (Int32.toInt64 x9 &&& 63)) (ex11 : x11 = x10 &&& (127 : Int64)) (ex12 : x12 = Int64.toInt32 x11) (tx12 : -2147483648 ≤ x11.toInt → x11.toInt < 2147483648 → x12.toInt = x11.toInt) : ∀ s9 : List Int, QTT ((σ.2.2.1 52) k0.toNatClampNeg) ((σ.2.2.1 53) k0.toNatClampNeg) s9 → 0 ≤ k1.toInt → k1.toInt < 17 → x12.toInt = s9.getD k1.toInt.toNat 0 := by
  have q7 : (7 : Int32).toInt = 7 := by decide +kernel
  have ql127 : (127 : Int64).toInt = 127 := by decide +kernel
  intro s9 h9 ha hb
  have z := q_s8a (i := k1.toInt.toNat) (j := x9) h9.1 h9.2.2.2 (by omega) (by omega)
  have g := q_gb (i := k1.toInt.toNat) h9.2.2.2
  rw [← ex8, ← ex10, ← ex11] at z
  have y := tx12 (by omega) (by omega)
  omega
set_option maxHeartbeats 4000000 in
set_option maxRecDepth 100000 in
theorem M_sign8 (l : Launch) (D : va_G) (cy : Nat → ClassId) (sz0 : Nat) (sa : Nat → Nat) (ad : Nat → Nat) (σ : RS) (sz : Nat) (k0 : Int32) (k1 : Int32) (hpre : 0 ≤ k0.toInt ∧ k0.toInt < 980 ∧ 0 ≤ k1.toInt ∧ k1.toInt ≤ 200) : Met l yX12_sign8 (Cond.code yX12_sign8 cX12_sign8 3 (some .int) :: GWm) ({ frames := 0, cells := 0, slots := 0, locals := 0 }) (PcR D cy sz0 sa ad [.ref (ad 0), .int k0, .int k1] σ sz) (va_Qi (fun (r : Int32) (u : Unit) => (True) ∧ (∀ s9 : List Int, QTT ((σ.2.2.1 52) k0.toNatClampNeg) ((σ.2.2.1 53) k0.toNatClampNeg) s9 → 0 ≤ k1.toInt → k1.toInt < 17 → r.toInt = s9.getD k1.toInt.toNat 0)) (fun (u : Unit) (t : State) => RP D cy ad σ t.heap) (AR cy ad sz)) 0 0 (AR cy ad sz) := by
  refine RM_of (loc0 := [(0, .ref (ad 0)), (1, .int k0), (2, .int k1)]) (by decide) rfl rfl (Nat.le_of_ble_eq_true rfl) ?_
  intro p e s m below meth c ls hsz C hP hS hl
  have hx := C.1
  have hb := C.2.1
  have hown := C.2.2.2.2.1
  have hw := C.2.2.2.2.2.1
  clear hsz
  obtain ⟨hpre_0, hpre_1, hpre_2, hpre_3⟩ := hpre
  refine lv_iload_n hx hb dX12_sign8_0 rfl (lv_at hl 2 rfl) ?_
  refine lv_bipush (v := 8) hx hb dX12_sign8_1 (by decide +kernel) ?_
  refine lv_icmp_ge (tgt := 20) hx hb dX12_sign8_3 (by decide) (fun c1 => ?_) (fun c1 => ?_)
  · have c1 : 8 ≤ k1.toInt := by have h := z_le c1; rw [show (8 : Int32).toInt = 8 from by decide +kernel] at h; exact h
    refine lv_aload_n hx hb dX12_sign8_20 rfl (lv_at hl 0 rfl) ?_
    refine rg_53 C hP wm_208 dX12_sign8_21 ?_
    refine lv_iload_n hx hb dX12_sign8_24 rfl (lv_at hl 1 rfl) ?_
    refine ra_53 (f := (σ.2.2.1 53)) C hP rfl (v_sign8_1 k0 hpre_0 hpre_1) dX12_sign8_25 (fun x2 ex2 => ?_)
    have tx2 : x2.toInt = ((σ.2.2.1 53) k0.toNatClampNeg).toInt := by rw [ex2]
    refine lv_bipush (v := 7) hx hb dX12_sign8_26 (by decide +kernel) ?_
    refine lv_iload_n hx hb dX12_sign8_28 rfl (lv_at hl 2 rfl) ?_
    refine lv_bipush (v := 8) hx hb dX12_sign8_29 (by decide +kernel) ?_
    refine lv_isub hx hb dX12_sign8_31 ?_
    refine lv_topi (fun x3 ex3 => ?_)
    have tx3 : x3.toInt = k1.toInt - 8 := (v_sign8_2 k1 x3 hpre_2 hpre_3 c1 ex3)
    refine lv_imul hx hb dX12_sign8_32 ?_
    refine lv_topi (fun x4 ex4 => ?_)
    have tx4 : x4.toInt = 7 * x3.toInt := (v_sign8_3 k1 x3 x4 hpre_2 hpre_3 c1 ex3 tx3 ex4)
    refine lv_lshr hx hb dX12_sign8_33 rfl ?_
    refine lv_topl (fun x5 ex5 => ?_)
    refine lv_ldc2 (v := 127) hx hb hown (hw _ wm_218) dX12_sign8_34 ?_
    refine lv_land hx hb dX12_sign8_37 ?_
    refine lv_topl (fun x6 ex6 => ?_)
    refine lv_l2i hx hb dX12_sign8_38 rfl ?_
    refine lv_topi (fun x7 ex7 => ?_)
    have tx7 : -2147483648 ≤ x6.toInt → x6.toInt < 2147483648 → x7.toInt = x6.toInt := z_l2i ex7
    exact r_reti C () ⟨trivial, (v_sign8_4 σ k0 k1 x2 x3 x4 x5 x6 x7 hpre_0 hpre_1 hpre_2 hpre_3 c1 ex2 tx2 ex3 tx3 ex4 tx4 ex5 ex6 ex7 tx7)⟩ hP hS dX12_sign8_39
  · have c1 : k1.toInt < 8 := by have h := z_nle c1; rw [show (8 : Int32).toInt = 8 from by decide +kernel] at h; exact h
    refine lv_aload_n hx hb dX12_sign8_6 rfl (lv_at hl 0 rfl) ?_
    refine rg_52 C hP wm_206 dX12_sign8_7 ?_
    refine lv_iload_n hx hb dX12_sign8_10 rfl (lv_at hl 1 rfl) ?_
    refine ra_52 (f := (σ.2.2.1 52)) C hP rfl (v_sign8_1 k0 hpre_0 hpre_1) dX12_sign8_11 (fun x8 ex8 => ?_)
    have tx8 : x8.toInt = ((σ.2.2.1 52) k0.toNatClampNeg).toInt := by rw [ex8]
    refine lv_bipush (v := 7) hx hb dX12_sign8_12 (by decide +kernel) ?_
    refine lv_iload_n hx hb dX12_sign8_14 rfl (lv_at hl 2 rfl) ?_
    refine lv_imul hx hb dX12_sign8_15 ?_
    refine lv_topi (fun x9 ex9 => ?_)
    have tx9 : x9.toInt = 7 * k1.toInt := (v_sign8_5 k1 x9 hpre_2 hpre_3 c1 ex9)
    refine lv_lshr hx hb dX12_sign8_16 rfl ?_
    refine lv_topl (fun x10 ex10 => ?_)
    refine lv_goto (tgt := 34) hx hb dX12_sign8_17 (by decide) ?_
    refine lv_ldc2 (v := 127) hx hb hown (hw _ wm_218) dX12_sign8_34 ?_
    refine lv_land hx hb dX12_sign8_37 ?_
    refine lv_topl (fun x11 ex11 => ?_)
    refine lv_l2i hx hb dX12_sign8_38 rfl ?_
    refine lv_topi (fun x12 ex12 => ?_)
    have tx12 : -2147483648 ≤ x11.toInt → x11.toInt < 2147483648 → x12.toInt = x11.toInt := z_l2i ex12
    exact r_reti C () ⟨trivial, (v_sign8_6 σ k0 k1 x8 x9 x10 x11 x12 hpre_0 hpre_1 hpre_2 hpre_3 c1 ex8 tx8 ex9 tx9 ex10 ex11 ex12 tx12)⟩ hP hS dX12_sign8_39

-- post @29
theorem v_build_1 (σ : RS) (hpre_0 : 0 ≤ (σ.1 59).toInt) (hpre_1 : (σ.1 59).toInt ≤ 48) (c1 : 48 ≤ (σ.1 59).toInt) : 0 ≤ (σ.1 59).toInt ∧ (σ.1 59).toInt ≤ 48 := by
  refine ⟨?_, ?_⟩ <;> first | assumption | omega | (subst_vars; omega) | trivial
-- post2 @29
theorem v_build_2 (σ : RS) (k0 : Int32) (hpre_0 : 0 ≤ (σ.1 59).toInt) (hpre_1 : (σ.1 59).toInt ≤ 48) (c1 : 48 ≤ (σ.1 59).toInt) : ∀ s9 : List Int, QB (σ.2.1 58) (σ.1 59) s9 → s9.length < 48 → QB (σ.2.1 58) (σ.1 59) (s9 ++ [k0.toInt]) := by
  intro s9 h9 hl
  have hl1 := h9.1
  first | (exfalso; omega) | exact h9.snoc (by rw [clampN]; omega) (by omega)
-- in@18 @18
theorem v_build_3 (σ : RS) (hpre_0 : 0 ≤ (σ.1 59).toInt) (hpre_1 : (σ.1 59).toInt ≤ 48) (c1 : (σ.1 59).toInt < 48) : vp_in (σ.1 59) 48 := by
  exact vp_in_iff.mpr ⟨by omega, by omega⟩
-- nw@25 @25
theorem v_build_4 (σ : RS) (x2 : Int32) (hpre_0 : 0 ≤ (σ.1 59).toInt) (hpre_1 : (σ.1 59).toInt ≤ 48) (c1 : (σ.1 59).toInt < 48) (ex2 : x2 = (σ.1 59) + (1 : Int32)) : x2.toInt = (σ.1 59).toInt + 1 := by
  have q1 : (1 : Int32).toInt = 1 := by decide +kernel
  have w1 : (1 : Int32).toInt = 1 := by decide +kernel
  rw [ex2, z_add (by omega) (by omega)]; first | done | omega
-- post @29
theorem v_build_5 (σ : RS) (x2 : Int32) (hpre_0 : 0 ≤ (σ.1 59).toInt) (hpre_1 : (σ.1 59).toInt ≤ 48) (c1 : (σ.1 59).toInt < 48) (ex2 : x2 = (σ.1 59) + (1 : Int32)) (tx2 : x2.toInt = (σ.1 59).toInt + 1) : 0 ≤ x2.toInt ∧ x2.toInt ≤ 48 := by
  have q1 : (1 : Int32).toInt = 1 := by decide +kernel
  refine ⟨?_, ?_⟩ <;> first | assumption | omega | (subst_vars; omega) | trivial
-- post2 @29
theorem v_build_6 (σ : RS) (k0 : Int32) (x2 : Int32) (hpre_0 : 0 ≤ (σ.1 59).toInt) (hpre_1 : (σ.1 59).toInt ≤ 48) (c1 : (σ.1 59).toInt < 48) (ex2 : x2 = (σ.1 59) + (1 : Int32)) (tx2 : x2.toInt = (σ.1 59).toInt + 1) : ∀ s9 : List Int, QB (σ.2.1 58) (σ.1 59) s9 → s9.length < 48 → QB (upd (σ.2.1 58) (σ.1 59).toNatClampNeg k0) x2 (s9 ++ [k0.toInt]) := by
  have q1 : (1 : Int32).toInt = 1 := by decide +kernel
  intro s9 h9 hl
  have hl1 := h9.1
  first | (exfalso; omega) | exact h9.snoc (by rw [clampN]; omega) (by omega)
set_option maxHeartbeats 4000000 in
set_option maxRecDepth 100000 in
theorem M_build (l : Launch) (D : va_G) (cy : Nat → ClassId) (sz0 : Nat) (sa : Nat → Nat) (ad : Nat → Nat) (σ : RS) (sz : Nat) (k0 : Int32) (hpre : 0 ≤ (σ.1 59).toInt ∧ (σ.1 59).toInt ≤ 48) : Met l yX12_build (Cond.code yX12_build cX12_build 2 none :: GWm) ({ frames := 0, cells := 0, slots := 0, locals := 0 }) (PcR D cy sz0 sa ad [.ref (ad 0), .int k0] σ sz) (va_Qv (fun (u : (Nat → Int32) × Int32) => (0 ≤ u.2.toInt ∧ u.2.toInt ≤ 48) ∧ (∀ s9 : List Int, QB (σ.2.1 58) (σ.1 59) s9 → s9.length < 48 → QB u.1 u.2 (s9 ++ [k0.toInt]))) (fun (u : (Nat → Int32) × Int32) (t : State) => RP D cy ad (rS (rA σ 58 u.1) 59 u.2) t.heap) (AR cy ad sz)) 0 0 (AR cy ad sz) := by
  refine RM_of (loc0 := [(0, .ref (ad 0)), (1, .int k0)]) (by decide) rfl rfl (Nat.le_of_ble_eq_true rfl) ?_
  intro p e s m below meth c ls hsz C hP hS hl
  have hx := C.1
  have hb := C.2.1
  have hown := C.2.2.2.2.1
  have hw := C.2.2.2.2.2.1
  clear hsz
  obtain ⟨hpre_0, hpre_1⟩ := hpre
  refine lv_aload_n hx hb dX12_build_0 rfl (lv_at hl 0 rfl) ?_
  refine rg_59 (v := (σ.1 59)) C hP rfl wm_220 dX12_build_1 ?_
  refine lv_bipush (v := 48) hx hb dX12_build_4 (by decide +kernel) ?_
  refine lv_icmp_ge (tgt := 29) hx hb dX12_build_6 (by decide) (fun c1 => ?_) (fun c1 => ?_)
  · have c1 : 48 ≤ (σ.1 59).toInt := by have h := z_le c1; rw [show (48 : Int32).toInt = 48 from by decide +kernel] at h; exact h
    have hP : RP D cy ad (rS (rA σ 58 (σ.2.1 58)) 59 (σ.1 59)) s.heap := RP.cong hP (Eq.trans (b := (σ.1 0)) rfl rfl) (Eq.trans (b := (σ.1 1)) rfl rfl) (Eq.trans (b := (σ.2.1 2)) rfl rfl) (Eq.trans (b := (σ.1 3)) rfl rfl) (Eq.trans (b := (σ.2.1 4)) rfl rfl) (Eq.trans (b := (σ.2.1 5)) rfl rfl) (Eq.trans (b := (σ.2.2.1 6)) rfl rfl) (Eq.trans (b := (σ.2.1 7)) rfl rfl) (Eq.trans (b := (σ.1 8)) rfl rfl) (Eq.trans (b := (σ.1 9)) rfl rfl) (Eq.trans (b := (σ.1 10)) rfl rfl) (Eq.trans (b := (σ.2.1 11)) rfl rfl) (Eq.trans (b := (σ.2.2.1 12)) rfl rfl) (Eq.trans (b := (σ.2.1 13)) rfl rfl) (Eq.trans (b := (σ.1 14)) rfl rfl) (Eq.trans (b := (σ.1 15)) rfl rfl) (Eq.trans (b := (σ.1 16)) rfl rfl) (Eq.trans (b := (σ.1 17)) rfl rfl) (Eq.trans (b := (σ.1 18)) rfl rfl) (Eq.trans (b := (σ.1 19)) rfl rfl) (Eq.trans (b := (σ.2.1 20)) rfl rfl) (Eq.trans (b := (σ.2.1 21)) rfl rfl) (Eq.trans (b := (σ.2.1 22)) rfl rfl) (Eq.trans (b := (σ.2.1 23)) rfl rfl) (Eq.trans (b := (σ.2.1 24)) rfl rfl) (Eq.trans (b := (σ.2.1 25)) rfl rfl) (Eq.trans (b := (σ.2.1 26)) rfl rfl) (Eq.trans (b := (σ.2.1 27)) rfl rfl) (Eq.trans (b := (σ.2.1 28)) rfl rfl) (Eq.trans (b := (σ.1 29)) rfl rfl) (Eq.trans (b := (σ.2.1 30)) rfl rfl) (Eq.trans (b := (σ.2.1 31)) rfl rfl) (Eq.trans (b := (σ.2.1 32)) rfl rfl) (Eq.trans (b := (σ.1 33)) rfl rfl) (Eq.trans (b := (σ.1 34)) rfl rfl) (Eq.trans (b := (σ.1 35)) rfl rfl) (Eq.trans (b := (σ.2.1 36)) rfl rfl) (Eq.trans (b := (σ.2.1 37)) rfl rfl) (Eq.trans (b := (σ.2.1 38)) rfl rfl) (Eq.trans (b := (σ.2.1 39)) rfl rfl) (Eq.trans (b := (σ.2.1 40)) rfl rfl) (Eq.trans (b := (σ.2.1 41)) rfl rfl) (Eq.trans (b := (σ.2.1 42)) rfl rfl) (Eq.trans (b := (σ.2.1 43)) rfl rfl) (Eq.trans (b := (σ.2.1 44)) rfl rfl) (Eq.trans (b := (σ.2.1 45)) rfl rfl) (Eq.trans (b := (σ.2.1 46)) rfl rfl) (Eq.trans (b := (σ.1 47)) rfl rfl) (Eq.trans (b := (σ.2.1 48)) rfl rfl) (Eq.trans (b := (σ.1 49)) rfl rfl) (Eq.trans (b := (σ.2.1 50)) rfl rfl) (Eq.trans (b := (σ.2.1 51)) rfl rfl) (Eq.trans (b := (σ.2.2.1 52)) rfl rfl) (Eq.trans (b := (σ.2.2.1 53)) rfl rfl) (Eq.trans (b := (σ.2.2.2)) rfl rfl) (Eq.trans (b := (σ.1 55)) rfl rfl) (Eq.trans (b := (σ.1 56)) rfl rfl) (Eq.trans (b := (σ.1 57)) rfl rfl) (Eq.trans (b := (σ.2.1 58)) rfl rfl) (Eq.trans (b := (σ.1 59)) rfl rfl)
    exact r_retv C ⟨(σ.2.1 58), (σ.1 59)⟩ ⟨(v_build_1 σ hpre_0 hpre_1 c1), (v_build_2 σ k0 hpre_0 hpre_1 c1)⟩ hP hS dX12_build_29
  · have c1 : (σ.1 59).toInt < 48 := by have h := z_nle c1; rw [show (48 : Int32).toInt = 48 from by decide +kernel] at h; exact h
    refine lv_aload_n hx hb dX12_build_9 rfl (lv_at hl 0 rfl) ?_
    refine rg_58 C hP wm_221 dX12_build_10 ?_
    refine lv_aload_n hx hb dX12_build_13 rfl (lv_at hl 0 rfl) ?_
    refine rg_59 (v := (σ.1 59)) C hP rfl wm_220 dX12_build_14 ?_
    refine lv_iload_n hx hb dX12_build_17 rfl (lv_at hl 1 rfl) ?_
    refine rw_58 (f := (σ.2.1 58)) C hP hS rfl (v_build_3 σ hpre_0 hpre_1 c1) dX12_build_18 (fun H locs hP hS => ?_)
    refine lv_aload_n hx hb dX12_build_19 rfl (lv_at hl 0 rfl) ?_
    refine lv_dup hx hb dX12_build_20 rfl ?_
    refine rg_59 (v := (σ.1 59)) C hP rfl wm_220 dX12_build_21 ?_
    refine lv_iconst (v := 1) hx hb dX12_build_24 (by decide +kernel) ?_
    refine lv_iadd hx hb dX12_build_25 ?_
    refine lv_topi (fun x2 ex2 => ?_)
    have tx2 : x2.toInt = (σ.1 59).toInt + 1 := (v_build_4 σ x2 hpre_0 hpre_1 c1 ex2)
    refine rp_59 C hP hS wm_220 dX12_build_26 (fun H locs hP hS => ?_)
    exact r_retv C ⟨(upd (σ.2.1 58) (σ.1 59).toNatClampNeg k0), x2⟩ ⟨(v_build_5 σ x2 hpre_0 hpre_1 c1 ex2 tx2), (v_build_6 σ k0 x2 hpre_0 hpre_1 c1 ex2 tx2)⟩ hP hS dX12_build_29

-- pre:build@2 @2
theorem v_buildWord_1 (σ : RS) (hpre_0 : 0 ≤ (σ.1 59).toInt) (hpre_1 : (σ.1 59).toInt ≤ 48) : 0 ≤ (σ.1 59).toInt ∧ (σ.1 59).toInt ≤ 48 := by
  refine ⟨?_, ?_⟩ <;> first | assumption | omega | (subst_vars; omega) | trivial
-- pre:build@7 @7
theorem v_buildWord_2 (n3 : Int32) (hr1_0 : 0 ≤ n3.toInt) (hr1_1 : n3.toInt ≤ 48) : 0 ≤ n3.toInt ∧ n3.toInt ≤ 48 := by
  refine ⟨?_, ?_⟩ <;> first | assumption | omega | (subst_vars; omega) | trivial
-- pre:build@12 @12
theorem v_buildWord_3 (n6 : Int32) (hr4_0 : 0 ≤ n6.toInt) (hr4_1 : n6.toInt ≤ 48) : 0 ≤ n6.toInt ∧ n6.toInt ≤ 48 := by
  refine ⟨?_, ?_⟩ <;> first | assumption | omega | (subst_vars; omega) | trivial
-- pre:build@18 @18
theorem v_buildWord_4 (n9 : Int32) (hr7_0 : 0 ≤ n9.toInt) (hr7_1 : n9.toInt ≤ 48) : 0 ≤ n9.toInt ∧ n9.toInt ≤ 48 := by
  refine ⟨?_, ?_⟩ <;> first | assumption | omega | (subst_vars; omega) | trivial
-- post @32
theorem v_buildWord_5 (n12 : Int32) (hr10_0 : 0 ≤ n12.toInt) (hr10_1 : n12.toInt ≤ 48) : 0 ≤ n12.toInt ∧ n12.toInt ≤ 48 := by
  refine ⟨?_, ?_⟩ <;> first | assumption | omega | (subst_vars; omega) | trivial
-- post2 @32
theorem v_buildWord_6 (σ : RS) (k0 : Int32) (k1 : Int32) (k2 : Int32) (k3 : Int32) (k4 : Int32) (F2 : (Nat → Int32)) (n3 : Int32) (F5 : (Nat → Int32)) (n6 : Int32) (F8 : (Nat → Int32)) (n9 : Int32) (F11 : (Nat → Int32)) (n12 : Int32) (hpre_0 : 0 ≤ (σ.1 59).toInt) (hpre_1 : (σ.1 59).toInt ≤ 48) (hr1y : ∀ s9 : List Int, QB (σ.2.1 58) (σ.1 59) s9 → s9.length < 48 → QB F2 n3 (s9 ++ [k0.toInt])) (hr1_0 : 0 ≤ n3.toInt) (hr1_1 : n3.toInt ≤ 48) (hr4y : ∀ s9 : List Int, QB F2 n3 s9 → s9.length < 48 → QB F5 n6 (s9 ++ [k1.toInt])) (hr4_0 : 0 ≤ n6.toInt) (hr4_1 : n6.toInt ≤ 48) (hr7y : ∀ s9 : List Int, QB F5 n6 s9 → s9.length < 48 → QB F8 n9 (s9 ++ [k2.toInt])) (hr7_0 : 0 ≤ n9.toInt) (hr7_1 : n9.toInt ≤ 48) (hr10y : ∀ s9 : List Int, QB F8 n9 s9 → s9.length < 48 → QB F11 n12 (s9 ++ [k3.toInt])) (hr10_0 : 0 ≤ n12.toInt) (hr10_1 : n12.toInt ≤ 48) (c13 : k4.toInt ≤ 0) : ∀ s9 : List Int, QB (σ.2.1 58) (σ.1 59) s9 → s9.length ≤ 36 → QB F11 n12 (s9 ++ ([k0.toInt, k1.toInt, k2.toInt, k3.toInt] ++ if 0 < k4.toInt then [k4.toInt] else [])) := by
  intro s9 h9 hl
  have a0 := hr1y _ h9 (by first | omega | (simp only [List.length_append, List.length_cons, List.length_nil]; omega))
  have a1 := hr4y _ a0 (by first | omega | (simp only [List.length_append, List.length_cons, List.length_nil]; omega))
  have a2 := hr7y _ a1 (by first | omega | (simp only [List.length_append, List.length_cons, List.length_nil]; omega))
  have a3 := hr10y _ a2 (by first | omega | (simp only [List.length_append, List.length_cons, List.length_nil]; omega))
  have z4 : (0 : Int) < k4.toInt ↔ ¬ k4.toInt ≤ 0 := by omega
  rw [if_neg (by omega)]
  simpa only [List.append_assoc, List.cons_append, List.nil_append, List.append_nil] using a3
-- post @32
theorem v_buildWord_7 (n16 : Int32) (hr14_0 : 0 ≤ n16.toInt) (hr14_1 : n16.toInt ≤ 48) : 0 ≤ n16.toInt ∧ n16.toInt ≤ 48 := by
  refine ⟨?_, ?_⟩ <;> first | assumption | omega | (subst_vars; omega) | trivial
-- post2 @32
theorem v_buildWord_8 (σ : RS) (k0 : Int32) (k1 : Int32) (k2 : Int32) (k3 : Int32) (k4 : Int32) (F2 : (Nat → Int32)) (n3 : Int32) (F5 : (Nat → Int32)) (n6 : Int32) (F8 : (Nat → Int32)) (n9 : Int32) (F11 : (Nat → Int32)) (n12 : Int32) (F15 : (Nat → Int32)) (n16 : Int32) (hpre_0 : 0 ≤ (σ.1 59).toInt) (hpre_1 : (σ.1 59).toInt ≤ 48) (hr1y : ∀ s9 : List Int, QB (σ.2.1 58) (σ.1 59) s9 → s9.length < 48 → QB F2 n3 (s9 ++ [k0.toInt])) (hr1_0 : 0 ≤ n3.toInt) (hr1_1 : n3.toInt ≤ 48) (hr4y : ∀ s9 : List Int, QB F2 n3 s9 → s9.length < 48 → QB F5 n6 (s9 ++ [k1.toInt])) (hr4_0 : 0 ≤ n6.toInt) (hr4_1 : n6.toInt ≤ 48) (hr7y : ∀ s9 : List Int, QB F5 n6 s9 → s9.length < 48 → QB F8 n9 (s9 ++ [k2.toInt])) (hr7_0 : 0 ≤ n9.toInt) (hr7_1 : n9.toInt ≤ 48) (hr10y : ∀ s9 : List Int, QB F8 n9 s9 → s9.length < 48 → QB F11 n12 (s9 ++ [k3.toInt])) (hr10_0 : 0 ≤ n12.toInt) (hr10_1 : n12.toInt ≤ 48) (c13 : 0 < k4.toInt) (hr14y : ∀ s9 : List Int, QB F11 n12 s9 → s9.length < 48 → QB F15 n16 (s9 ++ [k4.toInt])) (hr14_0 : 0 ≤ n16.toInt) (hr14_1 : n16.toInt ≤ 48) : ∀ s9 : List Int, QB (σ.2.1 58) (σ.1 59) s9 → s9.length ≤ 36 → QB F15 n16 (s9 ++ ([k0.toInt, k1.toInt, k2.toInt, k3.toInt] ++ if 0 < k4.toInt then [k4.toInt] else [])) := by
  intro s9 h9 hl
  have a0 := hr1y _ h9 (by first | omega | (simp only [List.length_append, List.length_cons, List.length_nil]; omega))
  have a1 := hr4y _ a0 (by first | omega | (simp only [List.length_append, List.length_cons, List.length_nil]; omega))
  have a2 := hr7y _ a1 (by first | omega | (simp only [List.length_append, List.length_cons, List.length_nil]; omega))
  have a3 := hr10y _ a2 (by first | omega | (simp only [List.length_append, List.length_cons, List.length_nil]; omega))
  have a4 := hr14y _ a3 (by first | omega | (simp only [List.length_append, List.length_cons, List.length_nil]; omega))
  have z4 : (0 : Int) < k4.toInt ↔ ¬ k4.toInt ≤ 0 := by omega
  rw [if_pos (by omega)]
  simpa only [List.append_assoc, List.cons_append, List.nil_append, List.append_nil] using a4
set_option maxHeartbeats 4000000 in
set_option maxRecDepth 100000 in
theorem M_buildWord (l : Launch) (D : va_G) (cy : Nat → ClassId) (sz0 : Nat) (sa : Nat → Nat) (ad : Nat → Nat) (σ : RS) (sz : Nat) (k0 : Int32) (k1 : Int32) (k2 : Int32) (k3 : Int32) (k4 : Int32) (hpre : 0 ≤ (σ.1 59).toInt ∧ (σ.1 59).toInt ≤ 48) : Met l yX12_buildWord (Cond.code yX12_buildWord cX12_buildWord 6 none :: GWm) ({ frames := 1, cells := 0, slots := 0, locals := 21 }) (PcR D cy sz0 sa ad [.ref (ad 0), .int k0, .int k1, .int k2, .int k3, .int k4] σ sz) (va_Qv (fun (u : (Nat → Int32) × Int32) => (0 ≤ u.2.toInt ∧ u.2.toInt ≤ 48) ∧ (∀ s9 : List Int, QB (σ.2.1 58) (σ.1 59) s9 → s9.length ≤ 36 → QB u.1 u.2 (s9 ++ ([k0.toInt, k1.toInt, k2.toInt, k3.toInt] ++ if 0 < k4.toInt then [k4.toInt] else [])))) (fun (u : (Nat → Int32) × Int32) (t : State) => RP D cy ad (rS (rA σ 58 u.1) 59 u.2) t.heap) (AR cy ad sz)) 0 0 (AR cy ad sz) := by
  refine RM_of (loc0 := [(0, .ref (ad 0)), (1, .int k0), (2, .int k1), (3, .int k2), (4, .int k3), (5, .int k4)]) (by decide) rfl rfl (Nat.le_of_ble_eq_true rfl) ?_
  intro p e s m below meth c ls hsz C hP hS hl
  have hx := C.1
  have hb := C.2.1
  have hown := C.2.2.2.2.1
  have hw := C.2.2.2.2.2.1
  clear hsz
  obtain ⟨hpre_0, hpre_1⟩ := hpre
  refine lv_aload_n hx hb dX12_buildWord_0 rfl (lv_at hl 0 rfl) ?_
  refine lv_iload_n hx hb dX12_buildWord_1 rfl (lv_at hl 1 rfl) ?_
  refine r_callVv (As := [.int k0]) (rest := []) C hP hS hl.1 ⟨Nat.zero_le _, Nat.zero_le _⟩ (M_build l D cy sz0 sa ad σ s.heap.size k0 (v_buildWord_1 σ hpre_0 hpre_1)) (n := 1) ⟨wm_223, wm_219, by decide +kernel⟩ ⟨wm_224, wm_225, wm_10⟩ rfl rfl (lv_room (Nat.le_of_ble_eq_true rfl)) ⟨Nat.le_of_ble_eq_true rfl, Nat.le_of_ble_eq_true rfl⟩ dX12_buildWord_2 (fun u H locs hr1 hP hS => ?_)
  obtain ⟨F2, n3⟩ := u
  obtain ⟨hr1, hr1y⟩ := hr1
  have hr1y : ∀ s9 : List Int, QB (σ.2.1 58) (σ.1 59) s9 → s9.length < 48 → QB F2 n3 (s9 ++ [k0.toInt]) := hr1y
  have hr1 : 0 ≤ n3.toInt ∧ n3.toInt ≤ 48 := hr1
  obtain ⟨hr1_0, hr1_1⟩ := hr1
  have hP : RP D cy ad (rS (rA σ 58 F2) 59 n3) H := hP
  refine lv_aload_n hx hb dX12_buildWord_5 rfl (lv_at hl 0 rfl) ?_
  refine lv_iload_n hx hb dX12_buildWord_6 rfl (lv_at hl 2 rfl) ?_
  refine r_callVv (As := [.int k1]) (rest := []) C hP hS hl.1 ⟨Nat.zero_le _, Nat.zero_le _⟩ (M_build l D cy sz0 sa ad (rS (rA σ 58 F2) 59 n3) H.size k1 (v_buildWord_2 n3 hr1_0 hr1_1)) (n := 1) ⟨wm_223, wm_219, by decide +kernel⟩ ⟨wm_224, wm_225, wm_10⟩ rfl rfl (lv_room (Nat.le_of_ble_eq_true rfl)) ⟨Nat.le_of_ble_eq_true rfl, Nat.le_of_ble_eq_true rfl⟩ dX12_buildWord_7 (fun u H locs hr4 hP hS => ?_)
  obtain ⟨F5, n6⟩ := u
  obtain ⟨hr4, hr4y⟩ := hr4
  have hr4y : ∀ s9 : List Int, QB F2 n3 s9 → s9.length < 48 → QB F5 n6 (s9 ++ [k1.toInt]) := hr4y
  have hr4 : 0 ≤ n6.toInt ∧ n6.toInt ≤ 48 := hr4
  obtain ⟨hr4_0, hr4_1⟩ := hr4
  have hP : RP D cy ad (rS (rA (rS (rA σ 58 F2) 59 n3) 58 F5) 59 n6) H := hP
  refine lv_aload_n hx hb dX12_buildWord_10 rfl (lv_at hl 0 rfl) ?_
  refine lv_iload_n hx hb dX12_buildWord_11 rfl (lv_at hl 3 rfl) ?_
  refine r_callVv (As := [.int k2]) (rest := []) C hP hS hl.1 ⟨Nat.zero_le _, Nat.zero_le _⟩ (M_build l D cy sz0 sa ad (rS (rA (rS (rA σ 58 F2) 59 n3) 58 F5) 59 n6) H.size k2 (v_buildWord_3 n6 hr4_0 hr4_1)) (n := 1) ⟨wm_223, wm_219, by decide +kernel⟩ ⟨wm_224, wm_225, wm_10⟩ rfl rfl (lv_room (Nat.le_of_ble_eq_true rfl)) ⟨Nat.le_of_ble_eq_true rfl, Nat.le_of_ble_eq_true rfl⟩ dX12_buildWord_12 (fun u H locs hr7 hP hS => ?_)
  obtain ⟨F8, n9⟩ := u
  obtain ⟨hr7, hr7y⟩ := hr7
  have hr7y : ∀ s9 : List Int, QB F5 n6 s9 → s9.length < 48 → QB F8 n9 (s9 ++ [k2.toInt]) := hr7y
  have hr7 : 0 ≤ n9.toInt ∧ n9.toInt ≤ 48 := hr7
  obtain ⟨hr7_0, hr7_1⟩ := hr7
  have hP : RP D cy ad (rS (rA (rS (rA (rS (rA σ 58 F2) 59 n3) 58 F5) 59 n6) 58 F8) 59 n9) H := hP
  refine lv_aload_n hx hb dX12_buildWord_15 rfl (lv_at hl 0 rfl) ?_
  refine lv_iload hx hb dX12_buildWord_16 (lv_at hl 4 rfl) ?_
  refine r_callVv (As := [.int k3]) (rest := []) C hP hS hl.1 ⟨Nat.zero_le _, Nat.zero_le _⟩ (M_build l D cy sz0 sa ad (rS (rA (rS (rA (rS (rA σ 58 F2) 59 n3) 58 F5) 59 n6) 58 F8) 59 n9) H.size k3 (v_buildWord_4 n9 hr7_0 hr7_1)) (n := 1) ⟨wm_223, wm_219, by decide +kernel⟩ ⟨wm_224, wm_225, wm_10⟩ rfl rfl (lv_room (Nat.le_of_ble_eq_true rfl)) ⟨Nat.le_of_ble_eq_true rfl, Nat.le_of_ble_eq_true rfl⟩ dX12_buildWord_18 (fun u H locs hr10 hP hS => ?_)
  obtain ⟨F11, n12⟩ := u
  obtain ⟨hr10, hr10y⟩ := hr10
  have hr10y : ∀ s9 : List Int, QB F8 n9 s9 → s9.length < 48 → QB F11 n12 (s9 ++ [k3.toInt]) := hr10y
  have hr10 : 0 ≤ n12.toInt ∧ n12.toInt ≤ 48 := hr10
  obtain ⟨hr10_0, hr10_1⟩ := hr10
  have hP : RP D cy ad (rS (rA (rS (rA (rS (rA (rS (rA σ 58 F2) 59 n3) 58 F5) 59 n6) 58 F8) 59 n9) 58 F11) 59 n12) H := hP
  refine lv_iload hx hb dX12_buildWord_21 (lv_at hl 5 rfl) ?_
  refine lv_if_le (tgt := 32) hx hb dX12_buildWord_23 (by decide) (fun c13 => ?_) (fun c13 => ?_)
  · have c13 : k4.toInt ≤ 0 := by have h := z_le c13; rw [show (0 : Int32).toInt = 0 from by decide +kernel] at h; exact h
    have hP : RP D cy ad (rS (rA σ 58 F11) 59 n12) H := RP.cong hP (Eq.trans (b := (σ.1 0)) rfl rfl) (Eq.trans (b := (σ.1 1)) rfl rfl) (Eq.trans (b := (σ.2.1 2)) rfl rfl) (Eq.trans (b := (σ.1 3)) rfl rfl) (Eq.trans (b := (σ.2.1 4)) rfl rfl) (Eq.trans (b := (σ.2.1 5)) rfl rfl) (Eq.trans (b := (σ.2.2.1 6)) rfl rfl) (Eq.trans (b := (σ.2.1 7)) rfl rfl) (Eq.trans (b := (σ.1 8)) rfl rfl) (Eq.trans (b := (σ.1 9)) rfl rfl) (Eq.trans (b := (σ.1 10)) rfl rfl) (Eq.trans (b := (σ.2.1 11)) rfl rfl) (Eq.trans (b := (σ.2.2.1 12)) rfl rfl) (Eq.trans (b := (σ.2.1 13)) rfl rfl) (Eq.trans (b := (σ.1 14)) rfl rfl) (Eq.trans (b := (σ.1 15)) rfl rfl) (Eq.trans (b := (σ.1 16)) rfl rfl) (Eq.trans (b := (σ.1 17)) rfl rfl) (Eq.trans (b := (σ.1 18)) rfl rfl) (Eq.trans (b := (σ.1 19)) rfl rfl) (Eq.trans (b := (σ.2.1 20)) rfl rfl) (Eq.trans (b := (σ.2.1 21)) rfl rfl) (Eq.trans (b := (σ.2.1 22)) rfl rfl) (Eq.trans (b := (σ.2.1 23)) rfl rfl) (Eq.trans (b := (σ.2.1 24)) rfl rfl) (Eq.trans (b := (σ.2.1 25)) rfl rfl) (Eq.trans (b := (σ.2.1 26)) rfl rfl) (Eq.trans (b := (σ.2.1 27)) rfl rfl) (Eq.trans (b := (σ.2.1 28)) rfl rfl) (Eq.trans (b := (σ.1 29)) rfl rfl) (Eq.trans (b := (σ.2.1 30)) rfl rfl) (Eq.trans (b := (σ.2.1 31)) rfl rfl) (Eq.trans (b := (σ.2.1 32)) rfl rfl) (Eq.trans (b := (σ.1 33)) rfl rfl) (Eq.trans (b := (σ.1 34)) rfl rfl) (Eq.trans (b := (σ.1 35)) rfl rfl) (Eq.trans (b := (σ.2.1 36)) rfl rfl) (Eq.trans (b := (σ.2.1 37)) rfl rfl) (Eq.trans (b := (σ.2.1 38)) rfl rfl) (Eq.trans (b := (σ.2.1 39)) rfl rfl) (Eq.trans (b := (σ.2.1 40)) rfl rfl) (Eq.trans (b := (σ.2.1 41)) rfl rfl) (Eq.trans (b := (σ.2.1 42)) rfl rfl) (Eq.trans (b := (σ.2.1 43)) rfl rfl) (Eq.trans (b := (σ.2.1 44)) rfl rfl) (Eq.trans (b := (σ.2.1 45)) rfl rfl) (Eq.trans (b := (σ.2.1 46)) rfl rfl) (Eq.trans (b := (σ.1 47)) rfl rfl) (Eq.trans (b := (σ.2.1 48)) rfl rfl) (Eq.trans (b := (σ.1 49)) rfl rfl) (Eq.trans (b := (σ.2.1 50)) rfl rfl) (Eq.trans (b := (σ.2.1 51)) rfl rfl) (Eq.trans (b := (σ.2.2.1 52)) rfl rfl) (Eq.trans (b := (σ.2.2.1 53)) rfl rfl) (Eq.trans (b := (σ.2.2.2)) rfl rfl) (Eq.trans (b := (σ.1 55)) rfl rfl) (Eq.trans (b := (σ.1 56)) rfl rfl) (Eq.trans (b := (σ.1 57)) rfl rfl) (Eq.trans (b := F11) rfl rfl) (Eq.trans (b := n12) rfl rfl)
    exact r_retv C ⟨F11, n12⟩ ⟨(v_buildWord_5 n12 hr10_0 hr10_1), (v_buildWord_6 σ k0 k1 k2 k3 k4 F2 n3 F5 n6 F8 n9 F11 n12 hpre_0 hpre_1 hr1y hr1_0 hr1_1 hr4y hr4_0 hr4_1 hr7y hr7_0 hr7_1 hr10y hr10_0 hr10_1 c13)⟩ hP hS dX12_buildWord_32
  · have c13 : 0 < k4.toInt := by have h := z_nle c13; rw [show (0 : Int32).toInt = 0 from by decide +kernel] at h; exact h
    refine lv_aload_n hx hb dX12_buildWord_26 rfl (lv_at hl 0 rfl) ?_
    refine lv_iload hx hb dX12_buildWord_27 (lv_at hl 5 rfl) ?_
    refine r_callVv (As := [.int k4]) (rest := []) C hP hS hl.1 ⟨Nat.zero_le _, Nat.zero_le _⟩ (M_build l D cy sz0 sa ad (rS (rA (rS (rA (rS (rA (rS (rA σ 58 F2) 59 n3) 58 F5) 59 n6) 58 F8) 59 n9) 58 F11) 59 n12) H.size k4 (v_buildWord_5 n12 hr10_0 hr10_1)) (n := 1) ⟨wm_223, wm_219, by decide +kernel⟩ ⟨wm_224, wm_225, wm_10⟩ rfl rfl (lv_room (Nat.le_of_ble_eq_true rfl)) ⟨Nat.le_of_ble_eq_true rfl, Nat.le_of_ble_eq_true rfl⟩ dX12_buildWord_29 (fun u H locs hr14 hP hS => ?_)
    obtain ⟨F15, n16⟩ := u
    obtain ⟨hr14, hr14y⟩ := hr14
    have hr14y : ∀ s9 : List Int, QB F11 n12 s9 → s9.length < 48 → QB F15 n16 (s9 ++ [k4.toInt]) := hr14y
    have hr14 : 0 ≤ n16.toInt ∧ n16.toInt ≤ 48 := hr14
    obtain ⟨hr14_0, hr14_1⟩ := hr14
    have hP : RP D cy ad (rS (rA (rS (rA (rS (rA (rS (rA (rS (rA σ 58 F2) 59 n3) 58 F5) 59 n6) 58 F8) 59 n9) 58 F11) 59 n12) 58 F15) 59 n16) H := hP
    have hP : RP D cy ad (rS (rA σ 58 F15) 59 n16) H := RP.cong hP (Eq.trans (b := (σ.1 0)) rfl rfl) (Eq.trans (b := (σ.1 1)) rfl rfl) (Eq.trans (b := (σ.2.1 2)) rfl rfl) (Eq.trans (b := (σ.1 3)) rfl rfl) (Eq.trans (b := (σ.2.1 4)) rfl rfl) (Eq.trans (b := (σ.2.1 5)) rfl rfl) (Eq.trans (b := (σ.2.2.1 6)) rfl rfl) (Eq.trans (b := (σ.2.1 7)) rfl rfl) (Eq.trans (b := (σ.1 8)) rfl rfl) (Eq.trans (b := (σ.1 9)) rfl rfl) (Eq.trans (b := (σ.1 10)) rfl rfl) (Eq.trans (b := (σ.2.1 11)) rfl rfl) (Eq.trans (b := (σ.2.2.1 12)) rfl rfl) (Eq.trans (b := (σ.2.1 13)) rfl rfl) (Eq.trans (b := (σ.1 14)) rfl rfl) (Eq.trans (b := (σ.1 15)) rfl rfl) (Eq.trans (b := (σ.1 16)) rfl rfl) (Eq.trans (b := (σ.1 17)) rfl rfl) (Eq.trans (b := (σ.1 18)) rfl rfl) (Eq.trans (b := (σ.1 19)) rfl rfl) (Eq.trans (b := (σ.2.1 20)) rfl rfl) (Eq.trans (b := (σ.2.1 21)) rfl rfl) (Eq.trans (b := (σ.2.1 22)) rfl rfl) (Eq.trans (b := (σ.2.1 23)) rfl rfl) (Eq.trans (b := (σ.2.1 24)) rfl rfl) (Eq.trans (b := (σ.2.1 25)) rfl rfl) (Eq.trans (b := (σ.2.1 26)) rfl rfl) (Eq.trans (b := (σ.2.1 27)) rfl rfl) (Eq.trans (b := (σ.2.1 28)) rfl rfl) (Eq.trans (b := (σ.1 29)) rfl rfl) (Eq.trans (b := (σ.2.1 30)) rfl rfl) (Eq.trans (b := (σ.2.1 31)) rfl rfl) (Eq.trans (b := (σ.2.1 32)) rfl rfl) (Eq.trans (b := (σ.1 33)) rfl rfl) (Eq.trans (b := (σ.1 34)) rfl rfl) (Eq.trans (b := (σ.1 35)) rfl rfl) (Eq.trans (b := (σ.2.1 36)) rfl rfl) (Eq.trans (b := (σ.2.1 37)) rfl rfl) (Eq.trans (b := (σ.2.1 38)) rfl rfl) (Eq.trans (b := (σ.2.1 39)) rfl rfl) (Eq.trans (b := (σ.2.1 40)) rfl rfl) (Eq.trans (b := (σ.2.1 41)) rfl rfl) (Eq.trans (b := (σ.2.1 42)) rfl rfl) (Eq.trans (b := (σ.2.1 43)) rfl rfl) (Eq.trans (b := (σ.2.1 44)) rfl rfl) (Eq.trans (b := (σ.2.1 45)) rfl rfl) (Eq.trans (b := (σ.2.1 46)) rfl rfl) (Eq.trans (b := (σ.1 47)) rfl rfl) (Eq.trans (b := (σ.2.1 48)) rfl rfl) (Eq.trans (b := (σ.1 49)) rfl rfl) (Eq.trans (b := (σ.2.1 50)) rfl rfl) (Eq.trans (b := (σ.2.1 51)) rfl rfl) (Eq.trans (b := (σ.2.2.1 52)) rfl rfl) (Eq.trans (b := (σ.2.2.1 53)) rfl rfl) (Eq.trans (b := (σ.2.2.2)) rfl rfl) (Eq.trans (b := (σ.1 55)) rfl rfl) (Eq.trans (b := (σ.1 56)) rfl rfl) (Eq.trans (b := (σ.1 57)) rfl rfl) (Eq.trans (b := F15) rfl rfl) (Eq.trans (b := n16) rfl rfl)
    exact r_retv C ⟨F15, n16⟩ ⟨(v_buildWord_7 n16 hr14_0 hr14_1), (v_buildWord_8 σ k0 k1 k2 k3 k4 F2 n3 F5 n6 F8 n9 F11 n12 F15 n16 hpre_0 hpre_1 hr1y hr1_0 hr1_1 hr4y hr4_0 hr4_1 hr7y hr7_0 hr7_1 hr10y hr10_0 hr10_1 c13 hr14y hr14_0 hr14_1)⟩ hP hS dX12_buildWord_32
