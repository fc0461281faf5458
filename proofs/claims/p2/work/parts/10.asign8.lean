-- in@6 @6
theorem v_set_1 (k0 : Int32) (hpre_0 : 0 ≤ k0.toInt) (hpre_1 : k0.toInt < 980) : vp_in k0 980 := by
  exact vp_in_iff.mpr ⟨by omega, by omega⟩
set_option maxHeartbeats 4000000 in
set_option maxRecDepth 100000 in
theorem M_set (l : Launch) (D : va_G) (cy : Nat → ClassId) (sz0 : Nat) (sa : Nat → Nat) (ad : Nat → Nat) (σ : RS) (sz : Nat) (k0 : Int32) (k1 : Int32) (k2 : Int64) (k3 : UInt64) (hpre : 0 ≤ k0.toInt ∧ k0.toInt < 980) : Met l yX12_set (Cond.code yX12_set cX12_set 7 none :: GWm) ({ frames := 0, cells := 0, slots := 0, locals := 0 }) (PcR D cy sz0 sa ad [.ref (ad 0), .int k0, .int k1, .long k2, .double k3] σ sz) (va_Qv (fun (u : Unit) => True) (fun (u : Unit) (t : State) => RP D cy ad (rR (rJ (rJ (rA σ 51 (upd (σ.2.1 51) k0.toNatClampNeg k1)) 52 (vp_updL (σ.2.2.1 52) k0.toNatClampNeg k2)) 53 (vp_updL (σ.2.2.1 53) k0.toNatClampNeg (0 : Int64))) (vf_upd (σ.2.2.2) k0.toNatClampNeg k3)) t.heap) (AR cy ad sz)) 0 0 (AR cy ad sz) := by
  refine RM_of (loc0 := [(0, .ref (ad 0)), (1, .int k0), (2, .int k1), (3, .long k2), (5, .double k3)]) (by decide) rfl rfl (Nat.le_of_ble_eq_true rfl) ?_
  intro p e s m below meth c ls hsz C hP hS hl
  have hx := C.1
  have hb := C.2.1
  have hown := C.2.2.2.2.1
  have hw := C.2.2.2.2.2.1
  clear hsz
  obtain ⟨hpre_0, hpre_1⟩ := hpre
  refine lv_aload_n hx hb dX12_set_0 rfl (lv_at hl 0 rfl) ?_
  refine rg_51 C hP wm_205 dX12_set_1 ?_
  refine lv_iload_n hx hb dX12_set_4 rfl (lv_at hl 1 rfl) ?_
  refine lv_iload_n hx hb dX12_set_5 rfl (lv_at hl 2 rfl) ?_
  refine rw_51 (f := (σ.2.1 51)) C hP hS rfl (v_set_1 k0 hpre_0 hpre_1) dX12_set_6 (fun H locs hP hS => ?_)
  refine lv_aload_n hx hb dX12_set_7 rfl (lv_at hl 0 rfl) ?_
  refine rg_52 C hP wm_206 dX12_set_8 ?_
  refine lv_iload_n hx hb dX12_set_11 rfl (lv_at hl 1 rfl) ?_
  refine lv_lload_n hx hb dX12_set_12 rfl (lv_at hl 3 rfl) ?_
  refine rw_52 (f := (σ.2.2.1 52)) C hP hS rfl (v_set_1 k0 hpre_0 hpre_1) dX12_set_13 (fun H locs hP hS => ?_)
  refine lv_aload_n hx hb dX12_set_14 rfl (lv_at hl 0 rfl) ?_
  refine rg_53 C hP wm_208 dX12_set_15 ?_
  refine lv_iload_n hx hb dX12_set_18 rfl (lv_at hl 1 rfl) ?_
  refine lv_lconst (v := 0) hx hb dX12_set_19 rfl ?_
  refine rw_53 (f := (σ.2.2.1 53)) C hP hS rfl (v_set_1 k0 hpre_0 hpre_1) dX12_set_20 (fun H locs hP hS => ?_)
  refine lv_aload_n hx hb dX12_set_21 rfl (lv_at hl 0 rfl) ?_
  refine rg_54 C hP wm_209 dX12_set_22 ?_
  refine lv_iload_n hx hb dX12_set_25 rfl (lv_at hl 1 rfl) ?_
  refine lv_dload hx hb dX12_set_26 (lv_at hl 4 rfl) ?_
  refine rw_54 (f := (σ.2.2.2)) C hP hS rfl (v_set_1 k0 hpre_0 hpre_1) dX12_set_28 (fun H locs hP hS => ?_)
  exact r_retv C () trivial hP hS dX12_set_29

-- in@10 @10
theorem v_copy_1 (k0 : Int32) (hpre_0 : 0 ≤ k0.toInt) (hpre_1 : k0.toInt < 980) : vp_in k0 980 := by
  exact vp_in_iff.mpr ⟨by omega, by omega⟩
-- in@11 @11
theorem v_copy_2 (k1 : Int32) (hpre_2 : 0 ≤ k1.toInt) (hpre_3 : k1.toInt < 980) : vp_in k1 980 := by
  exact vp_in_iff.mpr ⟨by omega, by omega⟩
-- in@22 @22
theorem v_copy_3 (σ : RS) (k0 : Int32) (x1 : Int32) (hpre_0 : 0 ≤ k0.toInt) (hpre_1 : k0.toInt < 980) (ex1 : x1 = (σ.2.1 51) k0.toNatClampNeg) (tx1 : x1.toInt = ((σ.2.1 51) k0.toNatClampNeg).toInt) : vp_in k0 980 := by
  exact vp_in_iff.mpr ⟨by omega, by omega⟩
-- in@34 @34
theorem v_copy_4 (σ : RS) (k0 : Int32) (x1 : Int32) (x2 : Int64) (hpre_0 : 0 ≤ k0.toInt) (hpre_1 : k0.toInt < 980) (ex1 : x1 = (σ.2.1 51) k0.toNatClampNeg) (tx1 : x1.toInt = ((σ.2.1 51) k0.toNatClampNeg).toInt) (ex2 : x2 = (σ.2.2.1 52) k0.toNatClampNeg) (tx2 : x2.toInt = ((σ.2.2.1 52) k0.toNatClampNeg).toInt) : vp_in k0 980 := by
  exact vp_in_iff.mpr ⟨by omega, by omega⟩
-- in@46 @46
theorem v_copy_5 (σ : RS) (k0 : Int32) (x1 : Int32) (x2 : Int64) (x3 : Int64) (hpre_0 : 0 ≤ k0.toInt) (hpre_1 : k0.toInt < 980) (ex1 : x1 = (σ.2.1 51) k0.toNatClampNeg) (tx1 : x1.toInt = ((σ.2.1 51) k0.toNatClampNeg).toInt) (ex2 : x2 = (σ.2.2.1 52) k0.toNatClampNeg) (tx2 : x2.toInt = ((σ.2.2.1 52) k0.toNatClampNeg).toInt) (ex3 : x3 = (σ.2.2.1 53) k0.toNatClampNeg) (tx3 : x3.toInt = ((σ.2.2.1 53) k0.toNatClampNeg).toInt) : vp_in k0 980 := by
  exact vp_in_iff.mpr ⟨by omega, by omega⟩
-- set@kind @48
theorem v_copy_6 (σ : RS) (k0 : Int32) (k1 : Int32) (x1 : Int32) (x2 : Int64) (x3 : Int64) (x4 : UInt64) (hpre_0 : 0 ≤ k0.toInt) (hpre_1 : k0.toInt < 980) (hpre_2 : 0 ≤ k1.toInt) (hpre_3 : k1.toInt < 980) (ex1 : x1 = (σ.2.1 51) k0.toNatClampNeg) (tx1 : x1.toInt = ((σ.2.1 51) k0.toNatClampNeg).toInt) (ex2 : x2 = (σ.2.2.1 52) k0.toNatClampNeg) (tx2 : x2.toInt = ((σ.2.2.1 52) k0.toNatClampNeg).toInt) (ex3 : x3 = (σ.2.2.1 53) k0.toNatClampNeg) (tx3 : x3.toInt = ((σ.2.2.1 53) k0.toNatClampNeg).toInt) (ex4 : x4 = (σ.2.2.2) k0.toNatClampNeg) : (upd (σ.2.1 51) k1.toNatClampNeg x1) = (upd (σ.2.1 51) k1.toNatClampNeg ((σ.2.1 51) k0.toNatClampNeg)) := by
  subst_vars; rfl
-- set@a @48
theorem v_copy_7 (σ : RS) (k0 : Int32) (k1 : Int32) (x1 : Int32) (x2 : Int64) (x3 : Int64) (x4 : UInt64) (hpre_0 : 0 ≤ k0.toInt) (hpre_1 : k0.toInt < 980) (hpre_2 : 0 ≤ k1.toInt) (hpre_3 : k1.toInt < 980) (ex1 : x1 = (σ.2.1 51) k0.toNatClampNeg) (tx1 : x1.toInt = ((σ.2.1 51) k0.toNatClampNeg).toInt) (ex2 : x2 = (σ.2.2.1 52) k0.toNatClampNeg) (tx2 : x2.toInt = ((σ.2.2.1 52) k0.toNatClampNeg).toInt) (ex3 : x3 = (σ.2.2.1 53) k0.toNatClampNeg) (tx3 : x3.toInt = ((σ.2.2.1 53) k0.toNatClampNeg).toInt) (ex4 : x4 = (σ.2.2.2) k0.toNatClampNeg) : (vp_updL (σ.2.2.1 52) k1.toNatClampNeg x2) = (vp_updL (σ.2.2.1 52) k1.toNatClampNeg ((σ.2.2.1 52) k0.toNatClampNeg)) := by
  subst_vars; rfl
-- set@b @48
theorem v_copy_8 (σ : RS) (k0 : Int32) (k1 : Int32) (x1 : Int32) (x2 : Int64) (x3 : Int64) (x4 : UInt64) (hpre_0 : 0 ≤ k0.toInt) (hpre_1 : k0.toInt < 980) (hpre_2 : 0 ≤ k1.toInt) (hpre_3 : k1.toInt < 980) (ex1 : x1 = (σ.2.1 51) k0.toNatClampNeg) (tx1 : x1.toInt = ((σ.2.1 51) k0.toNatClampNeg).toInt) (ex2 : x2 = (σ.2.2.1 52) k0.toNatClampNeg) (tx2 : x2.toInt = ((σ.2.2.1 52) k0.toNatClampNeg).toInt) (ex3 : x3 = (σ.2.2.1 53) k0.toNatClampNeg) (tx3 : x3.toInt = ((σ.2.2.1 53) k0.toNatClampNeg).toInt) (ex4 : x4 = (σ.2.2.2) k0.toNatClampNeg) : (vp_updL (σ.2.2.1 53) k1.toNatClampNeg x3) = (vp_updL (σ.2.2.1 53) k1.toNatClampNeg ((σ.2.2.1 53) k0.toNatClampNeg)) := by
  subst_vars; rfl
-- set@real @48
theorem v_copy_9 (σ : RS) (k0 : Int32) (k1 : Int32) (x1 : Int32) (x2 : Int64) (x3 : Int64) (x4 : UInt64) (hpre_0 : 0 ≤ k0.toInt) (hpre_1 : k0.toInt < 980) (hpre_2 : 0 ≤ k1.toInt) (hpre_3 : k1.toInt < 980) (ex1 : x1 = (σ.2.1 51) k0.toNatClampNeg) (tx1 : x1.toInt = ((σ.2.1 51) k0.toNatClampNeg).toInt) (ex2 : x2 = (σ.2.2.1 52) k0.toNatClampNeg) (tx2 : x2.toInt = ((σ.2.2.1 52) k0.toNatClampNeg).toInt) (ex3 : x3 = (σ.2.2.1 53) k0.toNatClampNeg) (tx3 : x3.toInt = ((σ.2.2.1 53) k0.toNatClampNeg).toInt) (ex4 : x4 = (σ.2.2.2) k0.toNatClampNeg) : (vf_upd (σ.2.2.2) k1.toNatClampNeg x4) = (vf_upd (σ.2.2.2) k1.toNatClampNeg ((σ.2.2.2) k0.toNatClampNeg)) := by
  subst_vars; rfl
set_option maxHeartbeats 4000000 in
set_option maxRecDepth 100000 in
theorem M_copy (l : Launch) (D : va_G) (cy : Nat → ClassId) (sz0 : Nat) (sa : Nat → Nat) (ad : Nat → Nat) (σ : RS) (sz : Nat) (k0 : Int32) (k1 : Int32) (hpre : 0 ≤ k0.toInt ∧ k0.toInt < 980 ∧ 0 ≤ k1.toInt ∧ k1.toInt < 980) : Met l yX12_copy (Cond.code yX12_copy cX12_copy 3 none :: GWm) ({ frames := 0, cells := 0, slots := 0, locals := 0 }) (PcR D cy sz0 sa ad [.ref (ad 0), .int k0, .int k1] σ sz) (va_Qv (fun (u : Unit) => True) (fun (u : Unit) (t : State) => RP D cy ad (rR (rJ (rJ (rA σ 51 (upd (σ.2.1 51) k1.toNatClampNeg ((σ.2.1 51) k0.toNatClampNeg))) 52 (vp_updL (σ.2.2.1 52) k1.toNatClampNeg ((σ.2.2.1 52) k0.toNatClampNeg))) 53 (vp_updL (σ.2.2.1 53) k1.toNatClampNeg ((σ.2.2.1 53) k0.toNatClampNeg))) (vf_upd (σ.2.2.2) k1.toNatClampNeg ((σ.2.2.2) k0.toNatClampNeg))) t.heap) (AR cy ad sz)) 0 0 (AR cy ad sz) := by
  refine RM_of (loc0 := [(0, .ref (ad 0)), (1, .int k0), (2, .int k1)]) (by decide) rfl rfl (Nat.le_of_ble_eq_true rfl) ?_
  intro p e s m below meth c ls hsz C hP hS hl
  have hx := C.1
  have hb := C.2.1
  have hown := C.2.2.2.2.1
  have hw := C.2.2.2.2.2.1
  clear hsz
  obtain ⟨hpre_0, hpre_1, hpre_2, hpre_3⟩ := hpre
  refine lv_aload_n hx hb dX12_copy_0 rfl (lv_at hl 0 rfl) ?_
  refine rg_51 C hP wm_205 dX12_copy_1 ?_
  refine lv_iload_n hx hb dX12_copy_4 rfl (lv_at hl 2 rfl) ?_
  refine lv_aload_n hx hb dX12_copy_5 rfl (lv_at hl 0 rfl) ?_
  refine rg_51 C hP wm_205 dX12_copy_6 ?_
  refine lv_iload_n hx hb dX12_copy_9 rfl (lv_at hl 1 rfl) ?_
  refine ra_51 (f := (σ.2.1 51)) C hP rfl (v_copy_1 k0 hpre_0 hpre_1) dX12_copy_10 (fun x1 ex1 => ?_)
  have tx1 : x1.toInt = ((σ.2.1 51) k0.toNatClampNeg).toInt := by rw [ex1]
  refine rw_51 (f := (σ.2.1 51)) C hP hS rfl (v_copy_2 k1 hpre_2 hpre_3) dX12_copy_11 (fun H locs hP hS => ?_)
  refine lv_aload_n hx hb dX12_copy_12 rfl (lv_at hl 0 rfl) ?_
  refine rg_52 C hP wm_206 dX12_copy_13 ?_
  refine lv_iload_n hx hb dX12_copy_16 rfl (lv_at hl 2 rfl) ?_
  refine lv_aload_n hx hb dX12_copy_17 rfl (lv_at hl 0 rfl) ?_
  refine rg_52 C hP wm_206 dX12_copy_18 ?_
  refine lv_iload_n hx hb dX12_copy_21 rfl (lv_at hl 1 rfl) ?_
  refine ra_52 (f := (σ.2.2.1 52)) C hP rfl (v_copy_3 σ k0 x1 hpre_0 hpre_1 ex1 tx1) dX12_copy_22 (fun x2 ex2 => ?_)
  have tx2 : x2.toInt = ((σ.2.2.1 52) k0.toNatClampNeg).toInt := by rw [ex2]
  refine rw_52 (f := (σ.2.2.1 52)) C hP hS rfl (v_copy_2 k1 hpre_2 hpre_3) dX12_copy_23 (fun H locs hP hS => ?_)
  refine lv_aload_n hx hb dX12_copy_24 rfl (lv_at hl 0 rfl) ?_
  refine rg_53 C hP wm_208 dX12_copy_25 ?_
  refine lv_iload_n hx hb dX12_copy_28 rfl (lv_at hl 2 rfl) ?_
  refine lv_aload_n hx hb dX12_copy_29 rfl (lv_at hl 0 rfl) ?_
  refine rg_53 C hP wm_208 dX12_copy_30 ?_
  refine lv_iload_n hx hb dX12_copy_33 rfl (lv_at hl 1 rfl) ?_
  refine ra_53 (f := (σ.2.2.1 53)) C hP rfl (v_copy_4 σ k0 x1 x2 hpre_0 hpre_1 ex1 tx1 ex2 tx2) dX12_copy_34 (fun x3 ex3 => ?_)
  have tx3 : x3.toInt = ((σ.2.2.1 53) k0.toNatClampNeg).toInt := by rw [ex3]
  refine rw_53 (f := (σ.2.2.1 53)) C hP hS rfl (v_copy_2 k1 hpre_2 hpre_3) dX12_copy_35 (fun H locs hP hS => ?_)
  refine lv_aload_n hx hb dX12_copy_36 rfl (lv_at hl 0 rfl) ?_
  refine rg_54 C hP wm_209 dX12_copy_37 ?_
  refine lv_iload_n hx hb dX12_copy_40 rfl (lv_at hl 2 rfl) ?_
  refine lv_aload_n hx hb dX12_copy_41 rfl (lv_at hl 0 rfl) ?_
  refine rg_54 C hP wm_209 dX12_copy_42 ?_
  refine lv_iload_n hx hb dX12_copy_45 rfl (lv_at hl 1 rfl) ?_
  refine ra_54 (f := (σ.2.2.2)) C hP rfl (v_copy_5 σ k0 x1 x2 x3 hpre_0 hpre_1 ex1 tx1 ex2 tx2 ex3 tx3) dX12_copy_46 (fun x4 ex4 => ?_)
  refine rw_54 (f := (σ.2.2.2)) C hP hS rfl (v_copy_2 k1 hpre_2 hpre_3) dX12_copy_47 (fun H locs hP hS => ?_)
  have hs51 : (upd (σ.2.1 51) k1.toNatClampNeg x1) = (upd (σ.2.1 51) k1.toNatClampNeg ((σ.2.1 51) k0.toNatClampNeg)) := (v_copy_6 σ k0 k1 x1 x2 x3 x4 hpre_0 hpre_1 hpre_2 hpre_3 ex1 tx1 ex2 tx2 ex3 tx3 ex4)
  have hs52 : (vp_updL (σ.2.2.1 52) k1.toNatClampNeg x2) = (vp_updL (σ.2.2.1 52) k1.toNatClampNeg ((σ.2.2.1 52) k0.toNatClampNeg)) := (v_copy_7 σ k0 k1 x1 x2 x3 x4 hpre_0 hpre_1 hpre_2 hpre_3 ex1 tx1 ex2 tx2 ex3 tx3 ex4)
  have hs53 : (vp_updL (σ.2.2.1 53) k1.toNatClampNeg x3) = (vp_updL (σ.2.2.1 53) k1.toNatClampNeg ((σ.2.2.1 53) k0.toNatClampNeg)) := (v_copy_8 σ k0 k1 x1 x2 x3 x4 hpre_0 hpre_1 hpre_2 hpre_3 ex1 tx1 ex2 tx2 ex3 tx3 ex4)
  have hs54 : (vf_upd (σ.2.2.2) k1.toNatClampNeg x4) = (vf_upd (σ.2.2.2) k1.toNatClampNeg ((σ.2.2.2) k0.toNatClampNeg)) := (v_copy_9 σ k0 k1 x1 x2 x3 x4 hpre_0 hpre_1 hpre_2 hpre_3 ex1 tx1 ex2 tx2 ex3 tx3 ex4)
  rw [hs51, hs52, hs53, hs54] at hP
  have hP : RP D cy ad (rR (rJ (rJ (rA σ 51 (upd (σ.2.1 51) k1.toNatClampNeg ((σ.2.1 51) k0.toNatClampNeg))) 52 (vp_updL (σ.2.2.1 52) k1.toNatClampNeg ((σ.2.2.1 52) k0.toNatClampNeg))) 53 (vp_updL (σ.2.2.1 53) k1.toNatClampNeg ((σ.2.2.1 53) k0.toNatClampNeg))) (vf_upd (σ.2.2.2) k1.toNatClampNeg ((σ.2.2.2) k0.toNatClampNeg))) H := RP.cong hP (Eq.trans (b := (σ.1 0)) rfl rfl) (Eq.trans (b := (σ.1 1)) rfl rfl) (Eq.trans (b := (σ.2.1 2)) rfl rfl) (Eq.trans (b := (σ.1 3)) rfl rfl) (Eq.trans (b := (σ.2.1 4)) rfl rfl) (Eq.trans (b := (σ.2.1 5)) rfl rfl) (Eq.trans (b := (σ.2.2.1 6)) rfl rfl) (Eq.trans (b := (σ.2.1 7)) rfl rfl) (Eq.trans (b := (σ.1 8)) rfl rfl) (Eq.trans (b := (σ.1 9)) rfl rfl) (Eq.trans (b := (σ.1 10)) rfl rfl) (Eq.trans (b := (σ.2.1 11)) rfl rfl) (Eq.trans (b := (σ.2.2.1 12)) rfl rfl) (Eq.trans (b := (σ.2.1 13)) rfl rfl) (Eq.trans (b := (σ.1 14)) rfl rfl) (Eq.trans (b := (σ.1 15)) rfl rfl) (Eq.trans (b := (σ.1 16)) rfl rfl) (Eq.trans (b := (σ.1 17)) rfl rfl) (Eq.trans (b := (σ.1 18)) rfl rfl) (Eq.trans (b := (σ.1 19)) rfl rfl) (Eq.trans (b := (σ.2.1 20)) rfl rfl) (Eq.trans (b := (σ.2.1 21)) rfl rfl) (Eq.trans (b := (σ.2.1 22)) rfl rfl) (Eq.trans (b := (σ.2.1 23)) rfl rfl) (Eq.trans (b := (σ.2.1 24)) rfl rfl) (Eq.trans (b := (σ.2.1 25)) rfl rfl) (Eq.trans (b := (σ.2.1 26)) rfl rfl) (Eq.trans (b := (σ.2.1 27)) rfl rfl) (Eq.trans (b := (σ.2.1 28)) rfl rfl) (Eq.trans (b := (σ.1 29)) rfl rfl) (Eq.trans (b := (σ.2.1 30)) rfl rfl) (Eq.trans (b := (σ.2.1 31)) rfl rfl) (Eq.trans (b := (σ.2.1 32)) rfl rfl) (Eq.trans (b := (σ.1 33)) rfl rfl) (Eq.trans (b := (σ.1 34)) rfl rfl) (Eq.trans (b := (σ.1 35)) rfl rfl) (Eq.trans (b := (σ.2.1 36)) rfl rfl) (Eq.trans (b := (σ.2.1 37)) rfl rfl) (Eq.trans (b := (σ.2.1 38)) rfl rfl) (Eq.trans (b := (σ.2.1 39)) rfl rfl) (Eq.trans (b := (σ.2.1 40)) rfl rfl) (Eq.trans (b := (σ.2.1 41)) rfl rfl) (Eq.trans (b := (σ.2.1 42)) rfl rfl) (Eq.trans (b := (σ.2.1 43)) rfl rfl) (Eq.trans (b := (σ.2.1 44)) rfl rfl) (Eq.trans (b := (σ.2.1 45)) rfl rfl) (Eq.trans (b := (σ.2.1 46)) rfl rfl) (Eq.trans (b := (σ.1 47)) rfl rfl) (Eq.trans (b := (σ.2.1 48)) rfl rfl) (Eq.trans (b := (σ.1 49)) rfl rfl) (Eq.trans (b := (σ.2.1 50)) rfl rfl) (Eq.trans (b := (upd (σ.2.1 51) k1.toNatClampNeg ((σ.2.1 51) k0.toNatClampNeg))) rfl rfl) (Eq.trans (b := (vp_updL (σ.2.2.1 52) k1.toNatClampNeg ((σ.2.2.1 52) k0.toNatClampNeg))) rfl rfl) (Eq.trans (b := (vp_updL (σ.2.2.1 53) k1.toNatClampNeg ((σ.2.2.1 53) k0.toNatClampNeg))) rfl rfl) (Eq.trans (b := (vf_upd (σ.2.2.2) k1.toNatClampNeg ((σ.2.2.2) k0.toNatClampNeg))) rfl rfl) (Eq.trans (b := (σ.1 55)) rfl rfl) (Eq.trans (b := (σ.1 56)) rfl rfl) (Eq.trans (b := (σ.1 57)) rfl rfl) (Eq.trans (b := (σ.2.1 58)) rfl rfl) (Eq.trans (b := (σ.1 59)) rfl rfl)
  exact r_retv C () trivial hP hS dX12_copy_48

-- pre:set@8 @8
theorem v_push_1 (σ : RS) (hpre_0 : 0 ≤ (σ.1 55).toInt) (hpre_1 : (σ.1 55).toInt < 979) : 0 ≤ (σ.1 55).toInt ∧ (σ.1 55).toInt < 980 := by
  refine ⟨?_, ?_⟩ <;> first | assumption | omega | (subst_vars; omega) | trivial
-- nw@17 @17
theorem v_push_2 (σ : RS) (x2 : Int32) (hpre_0 : 0 ≤ (σ.1 55).toInt) (hpre_1 : (σ.1 55).toInt < 979) (ex2 : x2 = (σ.1 55) + (1 : Int32)) : x2.toInt = (σ.1 55).toInt + 1 := by
  have q1 : (1 : Int32).toInt = 1 := by decide +kernel
  have w1 : (1 : Int32).toInt = 1 := by decide +kernel
  rw [ex2, z_add (by omega) (by omega)]; first | done | omega
-- post @21
theorem v_push_3 (σ : RS) (x2 : Int32) (hpre_0 : 0 ≤ (σ.1 55).toInt) (hpre_1 : (σ.1 55).toInt < 979) (ex2 : x2 = (σ.1 55) + (1 : Int32)) (tx2 : x2.toInt = (σ.1 55).toInt + 1) : x2.toInt = (σ.1 55).toInt + 1 := by
  have q1 : (1 : Int32).toInt = 1 := by decide +kernel
  first | assumption | omega | (subst_vars; omega) | trivial
set_option maxHeartbeats 4000000 in
set_option maxRecDepth 100000 in
theorem M_push (l : Launch) (D : va_G) (cy : Nat → ClassId) (sz0 : Nat) (sa : Nat → Nat) (ad : Nat → Nat) (σ : RS) (sz : Nat) (k0 : Int32) (k1 : Int64) (hpre : 0 ≤ (σ.1 55).toInt ∧ (σ.1 55).toInt < 979) : Met l yX12_push (Cond.code yX12_push cX12_push 4 none :: GWm) ({ frames := 1, cells := 0, slots := 0, locals := 26 }) (PcR D cy sz0 sa ad [.ref (ad 0), .int k0, .long k1] σ sz) (va_Qv (fun (u : Int32) => u.toInt = (σ.1 55).toInt + 1) (fun (u : Int32) (t : State) => RP D cy ad (rS (rR (rJ (rJ (rA σ 51 (upd (σ.2.1 51) (σ.1 55).toNatClampNeg k0)) 52 (vp_updL (σ.2.2.1 52) (σ.1 55).toNatClampNeg k1)) 53 (vp_updL (σ.2.2.1 53) (σ.1 55).toNatClampNeg (0 : Int64))) (vf_upd (σ.2.2.2) (σ.1 55).toNatClampNeg FP.dconst0)) 55 u) t.heap) (AR cy ad sz)) 0 0 (AR cy ad sz) := by
  refine RM_of (loc0 := [(0, .ref (ad 0)), (1, .int k0), (2, .long k1)]) (by decide) rfl rfl (Nat.le_of_ble_eq_true rfl) ?_
  intro p e s m below meth c ls hsz C hP hS hl
  have hx := C.1
  have hb := C.2.1
  have hown := C.2.2.2.2.1
  have hw := C.2.2.2.2.2.1
  clear hsz
  obtain ⟨hpre_0, hpre_1⟩ := hpre
  refine lv_aload_n hx hb dX12_push_0 rfl (lv_at hl 0 rfl) ?_
  refine lv_aload_n hx hb dX12_push_1 rfl (lv_at hl 0 rfl) ?_
  refine rg_55 (v := (σ.1 55)) C hP rfl wm_212 dX12_push_2 ?_
  refine lv_iload_n hx hb dX12_push_5 rfl (lv_at hl 1 rfl) ?_
  refine lv_lload_n hx hb dX12_push_6 rfl (lv_at hl 2 rfl) ?_
  refine lv_dconst0 hx hb dX12_push_7 ?_
  refine r_callVv (As := [.int (σ.1 55), .int k0, .long k1, .double FP.dconst0]) (rest := []) C hP hS hl.1 ⟨Nat.zero_le _, Nat.zero_le _⟩ (M_set l D cy sz0 sa ad σ s.heap.size (σ.1 55) k0 k1 FP.dconst0 (v_push_1 σ hpre_0 hpre_1)) (n := 4) ⟨wm_213, wm_207, by decide +kernel⟩ ⟨wm_214, wm_215, wm_10⟩ rfl rfl (lv_room (Nat.le_of_ble_eq_true rfl)) ⟨Nat.le_of_ble_eq_true rfl, Nat.le_of_ble_eq_true rfl⟩ dX12_push_8 (fun u H locs hr1 hP hS => ?_)
  have hr1 : True := hr1
  have hP : RP D cy ad (rR (rJ (rJ (rA σ 51 (upd (σ.2.1 51) (σ.1 55).toNatClampNeg k0)) 52 (vp_updL (σ.2.2.1 52) (σ.1 55).toNatClampNeg k1)) 53 (vp_updL (σ.2.2.1 53) (σ.1 55).toNatClampNeg (0 : Int64))) (vf_upd (σ.2.2.2) (σ.1 55).toNatClampNeg FP.dconst0)) H := hP
  refine lv_aload_n hx hb dX12_push_11 rfl (lv_at hl 0 rfl) ?_
  refine lv_dup hx hb dX12_push_12 rfl ?_
  refine rg_55 (v := (σ.1 55)) C hP rfl wm_212 dX12_push_13 ?_
  refine lv_iconst (v := 1) hx hb dX12_push_16 (by decide +kernel) ?_
  refine lv_iadd hx hb dX12_push_17 ?_
  refine lv_topi (fun x2 ex2 => ?_)
  have tx2 : x2.toInt = (σ.1 55).toInt + 1 := (v_push_2 σ x2 hpre_0 hpre_1 ex2)
  refine rp_55 C hP hS wm_212 dX12_push_18 (fun H locs hP hS => ?_)
  exact r_retv C x2 (v_push_3 σ x2 hpre_0 hpre_1 ex2 tx2) hP hS dX12_push_21

-- in@5 @5
theorem v_lengthOf_1 (k0 : Int32) (hpre_0 : 0 ≤ k0.toInt) (hpre_1 : k0.toInt < 980) : vp_in k0 980 := by
  exact vp_in_iff.mpr ⟨by omega, by omega⟩
-- post @10
theorem v_lengthOf_2 (σ : RS) (k0 : Int32) (x1 : Int64) (x2 : Int64) (x3 : Int32) (hpre_0 : 0 ≤ k0.toInt) (hpre_1 : k0.toInt < 980) (ex1 : x1 = (σ.2.2.1 52) k0.toNatClampNeg) (tx1 : x1.toInt = ((σ.2.2.1 52) k0.toNatClampNeg).toInt) (ex2 : x2 = x1 >>> (Int32.toInt64 (56 : Int32) &&& 63)) (ex3 : x3 = Int64.toInt32 x2) (tx3 : -2147483648 ≤ x2.toInt → x2.toInt < 2147483648 → x3.toInt = x2.toInt) : x3 = LENF ((σ.2.2.1 52) k0.toNatClampNeg) := by
  have q56 : (56 : Int32).toInt = 56 := by decide +kernel
  subst_vars; rfl
set_option maxHeartbeats 4000000 in
set_option maxRecDepth 100000 in
theorem M_lengthOf (l : Launch) (D : va_G) (cy : Nat → ClassId) (sz0 : Nat) (sa : Nat → Nat) (ad : Nat → Nat) (σ : RS) (sz : Nat) (k0 : Int32) (hpre : 0 ≤ k0.toInt ∧ k0.toInt < 980) : Met l yX12_lengthOf (Cond.code yX12_lengthOf cX12_lengthOf 2 (some .int) :: GWm) ({ frames := 0, cells := 0, slots := 0, locals := 0 }) (PcR D cy sz0 sa ad [.ref (ad 0), .int k0] σ sz) (va_Qi (fun (r : Int32) (u : Unit) => r = LENF ((σ.2.2.1 52) k0.toNatClampNeg)) (fun (u : Unit) (t : State) => RP D cy ad σ t.heap) (AR cy ad sz)) 0 0 (AR cy ad sz) := by
  refine RM_of (loc0 := [(0, .ref (ad 0)), (1, .int k0)]) (by decide) rfl rfl (Nat.le_of_ble_eq_true rfl) ?_
  intro p e s m below meth c ls hsz C hP hS hl
  have hx := C.1
  have hb := C.2.1
  have hown := C.2.2.2.2.1
  have hw := C.2.2.2.2.2.1
  clear hsz
  obtain ⟨hpre_0, hpre_1⟩ := hpre
  refine lv_aload_n hx hb dX12_lengthOf_0 rfl (lv_at hl 0 rfl) ?_
  refine rg_52 C hP wm_206 dX12_lengthOf_1 ?_
  refine lv_iload_n hx hb dX12_lengthOf_4 rfl (lv_at hl 1 rfl) ?_
  refine ra_52 (f := (σ.2.2.1 52)) C hP rfl (v_lengthOf_1 k0 hpre_0 hpre_1) dX12_lengthOf_5 (fun x1 ex1 => ?_)
  have tx1 : x1.toInt = ((σ.2.2.1 52) k0.toNatClampNeg).toInt := by rw [ex1]
  refine lv_bipush (v := 56) hx hb dX12_lengthOf_6 (by decide +kernel) ?_
  refine lv_lshr hx hb dX12_lengthOf_8 rfl ?_
  refine lv_topl (fun x2 ex2 => ?_)
  refine lv_l2i hx hb dX12_lengthOf_9 rfl ?_
  refine lv_topi (fun x3 ex3 => ?_)
  have tx3 : -2147483648 ≤ x2.toInt → x2.toInt < 2147483648 → x3.toInt = x2.toInt := z_l2i ex3
  exact r_reti C () (v_lengthOf_2 σ k0 x1 x2 x3 hpre_0 hpre_1 ex1 tx1 ex2 ex3 tx3) hP hS dX12_lengthOf_10

-- in@25 @25
theorem v_sign8_1 (k0 : Int32) (hpre_0 : 0 ≤ k0.toInt) (hpre_1 : k0.toInt < 980) : vp_in k0 980 := by
  exact vp_in_iff.mpr ⟨by omega, by omega⟩
-- nw@31 @31
theorem v_sign8_2 (k1 : Int32) (x3 : Int32) (hpre_2 : 0 ≤ k1.toInt) (hpre_3 : k1.toInt ≤ 200) (c1 : 8 ≤ k1.toInt) (ex3 : x3 = k1 - (8 : Int32)) : x3.toInt = k1.toInt - 8 := by
  have q8 : (8 : Int32).toInt = 8 := by decide +kernel
  have w1 : (8 : Int32).toInt = 8 := by decide +kernel
  rw [ex3, z_sub (by omega) (by omega)]; first | done | omega
-- nw@32 @32
theorem v_sign8_3 (k1 : Int32) (x3 : Int32) (x4 : Int32) (hpre_2 : 0 ≤ k1.toInt) (hpre_3 : k1.toInt ≤ 200) (c1 : 8 ≤ k1.toInt) (ex3 : x3 = k1 - (8 : Int32)) (tx3 : x3.toInt = k1.toInt - 8) (ex4 : x4 = (7 : Int32) * x3) : x4.toInt = 7 * x3.toInt := by
  have q7 : (7 : Int32).toInt = 7 := by decide +kernel
  have q8 : (8 : Int32).toInt = 8 := by decide +kernel
  have w0 : (7 : Int32).toInt = 7 := by decide +kernel
  rw [ex4, z_mulc 7 w0 (by omega) (by omega)]
-- nw@15 @15
theorem v_sign8_4 (k1 : Int32) (x9 : Int32) (hpre_2 : 0 ≤ k1.toInt) (hpre_3 : k1.toInt ≤ 200) (c1 : k1.toInt < 8) (ex9 : x9 = (7 : Int32) * k1) : x9.toInt = 7 * k1.toInt := by
  have q7 : (7 : Int32).toInt = 7 := by decide +kernel
  have w0 : (7 : Int32).toInt = 7 := by decide +kernel
  rw [ex9, z_mulc 7 w0 (by omega) (by omega)]
set_option maxHeartbeats 4000000 in
set_option maxRecDepth 100000 in
theorem M_sign8 (l : Launch) (D : va_G) (cy : Nat → ClassId) (sz0 : Nat) (sa : Nat → Nat) (ad : Nat → Nat) (σ : RS) (sz : Nat) (k0 : Int32) (k1 : Int32) (hpre : 0 ≤ k0.toInt ∧ k0.toInt < 980 ∧ 0 ≤ k1.toInt ∧ k1.toInt ≤ 200) : Met l yX12_sign8 (Cond.code yX12_sign8 cX12_sign8 3 (some .int) :: GWm) ({ frames := 0, cells := 0, slots := 0, locals := 0 }) (PcR D cy sz0 sa ad [.ref (ad 0), .int k0, .int k1] σ sz) (va_Qi (fun (r : Int32) (u : Unit) => True) (fun (u : Unit) (t : State) => RP D cy ad σ t.heap) (AR cy ad sz)) 0 0 (AR cy ad sz) := by
  refine RM_of (loc0 := [(0, .ref (ad 0)), (1, .int k0), (2, .int k1)]) (by decide) rfl rfl (Nat.le_of_ble_eq_true rfl) ?_
  intro p e s m below meth c ls hsz C hP hS hl
  have hx := C.1
  have hb := C.2.1
  have hown := C.2.2.2.2.1
  have hw := C.2.2.2.2.2.1
  clear hsz
  obtain ⟨hpre_0, hpre_1, hpre_2, hpre_3⟩ := hpre
  refine lv_iload_n hx hb dX12_sign8_0 rfl (lv_at hl 2 rfl) ?_
  refine lv_bipush (v := 8) hx hb dX12_sign8_1 (by decide +kernel) ?_
  refine lv_icmp_ge (tgt := 20) hx hb dX12_sign8_3 (by decide) (fun c1 => ?_) (fun c1 => ?_)
  · have c1 : 8 ≤ k1.toInt := by have h := z_le c1; rw [show (8 : Int32).toInt = 8 from by decide +kernel] at h; exact h
    refine lv_aload_n hx hb dX12_sign8_20 rfl (lv_at hl 0 rfl) ?_
    refine rg_53 C hP wm_208 dX12_sign8_21 ?_
    refine lv_iload_n hx hb dX12_sign8_24 rfl (lv_at hl 1 rfl) ?_
    refine ra_53 (f := (σ.2.2.1 53)) C hP rfl (v_sign8_1 k0 hpre_0 hpre_1) dX12_sign8_25 (fun x2 ex2 => ?_)
    have tx2 : x2.toInt = ((σ.2.2.1 53) k0.toNatClampNeg).toInt := by rw [ex2]
    refine lv_bipush (v := 7) hx hb dX12_sign8_26 (by decide +kernel) ?_
    refine lv_iload_n hx hb dX12_sign8_28 rfl (lv_at hl 2 rfl) ?_
    refine lv_bipush (v := 8) hx hb dX12_sign8_29 (by decide +kernel) ?_
    refine lv_isub hx hb dX12_sign8_31 ?_
    refine lv_topi (fun x3 ex3 => ?_)
    have tx3 : x3.toInt = k1.toInt - 8 := (v_sign8_2 k1 x3 hpre_2 hpre_3 c1 ex3)
    refine lv_imul hx hb dX12_sign8_32 ?_
    refine lv_topi (fun x4 ex4 => ?_)
    have tx4 : x4.toInt = 7 * x3.toInt := (v_sign8_3 k1 x3 x4 hpre_2 hpre_3 c1 ex3 tx3 ex4)
    refine lv_lshr hx hb dX12_sign8_33 rfl ?_
    refine lv_topl (fun x5 ex5 => ?_)
    refine lv_ldc2 (v := 127) hx hb hown (hw _ wm_218) dX12_sign8_34 ?_
    refine lv_land hx hb dX12_sign8_37 ?_
    refine lv_topl (fun x6 ex6 => ?_)
    refine lv_l2i hx hb dX12_sign8_38 rfl ?_
    refine lv_topi (fun x7 ex7 => ?_)
    have tx7 : -2147483648 ≤ x6.toInt → x6.toInt < 2147483648 → x7.toInt = x6.toInt := z_l2i ex7
    exact r_reti C () trivial hP hS dX12_sign8_39
  · have c1 : k1.toInt < 8 := by have h := z_nle c1; rw [show (8 : Int32).toInt = 8 from by decide +kernel] at h; exact h
    refine lv_aload_n hx hb dX12_sign8_6 rfl (lv_at hl 0 rfl) ?_
    refine rg_52 C hP wm_206 dX12_sign8_7 ?_
    refine lv_iload_n hx hb dX12_sign8_10 rfl (lv_at hl 1 rfl) ?_
    refine ra_52 (f := (σ.2.2.1 52)) C hP rfl (v_sign8_1 k0 hpre_0 hpre_1) dX12_sign8_11 (fun x8 ex8 => ?_)
    have tx8 : x8.toInt = ((σ.2.2.1 52) k0.toNatClampNeg).toInt := by rw [ex8]
    refine lv_bipush (v := 7) hx hb dX12_sign8_12 (by decide +kernel) ?_
    refine lv_iload_n hx hb dX12_sign8_14 rfl (lv_at hl 2 rfl) ?_
    refine lv_imul hx hb dX12_sign8_15 ?_
    refine lv_topi (fun x9 ex9 => ?_)
    have tx9 : x9.toInt = 7 * k1.toInt := (v_sign8_4 k1 x9 hpre_2 hpre_3 c1 ex9)
    refine lv_lshr hx hb dX12_sign8_16 rfl ?_
    refine lv_topl (fun x10 ex10 => ?_)
    refine lv_goto (tgt := 34) hx hb dX12_sign8_17 (by decide) ?_
    refine lv_ldc2 (v := 127) hx hb hown (hw _ wm_218) dX12_sign8_34 ?_
    refine lv_land hx hb dX12_sign8_37 ?_
    refine lv_topl (fun x11 ex11 => ?_)
    refine lv_l2i hx hb dX12_sign8_38 rfl ?_
    refine lv_topi (fun x12 ex12 => ?_)
    have tx12 : -2147483648 ≤ x11.toInt → x11.toInt < 2147483648 → x12.toInt = x11.toInt := z_l2i ex12
    exact r_reti C () trivial hP hS dX12_sign8_39
