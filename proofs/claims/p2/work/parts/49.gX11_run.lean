set_option maxHeartbeats 4000000 in
set_option maxRecDepth 100000 in
theorem NX11_put (l : Launch) (D : va_G) (cy : Nat → ClassId) (ad : Nat → Nat) (A : Nat → Prop) (sz0 : Nat) (sa : Nat → Nat) (hfl : l.stackTraces = false) (κ : KS) (sz sl : Nat) (hAF : ∀ q, A q → Fr sz0 q) (hAn : ∀ q : Nat, sz ≤ q → A q) (k0 : Int32) (k1 : Int32) (hPV : PV sa κ.2.2.2.2) (hSV : SV ad κ.2.2.2.2 (κ.2.1 0) (κ.2.1 1) (κ.2.2.2.1 6) (κ.2.2.2.1 7) (κ.2.2.2.1 8) (κ.2.2.2.1 13) (κ.2.2.2.1 15) (κ.2.2.2.1 17) (κ.1 1).toInt) : vx_Met l yX11_put (Cond.code yX11_put cX11_put 4 (some .int) :: GWc) ({ frames := 10, cells := 3, slots := 21, locals := 243 }) (PcC D cy ad A sz0 sa [.ref (ad 0), .int k0, .int k1] κ sz sl) (va_Qi (fun (r : Int32) (u : PL × Int32 × Option Nat) => (EX κ.2.2.2.2 u.1) ∧ (PV sa u.1) ∧ (SV ad u.1 (κ.2.1 0) u.2.2 (κ.2.2.2.1 6) (κ.2.2.2.1 7) (κ.2.2.2.1 8) (κ.2.2.2.1 13) (κ.2.2.2.1 15) (κ.2.2.2.1 17) (κ.1 1).toInt)) (fun (u : PL × Int32 × Option Nat) (t : State) => Bx D cy ad A sz sl (tR (tI (tP κ u.1) 9 u.2.1) 1 u.2.2) (3) (21) t) A) (TX D cy ad A (fun (E : String) (u : PL × Int32 × Option Nat) => (EX κ.2.2.2.2 u.1) ∧ (PV sa u.1) ∧ (SV ad u.1 (κ.2.1 0) u.2.2 (κ.2.2.2.1 6) (κ.2.2.2.1 7) (κ.2.2.2.1 8) (κ.2.2.2.1 13) (κ.2.2.2.1 15) (κ.2.2.2.1 17) (κ.1 1).toInt) ∧ ((E = tIAE ∧ (True)) ∨ (E = tISE ∧ (False)))) (fun (u : PL × Int32 × Option Nat) => (tR (tI (tP κ u.1) 9 u.2.1) 1 u.2.2))) (3) (21) A := by
  refine CM_ofX (loc0 := [(0, .ref (ad 0)), (1, .int k0), (2, .int k1)]) (own := RX11) (nm := "put") (by decide) rfl rfl rfl (Nat.le_of_ble_eq_true rfl) hAF hAn ?_
  intro p e s m below meth c ls hsz hsl hout C hP hS hl
  refine lv_aload_n C.x C.b dX11_put_0 rfl (lv_at hl 0 rfl) ?_
  refine lv_iload_n C.x C.b dX11_put_1 rfl (lv_at hl 1 rfl) ?_
  refine c_callVq (n := 1) (As := [.int k0]) (rest := []) C hP hS hl.1 (NX11_objectAt l D cy ad A sz0 sa κ s.heap.size (SLT s.heap) C.f (fun q h => C.a q (Nat.le_trans hS.1 h)) k0 hPV hSV) ⟨cw_958, cw_961, by decide +kernel⟩ ⟨cw_959, cw_960, cw_910⟩ rfl (hP.recvS (k := 0) (ci := 13) C.K rfl rfl) rfl rfl (lv_room (Nat.le_of_ble_eq_true rfl)) ⟨Nat.le_of_ble_eq_true rfl, Nat.le_of_ble_eq_true rfl⟩ ⟨(Nat.le_of_ble_eq_true rfl), (Nat.le_of_ble_eq_true rfl)⟩ dX11_put_2 (fun r1 u H locs hr1 hP hS => ?_)
  have hr1 : (NT κ.2.2.2.2 1 r1) := hr1
  refine lq_astore_n (lv' := [(3, va_rf r1), (0, .ref (ad 0)), (1, .int k0), (2, .int k1)]) C.x C.b dX11_put_5 rfl hl (by decide) (by cases r1 <;> rfl) (fun ls hl => ?_)
  refine lq_aload_n C.x C.b dX11_put_6 rfl (lv_at hl 0 rfl) ?_
  cases r1 with
  | none =>
    refine lv_ifnonnullN C.x C.b dX11_put_7 ?_
    have hP : CH D cy ad A (tR (tI (tP κ κ.2.2.2.2) 9 (κ.1 9)) 1 (κ.2.1 1)) H := CH.cong hP rfl rfl rfl rfl rfl rfl rfl rfl rfl rfl rfl rfl rfl rfl rfl rfl rfl rfl rfl rfl rfl rfl rfl rfl rfl rfl rfl
    exact c_iae C hfl hout ⟨κ.2.2.2.2, (κ.1 9), (κ.2.1 1)⟩ ⟨EX.rf, hPV, hSV, (Or.inl ⟨rfl, trivial⟩)⟩ hP hS hl.1 cw_888 cw_889 (is := 227) (text := "there is no such object") (by decide +kernel) dX11_put_10 dX11_put_13 dX11_put_14 dX11_put_16 dX11_put_19 (Nat.le_of_ble_eq_true rfl) (Nat.le_of_ble_eq_true rfl) ⟨(Nat.le_of_ble_eq_true rfl), (Nat.le_of_ble_eq_true rfl)⟩ ⟨(Nat.le_of_ble_eq_true rfl), (Nat.le_of_ble_eq_true rfl)⟩
  | some b2 =>
    have hb2 : oT κ.2.2.2.2 b2 = 1 := hr1 b2 rfl
    refine lv_ifnonnull (tgt := 20) C.x C.b dX11_put_7 (by decide) ?_
    refine lv_aload_n C.x C.b dX11_put_20 rfl (lv_at hl 1 rfl) ?_
    refine cg_X11_1 C hP cw_874 dX11_put_21 ?_
    refine lv_aload_n C.x C.b dX11_put_24 rfl (lv_at hl 1 rfl) ?_
    refine cg_X11_1 C hP cw_874 dX11_put_25 ?_
    refine cg_X8_0 C hP cw_946 dX11_put_28 ?_
    refine c_callVv (n := 1) (As := [.ref (ad 20)]) (rest := []) C hP hS hl.1 (NX8_begin l D cy ad A sz0 sa κ H.size (SLT H) C.f (fun q h => C.a q (Nat.le_trans hS.1 h)) (ad 20) hSV.a20 hSV) ⟨cw_962, cw_693, by decide +kernel⟩ ⟨cw_963, cw_964, cw_705⟩ rfl (hP.recvS (k := 3) (ci := 10) C.K rfl rfl) rfl rfl (lv_room (Nat.le_of_ble_eq_true rfl)) ⟨Nat.le_of_ble_eq_true rfl, Nat.le_of_ble_eq_true rfl⟩ ⟨(Nat.le_of_ble_eq_true rfl), (Nat.le_of_ble_eq_true rfl)⟩ dX11_put_31 (fun u H locs hr3 hP hS => ?_)
    obtain ⟨n4, o5⟩ := u
    have hP : CH D cy ad A (tR (tI κ 9 n4) 1 o5) H := hP
    have hr3 : (SV ad κ.2.2.2.2 (κ.2.1 0) o5 (κ.2.2.2.1 6) (κ.2.2.2.1 7) (κ.2.2.2.1 8) (κ.2.2.2.1 13) (κ.2.2.2.1 15) (κ.2.2.2.1 17) (κ.1 1).toInt) := hr3
    refine lv_aload_n C.x C.b dX11_put_34 rfl (lv_at hl 1 rfl) ?_
    refine cg_X11_1 C hP cw_874 dX11_put_35 ?_
    refine lv_aload_n C.x C.b dX11_put_38 rfl (lv_at hl 0 rfl) ?_
    refine lv_iload_n C.x C.b dX11_put_39 rfl (lv_at hl 3 rfl) ?_
    refine lv_aload_n C.x C.b dX11_put_40 rfl (lv_at hl 1 rfl) ?_
    obtain ⟨o6, eo6, ho6⟩ := hr3.n0
    refine cg_X11_8 (v := some o6) C hP eo6 cw_881 dX11_put_41 ?_
    refine c_callNq (n := 3) (As := [.ref b2, .int k1, .ref o6]) (rest := []) C hP hS hl.1 (NX8_setField l D cy ad A sz0 sa (tR (tI κ 9 n4) 1 o5) H.size (SLT H) C.f (fun q h => C.a q (Nat.le_trans hS.1 h)) b2 k1 o6 hb2 ho6 hPV hr3) ⟨cw_854, by decide +kernel⟩ C.t.2.2.2.2.2.2 ⟨cw_852, cw_853, cw_705⟩ rfl (hP.recvS (k := 3) (ci := 10) C.K rfl rfl) rfl rfl (lv_room (Nat.le_of_ble_eq_true rfl)) ⟨Nat.le_of_ble_eq_true rfl, Nat.le_of_ble_eq_true rfl⟩ ⟨(Nat.le_of_ble_eq_true rfl), (Nat.le_of_ble_eq_true rfl)⟩ dX11_put_44 (fun r7 u H locs hr7 hP hS => ?_)
    obtain ⟨n8, P9⟩ := u
    have hP : CH D cy ad A (tP (tI (tR (tI κ 9 n4) 1 o5) 9 n8) P9) H := hP
    have hr7 : (EX κ.2.2.2.2 P9) ∧ (PV sa P9) ∧ (SV ad P9 (κ.2.1 0) o5 (κ.2.2.2.1 6) (κ.2.2.2.1 7) (κ.2.2.2.1 8) (κ.2.2.2.1 13) (κ.2.2.2.1 15) (κ.2.2.2.1 17) (κ.1 1).toInt) ∧ (NT P9 1 r7) := hr7
    obtain ⟨hr7_0, hr7_1, hr7_2, hr7_3⟩ := hr7
    refine lv_pop C.x C.b dX11_put_47 va_cat ?_
    refine lv_aload_n C.x C.b dX11_put_48 rfl (lv_at hl 1 rfl) ?_
    refine cg_X11_1 C hP cw_874 dX11_put_49 ?_
    refine cg_X8_7 (v := n8) C hP rfl cw_957 dX11_put_52 ?_
    have hP : CH D cy ad A (tR (tI (tP κ P9) 9 n8) 1 o5) H := CH.cong hP rfl rfl rfl rfl rfl rfl rfl rfl rfl rfl rfl rfl rfl rfl rfl rfl rfl rfl rfl rfl rfl rfl rfl rfl rfl rfl rfl
    refine vx_ret ?_
    exact c_reti C hsz hsl ⟨P9, n8, o5⟩ ⟨hr7_0, hr7_1, hr7_2⟩ hP hS ⟨(Nat.le_of_ble_eq_true rfl), (Nat.le_of_ble_eq_true rfl)⟩ ⟨(Nat.le_of_ble_eq_true rfl), (Nat.le_of_ble_eq_true rfl)⟩ dX11_put_55

-- xpost @63
theorem vX11_run_1 (κ : KS) (hpre_0 : 0 ≤ (κ.1 8).toInt) (hpre_1 : (κ.1 8).toInt ≤ 12) : 0 ≤ (κ.1 8).toInt ∧ (κ.1 8).toInt ≤ 12 := by
  refine ⟨?_, ?_⟩ <;> first | assumption | omega | (subst_vars; omega) | trivial
-- in@26 @26
theorem vX11_run_2 (κ : KS) (k0 : Int32) (hpre_2 : 0 ≤ (κ.1 0).toInt) (hpre_3 : (κ.1 0).toInt ≤ 40) (c1 : 0 ≤ k0.toInt) (c4 : k0.toInt < (κ.1 0).toInt) (c8 : k0.toInt < 40) : vp_in k0 40 := by
  exact vp_in_iff.mpr ⟨by omega, by omega⟩
-- pre:X8_eval@88 @88
theorem vX11_run_3 (κ : KS) (hpre_0 : 0 ≤ (κ.1 8).toInt) (hpre_1 : (κ.1 8).toInt ≤ 12) : 0 ≤ (κ.1 8).toInt ∧ (κ.1 8).toInt ≤ 12 ∧ 0 ≤ (0 : Int32).toInt ∧ (0 : Int32).toInt ≤ 41 ∧ 41 ≤ (0 : Int32).toInt + ((41 : Nat) : Int) := by
  have q0 : (0 : Int32).toInt = 0 := by decide +kernel
  refine ⟨?_, ?_, ?_, ?_, ?_⟩ <;> first | assumption | omega | (subst_vars; omega) | trivial
-- room @88
theorem vX11_run_4 (κ : KS) (k0 : Int32) (b14 : Nat) (hpre_2 : 0 ≤ (κ.1 0).toInt) (hpre_3 : (κ.1 0).toInt ≤ 40) (hpre_4 : QC κ.2.2.2.2 (κ.2.2.2.1 6)) (c1 : 0 ≤ k0.toInt) (c4 : k0.toInt < (κ.1 0).toInt) (c8 : k0.toInt < 40) (ex11 : (some b14) = (κ.2.2.2.1 6) k0.toNatClampNeg) (qcx11 : cto κ.2.2.2.2 (some b14) ≤ 82) : 0 + 0 + 0 + (13 * cto κ.2.2.2.2 (some b14)) ≤ 1066 := by
  first | assumption | omega | (subst_vars; omega) | trivial
-- room @88
theorem vX11_run_5 (κ : KS) (k0 : Int32) (b14 : Nat) (hpre_2 : 0 ≤ (κ.1 0).toInt) (hpre_3 : (κ.1 0).toInt ≤ 40) (hpre_4 : QC κ.2.2.2.2 (κ.2.2.2.1 6)) (c1 : 0 ≤ k0.toInt) (c4 : k0.toInt < (κ.1 0).toInt) (c8 : k0.toInt < 40) (ex11 : (some b14) = (κ.2.2.2.1 6) k0.toNatClampNeg) (qcx11 : cto κ.2.2.2.2 (some b14) ≤ 82) : 0 + 0 + 0 + (120 * cto κ.2.2.2.2 (some b14)) ≤ 9840 := by
  first | assumption | omega | (subst_vars; omega) | trivial
-- post @121
theorem vX11_run_6 (n20 : Int32) (hr19_4_0 : 0 ≤ n20.toInt) (hr19_4_1 : n20.toInt ≤ 12) : 0 ≤ n20.toInt ∧ n20.toInt ≤ 12 := by
  refine ⟨?_, ?_⟩ <;> first | assumption | omega | (subst_vars; omega) | trivial
-- grow @121
theorem vX11_run_7 (κ : KS) (k0 : Int32) (b14 : Nat) (P27 : PL) (hpre_2 : 0 ≤ (κ.1 0).toInt) (hpre_3 : (κ.1 0).toInt ≤ 40) (hpre_4 : QC κ.2.2.2.2 (κ.2.2.2.1 6)) (c1 : 0 ≤ k0.toInt) (c4 : k0.toInt < (κ.1 0).toInt) (c8 : k0.toInt < 40) (ex11 : (some b14) = (κ.2.2.2.1 6) k0.toNatClampNeg) (qcx11 : cto κ.2.2.2.2 (some b14) ≤ 82) (kc28 : cto P27 (some b14) = cto κ.2.2.2.2 (some b14)) : 0 + 0 + 0 + (13 * cto κ.2.2.2.2 (some b14)) ≤ 1066 := by
  first | assumption | omega | (subst_vars; omega) | trivial
-- grow @121
theorem vX11_run_8 (κ : KS) (k0 : Int32) (b14 : Nat) (P27 : PL) (hpre_2 : 0 ≤ (κ.1 0).toInt) (hpre_3 : (κ.1 0).toInt ≤ 40) (hpre_4 : QC κ.2.2.2.2 (κ.2.2.2.1 6)) (c1 : 0 ≤ k0.toInt) (c4 : k0.toInt < (κ.1 0).toInt) (c8 : k0.toInt < 40) (ex11 : (some b14) = (κ.2.2.2.1 6) k0.toNatClampNeg) (qcx11 : cto κ.2.2.2.2 (some b14) ≤ 82) (kc28 : cto P27 (some b14) = cto κ.2.2.2.2 (some b14)) : 0 + 0 + 0 + (120 * cto κ.2.2.2.2 (some b14)) ≤ 9840 := by
  first | assumption | omega | (subst_vars; omega) | trivial
-- room @88
theorem vX11_run_9 (κ : KS) (k0 : Int32) (b32 : Nat) (hpre_2 : 0 ≤ (κ.1 0).toInt) (hpre_3 : (κ.1 0).toInt ≤ 40) (hpre_4 : QC κ.2.2.2.2 (κ.2.2.2.1 6)) (c1 : 0 ≤ k0.toInt) (c4 : k0.toInt < (κ.1 0).toInt) (c8 : k0.toInt < 40) (ex11 : (some b32) = (κ.2.2.2.1 6) k0.toNatClampNeg) (qcx11 : cto κ.2.2.2.2 (some b32) ≤ 82) : 0 + 0 + (13 * cto κ.2.2.2.2 (some b32)) ≤ 1066 := by
  first | assumption | omega | (subst_vars; omega) | trivial
-- room @88
theorem vX11_run_10 (κ : KS) (k0 : Int32) (b32 : Nat) (hpre_2 : 0 ≤ (κ.1 0).toInt) (hpre_3 : (κ.1 0).toInt ≤ 40) (hpre_4 : QC κ.2.2.2.2 (κ.2.2.2.1 6)) (c1 : 0 ≤ k0.toInt) (c4 : k0.toInt < (κ.1 0).toInt) (c8 : k0.toInt < 40) (ex11 : (some b32) = (κ.2.2.2.1 6) k0.toNatClampNeg) (qcx11 : cto κ.2.2.2.2 (some b32) ≤ 82) : 0 + 0 + (120 * cto κ.2.2.2.2 (some b32)) ≤ 9840 := by
  first | assumption | omega | (subst_vars; omega) | trivial
-- post @121
theorem vX11_run_11 (n37 : Int32) (hr36_4_0 : 0 ≤ n37.toInt) (hr36_4_1 : n37.toInt ≤ 12) : 0 ≤ n37.toInt ∧ n37.toInt ≤ 12 := by
  refine ⟨?_, ?_⟩ <;> first | assumption | omega | (subst_vars; omega) | trivial
-- grow @121
theorem vX11_run_12 (κ : KS) (k0 : Int32) (b32 : Nat) (P44 : PL) (hpre_2 : 0 ≤ (κ.1 0).toInt) (hpre_3 : (κ.1 0).toInt ≤ 40) (hpre_4 : QC κ.2.2.2.2 (κ.2.2.2.1 6)) (c1 : 0 ≤ k0.toInt) (c4 : k0.toInt < (κ.1 0).toInt) (c8 : k0.toInt < 40) (ex11 : (some b32) = (κ.2.2.2.1 6) k0.toNatClampNeg) (qcx11 : cto κ.2.2.2.2 (some b32) ≤ 82) (kc45 : cto P44 (some b32) = cto κ.2.2.2.2 (some b32)) : 0 + 0 + (13 * cto κ.2.2.2.2 (some b32)) ≤ 1066 := by
  first | assumption | omega | (subst_vars; omega) | trivial
-- grow @121
theorem vX11_run_13 (κ : KS) (k0 : Int32) (b32 : Nat) (P44 : PL) (hpre_2 : 0 ≤ (κ.1 0).toInt) (hpre_3 : (κ.1 0).toInt ≤ 40) (hpre_4 : QC κ.2.2.2.2 (κ.2.2.2.1 6)) (c1 : 0 ≤ k0.toInt) (c4 : k0.toInt < (κ.1 0).toInt) (c8 : k0.toInt < 40) (ex11 : (some b32) = (κ.2.2.2.1 6) k0.toNatClampNeg) (qcx11 : cto κ.2.2.2.2 (some b32) ≤ 82) (kc45 : cto P44 (some b32) = cto κ.2.2.2.2 (some b32)) : 0 + 0 + (120 * cto κ.2.2.2.2 (some b32)) ≤ 9840 := by
  first | assumption | omega | (subst_vars; omega) | trivial
set_option maxHeartbeats 4000000 in
set_option maxRecDepth 100000 in
theorem NX11_run (l : Launch) (D : va_G) (cy : Nat → ClassId) (ad : Nat → Nat) (A : Nat → Prop) (sz0 : Nat) (sa : Nat → Nat) (hfl : l.stackTraces = false) (κ : KS) (sz sl : Nat) (hAF : ∀ q, A q → Fr sz0 q) (hAn : ∀ q : Nat, sz ≤ q → A q) (k0 : Int32) (k1 : Int32) (hPV : PV sa κ.2.2.2.2) (hSV : SV ad κ.2.2.2.2 (κ.2.1 0) (κ.2.1 1) (κ.2.2.2.1 6) (κ.2.2.2.1 7) (κ.2.2.2.1 8) (κ.2.2.2.1 13) (κ.2.2.2.1 15) (κ.2.2.2.1 17) (κ.1 1).toInt) (hpre : 0 ≤ (κ.1 8).toInt ∧ (κ.1 8).toInt ≤ 12 ∧ 0 ≤ (κ.1 0).toInt ∧ (κ.1 0).toInt ≤ 40 ∧ QC κ.2.2.2.2 (κ.2.2.2.1 6)) : vx_Met l yX11_run (Cond.code yX11_run cX11_run 6 (some .int) :: GWc) ({ frames := 195, cells := 1066, slots := 9840, locals := 8922 }) (PcC D cy ad A sz0 sa [.ref (ad 0), .int k0, .int k1] κ sz sl) (va_Qi (fun (r : Int32) (u : Int32 × Int32 × Int32 × Int32 × (Nat → Int32) × (Nat → Option Nat) × (Nat → Option Nat) × PL × Option Nat × Option Nat) => (EX κ.2.2.2.2 u.2.2.2.2.2.2.2.1) ∧ (PV sa u.2.2.2.2.2.2.2.1) ∧ (SV ad u.2.2.2.2.2.2.2.1 u.2.2.2.2.2.2.2.2.1 u.2.2.2.2.2.2.2.2.2 (κ.2.2.2.1 6) (κ.2.2.2.1 7) (κ.2.2.2.1 8) (κ.2.2.2.1 13) u.2.2.2.2.2.1 u.2.2.2.2.2.2.1 (κ.1 1).toInt) ∧ (0 ≤ u.1.toInt ∧ u.1.toInt ≤ 12)) (fun (u : Int32 × Int32 × Int32 × Int32 × (Nat → Int32) × (Nat → Option Nat) × (Nat → Option Nat) × PL × Option Nat × Option Nat) (t : State) => Bx D cy ad A sz sl (tR (tR (tP (tQ (tQ (tA (tI (tI (tI (tI κ 8 u.1) 9 u.2.1) 10 u.2.2.1) 11 u.2.2.2.1) 16 u.2.2.2.2.1) 15 u.2.2.2.2.2.1) 17 u.2.2.2.2.2.2.1) u.2.2.2.2.2.2.2.1) 0 u.2.2.2.2.2.2.2.2.1) 1 u.2.2.2.2.2.2.2.2.2) (1066) (9840) t) A) (TX D cy ad A (fun (E : String) (u : Int32 × Int32 × Int32 × Int32 × (Nat → Int32) × (Nat → Option Nat) × (Nat → Option Nat) × PL × Option Nat × Option Nat) => (EX κ.2.2.2.2 u.2.2.2.2.2.2.2.1) ∧ (PV sa u.2.2.2.2.2.2.2.1) ∧ (SV ad u.2.2.2.2.2.2.2.1 u.2.2.2.2.2.2.2.2.1 u.2.2.2.2.2.2.2.2.2 (κ.2.2.2.1 6) (κ.2.2.2.1 7) (κ.2.2.2.1 8) (κ.2.2.2.1 13) u.2.2.2.2.2.1 u.2.2.2.2.2.2.1 (κ.1 1).toInt) ∧ ((E = tIAE ∧ (True)) ∨ (E = tISE ∧ (False))) ∧ (0 ≤ u.1.toInt ∧ u.1.toInt ≤ 12)) (fun (u : Int32 × Int32 × Int32 × Int32 × (Nat → Int32) × (Nat → Option Nat) × (Nat → Option Nat) × PL × Option Nat × Option Nat) => (tR (tR (tP (tQ (tQ (tA (tI (tI (tI (tI κ 8 u.1) 9 u.2.1) 10 u.2.2.1) 11 u.2.2.2.1) 16 u.2.2.2.2.1) 15 u.2.2.2.2.2.1) 17 u.2.2.2.2.2.2.1) u.2.2.2.2.2.2.2.1) 0 u.2.2.2.2.2.2.2.2.1) 1 u.2.2.2.2.2.2.2.2.2))) (1066) (9840) A := by
  refine CM_ofX (loc0 := [(0, .ref (ad 0)), (1, .int k0), (2, .int k1)]) (own := RX11) (nm := "run") (by decide) rfl rfl rfl (Nat.le_of_ble_eq_true rfl) hAF hAn ?_
  intro p e s m below meth c ls hsz hsl hout C hP hS hl
  obtain ⟨hpre_0, hpre_1, hpre_2, hpre_3, hpre_4⟩ := hpre
  refine lv_iload_n C.x C.b dX11_run_0 rfl (lv_at hl 1 rfl) ?_
  refine lv_if_lt (tgt := 30) C.x C.b dX11_run_1 (by decide) (fun c1 => ?_) (fun c1 => ?_)
  · have c1 : k0.toInt < 0 := by have h := z_lt c1; rw [show (0 : Int32).toInt = 0 from by decide +kernel] at h; exact h
    refine lv_null C.x C.b dX11_run_30 ?_
    refine lv_astore_nN (lv' := [(3, .null), (0, .ref (ad 0)), (1, .int k0), (2, .int k1)]) C.x C.b dX11_run_31 rfl hl (by decide) rfl (fun ls hl => ?_)
    refine lv_iload_n C.x C.b dX11_run_32 rfl (lv_at hl 3 rfl) ?_
    refine lv_iconst (v := (-1)) C.x C.b dX11_run_33 (by decide +kernel) ?_
    refine lv_icmp_ne (tgt := 47) C.x C.b dX11_run_34 (by decide) (fun c2 => ?_) (fun c2 => ?_)
    · have c2 : ¬ k1.toInt = (-1) := by have h := z_ne c2; rw [show ((-1) : Int32).toInt = -1 from by decide +kernel] at h; exact h
      refine lv_aload_n C.x C.b dX11_run_47 rfl (lv_at hl 1 rfl) ?_
      refine lv_iload_n C.x C.b dX11_run_48 rfl (lv_at hl 3 rfl) ?_
      refine c_callVq (n := 1) (As := [.int k1]) (rest := []) C hP hS hl.1 (NX11_objectAt l D cy ad A sz0 sa κ s.heap.size (SLT s.heap) C.f (fun q h => C.a q (Nat.le_trans hS.1 h)) k1 hPV hSV) ⟨cw_958, cw_961, by decide +kernel⟩ ⟨cw_959, cw_960, cw_910⟩ rfl (hP.recvS (k := 0) (ci := 13) C.K rfl rfl) rfl rfl (lv_room (Nat.le_of_ble_eq_true rfl)) ⟨Nat.le_of_ble_eq_true rfl, Nat.le_of_ble_eq_true rfl⟩ ⟨(Nat.le_of_ble_eq_true rfl), (Nat.le_of_ble_eq_true rfl)⟩ dX11_run_49 (fun r3 u H locs hr3 hP hS => ?_)
      have hr3 : (NT κ.2.2.2.2 1 r3) := hr3
      refine lq_astore (lv' := [(4, va_rf r3), (3, .null), (0, .ref (ad 0)), (1, .int k0), (2, .int k1)]) C.x C.b dX11_run_52 hl (by decide) (by cases r3 <;> rfl) (fun ls hl => ?_)
      refine lv_aload_nN C.x C.b dX11_run_54 rfl (lv_at hl 1 rfl) ?_
      refine lv_ifnullN (tgt := 63) C.x C.b dX11_run_55 (by decide) ?_
      have hP : CH D cy ad A (tR (tR (tP (tQ (tQ (tA (tI (tI (tI (tI κ 8 (κ.1 8)) 9 (κ.1 9)) 10 (κ.1 10)) 11 (κ.1 11)) 16 (κ.2.2.1 16)) 15 (κ.2.2.2.1 15)) 17 (κ.2.2.2.1 17)) κ.2.2.2.2) 0 (κ.2.1 0)) 1 (κ.2.1 1)) H := CH.cong hP rfl rfl rfl rfl rfl rfl rfl rfl rfl rfl rfl rfl rfl rfl rfl rfl rfl rfl rfl rfl rfl rfl rfl rfl rfl rfl rfl
      exact c_iae C hfl hout ⟨(κ.1 8), (κ.1 9), (κ.1 10), (κ.1 11), (κ.2.2.1 16), (κ.2.2.2.1 15), (κ.2.2.2.1 17), κ.2.2.2.2, (κ.2.1 0), (κ.2.1 1)⟩ ⟨EX.rf, hPV, hSV, (Or.inl ⟨rfl, trivial⟩), (vX11_run_1 κ hpre_0 hpre_1)⟩ hP hS hl.1 cw_888 cw_889 (is := 181) (text := "there is no such program or object") (by decide +kernel) dX11_run_63 dX11_run_66 dX11_run_67 dX11_run_69 dX11_run_72 (Nat.le_of_ble_eq_true rfl) (Nat.le_of_ble_eq_true rfl) ⟨(Nat.le_of_ble_eq_true rfl), (Nat.le_of_ble_eq_true rfl)⟩ ⟨(Nat.le_of_ble_eq_true rfl), (Nat.le_of_ble_eq_true rfl)⟩
    · have c2 : k1.toInt = (-1) := by have h := z_eq c2; rw [show ((-1) : Int32).toInt = -1 from by decide +kernel] at h; exact h
      refine lv_aload_n C.x C.b dX11_run_37 rfl (lv_at hl 1 rfl) ?_
      refine cg_X11_1 C hP cw_874 dX11_run_38 ?_
      refine cg_X8_0 C hP cw_946 dX11_run_41 ?_
      refine lv_goto (tgt := 52) C.x C.b dX11_run_44 (by decide) ?_
      refine lv_astore (lv' := [(4, .ref (ad 20)), (3, .null), (0, .ref (ad 0)), (1, .int k0), (2, .int k1)]) C.x C.b dX11_run_52 hl (by decide) rfl (fun ls hl => ?_)
      refine lv_aload_nN C.x C.b dX11_run_54 rfl (lv_at hl 1 rfl) ?_
      refine lv_ifnullN (tgt := 63) C.x C.b dX11_run_55 (by decide) ?_
      have hP : CH D cy ad A (tR (tR (tP (tQ (tQ (tA (tI (tI (tI (tI κ 8 (κ.1 8)) 9 (κ.1 9)) 10 (κ.1 10)) 11 (κ.1 11)) 16 (κ.2.2.1 16)) 15 (κ.2.2.2.1 15)) 17 (κ.2.2.2.1 17)) κ.2.2.2.2) 0 (κ.2.1 0)) 1 (κ.2.1 1)) s.heap := CH.cong hP rfl rfl rfl rfl rfl rfl rfl rfl rfl rfl rfl rfl rfl rfl rfl rfl rfl rfl rfl rfl rfl rfl rfl rfl rfl rfl rfl
      exact c_iae C hfl hout ⟨(κ.1 8), (κ.1 9), (κ.1 10), (κ.1 11), (κ.2.2.1 16), (κ.2.2.2.1 15), (κ.2.2.2.1 17), κ.2.2.2.2, (κ.2.1 0), (κ.2.1 1)⟩ ⟨EX.rf, hPV, hSV, (Or.inl ⟨rfl, trivial⟩), (vX11_run_1 κ hpre_0 hpre_1)⟩ hP hS hl.1 cw_888 cw_889 (is := 181) (text := "there is no such program or object") (by decide +kernel) dX11_run_63 dX11_run_66 dX11_run_67 dX11_run_69 dX11_run_72 (Nat.le_of_ble_eq_true rfl) (Nat.le_of_ble_eq_true rfl) ⟨(Nat.le_of_ble_eq_true rfl), (Nat.le_of_ble_eq_true rfl)⟩ ⟨(Nat.le_of_ble_eq_true rfl), (Nat.le_of_ble_eq_true rfl)⟩
  · have c1 : 0 ≤ k0.toInt := by have h := z_nlt c1; rw [show (0 : Int32).toInt = 0 from by decide +kernel] at h; exact h
    refine lv_iload_n C.x C.b dX11_run_4 rfl (lv_at hl 1 rfl) ?_
    refine lv_aload_n C.x C.b dX11_run_5 rfl (lv_at hl 0 rfl) ?_
    refine cg_X11_3 (v := (κ.1 0)) C hP rfl cw_898 dX11_run_6 ?_
    refine lv_icmp_ge (tgt := 30) C.x C.b dX11_run_9 (by decide) (fun c4 => ?_) (fun c4 => ?_)
    · have c4 : (κ.1 0).toInt ≤ k0.toInt := by have h := z_le c4; exact h
      refine lv_null C.x C.b dX11_run_30 ?_
      refine lv_astore_nN (lv' := [(3, .null), (0, .ref (ad 0)), (1, .int k0), (2, .int k1)]) C.x C.b dX11_run_31 rfl hl (by decide) rfl (fun ls hl => ?_)
      refine lv_iload_n C.x C.b dX11_run_32 rfl (lv_at hl 3 rfl) ?_
      refine lv_iconst (v := (-1)) C.x C.b dX11_run_33 (by decide +kernel) ?_
      refine lv_icmp_ne (tgt := 47) C.x C.b dX11_run_34 (by decide) (fun c5 => ?_) (fun c5 => ?_)
      · have c5 : ¬ k1.toInt = (-1) := by have h := z_ne c5; rw [show ((-1) : Int32).toInt = -1 from by decide +kernel] at h; exact h
        refine lv_aload_n C.x C.b dX11_run_47 rfl (lv_at hl 1 rfl) ?_
        refine lv_iload_n C.x C.b dX11_run_48 rfl (lv_at hl 3 rfl) ?_
        refine c_callVq (n := 1) (As := [.int k1]) (rest := []) C hP hS hl.1 (NX11_objectAt l D cy ad A sz0 sa κ s.heap.size (SLT s.heap) C.f (fun q h => C.a q (Nat.le_trans hS.1 h)) k1 hPV hSV) ⟨cw_958, cw_961, by decide +kernel⟩ ⟨cw_959, cw_960, cw_910⟩ rfl (hP.recvS (k := 0) (ci := 13) C.K rfl rfl) rfl rfl (lv_room (Nat.le_of_ble_eq_true rfl)) ⟨Nat.le_of_ble_eq_true rfl, Nat.le_of_ble_eq_true rfl⟩ ⟨(Nat.le_of_ble_eq_true rfl), (Nat.le_of_ble_eq_true rfl)⟩ dX11_run_49 (fun r6 u H locs hr6 hP hS => ?_)
        have hr6 : (NT κ.2.2.2.2 1 r6) := hr6
        refine lq_astore (lv' := [(4, va_rf r6), (3, .null), (0, .ref (ad 0)), (1, .int k0), (2, .int k1)]) C.x C.b dX11_run_52 hl (by decide) (by cases r6 <;> rfl) (fun ls hl => ?_)
        refine lv_aload_nN C.x C.b dX11_run_54 rfl (lv_at hl 1 rfl) ?_
        refine lv_ifnullN (tgt := 63) C.x C.b dX11_run_55 (by decide) ?_
        have hP : CH D cy ad A (tR (tR (tP (tQ (tQ (tA (tI (tI (tI (tI κ 8 (κ.1 8)) 9 (κ.1 9)) 10 (κ.1 10)) 11 (κ.1 11)) 16 (κ.2.2.1 16)) 15 (κ.2.2.2.1 15)) 17 (κ.2.2.2.1 17)) κ.2.2.2.2) 0 (κ.2.1 0)) 1 (κ.2.1 1)) H := CH.cong hP rfl rfl rfl rfl rfl rfl rfl rfl rfl rfl rfl rfl rfl rfl rfl rfl rfl rfl rfl rfl rfl rfl rfl rfl rfl rfl rfl
        exact c_iae C hfl hout ⟨(κ.1 8), (κ.1 9), (κ.1 10), (κ.1 11), (κ.2.2.1 16), (κ.2.2.2.1 15), (κ.2.2.2.1 17), κ.2.2.2.2, (κ.2.1 0), (κ.2.1 1)⟩ ⟨EX.rf, hPV, hSV, (Or.inl ⟨rfl, trivial⟩), (vX11_run_1 κ hpre_0 hpre_1)⟩ hP hS hl.1 cw_888 cw_889 (is := 181) (text := "there is no such program or object") (by decide +kernel) dX11_run_63 dX11_run_66 dX11_run_67 dX11_run_69 dX11_run_72 (Nat.le_of_ble_eq_true rfl) (Nat.le_of_ble_eq_true rfl) ⟨(Nat.le_of_ble_eq_true rfl), (Nat.le_of_ble_eq_true rfl)⟩ ⟨(Nat.le_of_ble_eq_true rfl), (Nat.le_of_ble_eq_true rfl)⟩
      · have c5 : k1.toInt = (-1) := by have h := z_eq c5; rw [show ((-1) : Int32).toInt = -1 from by decide +kernel] at h; exact h
        refine lv_aload_n C.x C.b dX11_run_37 rfl (lv_at hl 1 rfl) ?_
        refine cg_X11_1 C hP cw_874 dX11_run_38 ?_
        refine cg_X8_0 C hP cw_946 dX11_run_41 ?_
        refine lv_goto (tgt := 52) C.x C.b dX11_run_44 (by decide) ?_
        refine lv_astore (lv' := [(4, .ref (ad 20)), (3, .null), (0, .ref (ad 0)), (1, .int k0), (2, .int k1)]) C.x C.b dX11_run_52 hl (by decide) rfl (fun ls hl => ?_)
        refine lv_aload_nN C.x C.b dX11_run_54 rfl (lv_at hl 1 rfl) ?_
        refine lv_ifnullN (tgt := 63) C.x C.b dX11_run_55 (by decide) ?_
        have hP : CH D cy ad A (tR (tR (tP (tQ (tQ (tA (tI (tI (tI (tI κ 8 (κ.1 8)) 9 (κ.1 9)) 10 (κ.1 10)) 11 (κ.1 11)) 16 (κ.2.2.1 16)) 15 (κ.2.2.2.1 15)) 17 (κ.2.2.2.1 17)) κ.2.2.2.2) 0 (κ.2.1 0)) 1 (κ.2.1 1)) s.heap := CH.cong hP rfl rfl rfl rfl rfl rfl rfl rfl rfl rfl rfl rfl rfl rfl rfl rfl rfl rfl rfl rfl rfl rfl rfl rfl rfl rfl rfl
        exact c_iae C hfl hout ⟨(κ.1 8), (κ.1 9), (κ.1 10), (κ.1 11), (κ.2.2.1 16), (κ.2.2.2.1 15), (κ.2.2.2.1 17), κ.2.2.2.2, (κ.2.1 0), (κ.2.1 1)⟩ ⟨EX.rf, hPV, hSV, (Or.inl ⟨rfl, trivial⟩), (vX11_run_1 κ hpre_0 hpre_1)⟩ hP hS hl.1 cw_888 cw_889 (is := 181) (text := "there is no such program or object") (by decide +kernel) dX11_run_63 dX11_run_66 dX11_run_67 dX11_run_69 dX11_run_72 (Nat.le_of_ble_eq_true rfl) (Nat.le_of_ble_eq_true rfl) ⟨(Nat.le_of_ble_eq_true rfl), (Nat.le_of_ble_eq_true rfl)⟩ ⟨(Nat.le_of_ble_eq_true rfl), (Nat.le_of_ble_eq_true rfl)⟩
    · have c4 : k0.toInt < (κ.1 0).toInt := by have h := z_nle c4; exact h
      refine lv_iload_n C.x C.b dX11_run_12 rfl (lv_at hl 1 rfl) ?_
      refine lv_aload_n C.x C.b dX11_run_13 rfl (lv_at hl 0 rfl) ?_
      refine cg_X11_2 C hP cw_876 dX11_run_14 ?_
      refine cl_6 C hP dX11_run_17 ?_
      refine lv_icmp_ge (tgt := 30) C.x C.b dX11_run_18 (by decide) (fun c8 => ?_) (fun c8 => ?_)
      · have c8 : 40 ≤ k0.toInt := by have h := z_le c8; rw [show (40 : Int32).toInt = 40 from by decide +kernel] at h; exact h
        refine lv_null C.x C.b dX11_run_30 ?_
        refine lv_astore_nN (lv' := [(3, .null), (0, .ref (ad 0)), (1, .int k0), (2, .int k1)]) C.x C.b dX11_run_31 rfl hl (by decide) rfl (fun ls hl => ?_)
        refine lv_iload_n C.x C.b dX11_run_32 rfl (lv_at hl 3 rfl) ?_
        refine lv_iconst (v := (-1)) C.x C.b dX11_run_33 (by decide +kernel) ?_
        refine lv_icmp_ne (tgt := 47) C.x C.b dX11_run_34 (by decide) (fun c9 => ?_) (fun c9 => ?_)
        · have c9 : ¬ k1.toInt = (-1) := by have h := z_ne c9; rw [show ((-1) : Int32).toInt = -1 from by decide +kernel] at h; exact h
          refine lv_aload_n C.x C.b dX11_run_47 rfl (lv_at hl 1 rfl) ?_
          refine lv_iload_n C.x C.b dX11_run_48 rfl (lv_at hl 3 rfl) ?_
          refine c_callVq (n := 1) (As := [.int k1]) (rest := []) C hP hS hl.1 (NX11_objectAt l D cy ad A sz0 sa κ s.heap.size (SLT s.heap) C.f (fun q h => C.a q (Nat.le_trans hS.1 h)) k1 hPV hSV) ⟨cw_958, cw_961, by decide +kernel⟩ ⟨cw_959, cw_960, cw_910⟩ rfl (hP.recvS (k := 0) (ci := 13) C.K rfl rfl) rfl rfl (lv_room (Nat.le_of_ble_eq_true rfl)) ⟨Nat.le_of_ble_eq_true rfl, Nat.le_of_ble_eq_true rfl⟩ ⟨(Nat.le_of_ble_eq_true rfl), (Nat.le_of_ble_eq_true rfl)⟩ dX11_run_49 (fun r10 u H locs hr10 hP hS => ?_)
          have hr10 : (NT κ.2.2.2.2 1 r10) := hr10
          refine lq_astore (lv' := [(4, va_rf r10), (3, .null), (0, .ref (ad 0)), (1, .int k0), (2, .int k1)]) C.x C.b dX11_run_52 hl (by decide) (by cases r10 <;> rfl) (fun ls hl => ?_)
          refine lv_aload_nN C.x C.b dX11_run_54 rfl (lv_at hl 1 rfl) ?_
          refine lv_ifnullN (tgt := 63) C.x C.b dX11_run_55 (by decide) ?_
          have hP : CH D cy ad A (tR (tR (tP (tQ (tQ (tA (tI (tI (tI (tI κ 8 (κ.1 8)) 9 (κ.1 9)) 10 (κ.1 10)) 11 (κ.1 11)) 16 (κ.2.2.1 16)) 15 (κ.2.2.2.1 15)) 17 (κ.2.2.2.1 17)) κ.2.2.2.2) 0 (κ.2.1 0)) 1 (κ.2.1 1)) H := CH.cong hP rfl rfl rfl rfl rfl rfl rfl rfl rfl rfl rfl rfl rfl rfl rfl rfl rfl rfl rfl rfl rfl rfl rfl rfl rfl rfl rfl
          exact c_iae C hfl hout ⟨(κ.1 8), (κ.1 9), (κ.1 10), (κ.1 11), (κ.2.2.1 16), (κ.2.2.2.1 15), (κ.2.2.2.1 17), κ.2.2.2.2, (κ.2.1 0), (κ.2.1 1)⟩ ⟨EX.rf, hPV, hSV, (Or.inl ⟨rfl, trivial⟩), (vX11_run_1 κ hpre_0 hpre_1)⟩ hP hS hl.1 cw_888 cw_889 (is := 181) (text := "there is no such program or object") (by decide +kernel) dX11_run_63 dX11_run_66 dX11_run_67 dX11_run_69 dX11_run_72 (Nat.le_of_ble_eq_true rfl) (Nat.le_of_ble_eq_true rfl) ⟨(Nat.le_of_ble_eq_true rfl), (Nat.le_of_ble_eq_true rfl)⟩ ⟨(Nat.le_of_ble_eq_true rfl), (Nat.le_of_ble_eq_true rfl)⟩
        · have c9 : k1.toInt = (-1) := by have h := z_eq c9; rw [show ((-1) : Int32).toInt = -1 from by decide +kernel] at h; exact h
          refine lv_aload_n C.x C.b dX11_run_37 rfl (lv_at hl 1 rfl) ?_
          refine cg_X11_1 C hP cw_874 dX11_run_38 ?_
          refine cg_X8_0 C hP cw_946 dX11_run_41 ?_
          refine lv_goto (tgt := 52) C.x C.b dX11_run_44 (by decide) ?_
          refine lv_astore (lv' := [(4, .ref (ad 20)), (3, .null), (0, .ref (ad 0)), (1, .int k0), (2, .int k1)]) C.x C.b dX11_run_52 hl (by decide) rfl (fun ls hl => ?_)
          refine lv_aload_nN C.x C.b dX11_run_54 rfl (lv_at hl 1 rfl) ?_
          refine lv_ifnullN (tgt := 63) C.x C.b dX11_run_55 (by decide) ?_
          have hP : CH D cy ad A (tR (tR (tP (tQ (tQ (tA (tI (tI (tI (tI κ 8 (κ.1 8)) 9 (κ.1 9)) 10 (κ.1 10)) 11 (κ.1 11)) 16 (κ.2.2.1 16)) 15 (κ.2.2.2.1 15)) 17 (κ.2.2.2.1 17)) κ.2.2.2.2) 0 (κ.2.1 0)) 1 (κ.2.1 1)) s.heap := CH.cong hP rfl rfl rfl rfl rfl rfl rfl rfl rfl rfl rfl rfl rfl rfl rfl rfl rfl rfl rfl rfl rfl rfl rfl rfl rfl rfl rfl
          exact c_iae C hfl hout ⟨(κ.1 8), (κ.1 9), (κ.1 10), (κ.1 11), (κ.2.2.1 16), (κ.2.2.2.1 15), (κ.2.2.2.1 17), κ.2.2.2.2, (κ.2.1 0), (κ.2.1 1)⟩ ⟨EX.rf, hPV, hSV, (Or.inl ⟨rfl, trivial⟩), (vX11_run_1 κ hpre_0 hpre_1)⟩ hP hS hl.1 cw_888 cw_889 (is := 181) (text := "there is no such program or object") (by decide +kernel) dX11_run_63 dX11_run_66 dX11_run_67 dX11_run_69 dX11_run_72 (Nat.le_of_ble_eq_true rfl) (Nat.le_of_ble_eq_true rfl) ⟨(Nat.le_of_ble_eq_true rfl), (Nat.le_of_ble_eq_true rfl)⟩ ⟨(Nat.le_of_ble_eq_true rfl), (Nat.le_of_ble_eq_true rfl)⟩
      · have c8 : k0.toInt < 40 := by have h := z_nle c8; rw [show (40 : Int32).toInt = 40 from by decide +kernel] at h; exact h
        refine lv_aload_n C.x C.b dX11_run_21 rfl (lv_at hl 0 rfl) ?_
        refine cg_X11_2 C hP cw_876 dX11_run_22 ?_
        refine lv_iload_n C.x C.b dX11_run_25 rfl (lv_at hl 1 rfl) ?_
        refine ca_6 (f := (κ.2.2.2.1 6)) C hP rfl (vX11_run_2 κ k0 hpre_2 hpre_3 c1 c4 c8) dX11_run_26 (fun x11 ex11 => ?_)
        have tx11 : NT κ.2.2.2.2 2 x11 := by rw [ex11]; exact hSV.n6 _
        have qcx11 : cto κ.2.2.2.2 x11 ≤ 82 := by rw [ex11]; exact hpre_4 _
        refine lv_goto (tgt := 31) C.x C.b dX11_run_27 (by decide) ?_
        refine lq_astore_n (lv' := [(3, va_rf x11), (0, .ref (ad 0)), (1, .int k0), (2, .int k1)]) C.x C.b dX11_run_31 rfl hl (by decide) (by cases x11 <;> rfl) (fun ls hl => ?_)
        refine lv_iload_n C.x C.b dX11_run_32 rfl (lv_at hl 3 rfl) ?_
        refine lv_iconst (v := (-1)) C.x C.b dX11_run_33 (by decide +kernel) ?_
        refine lv_icmp_ne (tgt := 47) C.x C.b dX11_run_34 (by decide) (fun c12 => ?_) (fun c12 => ?_)
        · have c12 : ¬ k1.toInt = (-1) := by have h := z_ne c12; rw [show ((-1) : Int32).toInt = -1 from by decide +kernel] at h; exact h
          refine lv_aload_n C.x C.b dX11_run_47 rfl (lv_at hl 1 rfl) ?_
          refine lv_iload_n C.x C.b dX11_run_48 rfl (lv_at hl 3 rfl) ?_
          refine c_callVq (n := 1) (As := [.int k1]) (rest := []) C hP hS hl.1 (NX11_objectAt l D cy ad A sz0 sa κ s.heap.size (SLT s.heap) C.f (fun q h => C.a q (Nat.le_trans hS.1 h)) k1 hPV hSV) ⟨cw_958, cw_961, by decide +kernel⟩ ⟨cw_959, cw_960, cw_910⟩ rfl (hP.recvS (k := 0) (ci := 13) C.K rfl rfl) rfl rfl (lv_room (Nat.le_of_ble_eq_true rfl)) ⟨Nat.le_of_ble_eq_true rfl, Nat.le_of_ble_eq_true rfl⟩ ⟨(Nat.le_of_ble_eq_true rfl), (Nat.le_of_ble_eq_true rfl)⟩ dX11_run_49 (fun r13 u H locs hr13 hP hS => ?_)
          have hr13 : (NT κ.2.2.2.2 1 r13) := hr13
          refine lq_astore (lv' := [(4, va_rf r13), (3, va_rf x11), (0, .ref (ad 0)), (1, .int k0), (2, .int k1)]) C.x C.b dX11_run_52 hl (by decide) (by cases r13 <;> cases x11 <;> rfl) (fun ls hl => ?_)
          refine lq_aload_n C.x C.b dX11_run_54 rfl (lv_at hl 1 rfl) ?_
          cases x11 with
          | none =>
            refine lv_ifnullN (tgt := 63) C.x C.b dX11_run_55 (by decide) ?_
            have hP : CH D cy ad A (tR (tR (tP (tQ (tQ (tA (tI (tI (tI (tI κ 8 (κ.1 8)) 9 (κ.1 9)) 10 (κ.1 10)) 11 (κ.1 11)) 16 (κ.2.2.1 16)) 15 (κ.2.2.2.1 15)) 17 (κ.2.2.2.1 17)) κ.2.2.2.2) 0 (κ.2.1 0)) 1 (κ.2.1 1)) H := CH.cong hP rfl rfl rfl rfl rfl rfl rfl rfl rfl rfl rfl rfl rfl rfl rfl rfl rfl rfl rfl rfl rfl rfl rfl rfl rfl rfl rfl
            exact c_iae C hfl hout ⟨(κ.1 8), (κ.1 9), (κ.1 10), (κ.1 11), (κ.2.2.1 16), (κ.2.2.2.1 15), (κ.2.2.2.1 17), κ.2.2.2.2, (κ.2.1 0), (κ.2.1 1)⟩ ⟨EX.rf, hPV, hSV, (Or.inl ⟨rfl, trivial⟩), (vX11_run_1 κ hpre_0 hpre_1)⟩ hP hS hl.1 cw_888 cw_889 (is := 181) (text := "there is no such program or object") (by decide +kernel) dX11_run_63 dX11_run_66 dX11_run_67 dX11_run_69 dX11_run_72 (Nat.le_of_ble_eq_true rfl) (Nat.le_of_ble_eq_true rfl) ⟨(Nat.le_of_ble_eq_true rfl), (Nat.le_of_ble_eq_true rfl)⟩ ⟨(Nat.le_of_ble_eq_true rfl), (Nat.le_of_ble_eq_true rfl)⟩
          | some b14 =>
            have hb14 : oT κ.2.2.2.2 b14 = 2 := tx11 b14 rfl
            refine lv_ifnull C.x C.b dX11_run_55 ?_
            refine lq_aload C.x C.b dX11_run_58 (lv_at hl 0 rfl) ?_
            cases r13 with
            | none =>
              refine lv_ifnonnullN C.x C.b dX11_run_60 ?_
              have hP : CH D cy ad A (tR (tR (tP (tQ (tQ (tA (tI (tI (tI (tI κ 8 (κ.1 8)) 9 (κ.1 9)) 10 (κ.1 10)) 11 (κ.1 11)) 16 (κ.2.2.1 16)) 15 (κ.2.2.2.1 15)) 17 (κ.2.2.2.1 17)) κ.2.2.2.2) 0 (κ.2.1 0)) 1 (κ.2.1 1)) H := CH.cong hP rfl rfl rfl rfl rfl rfl rfl rfl rfl rfl rfl rfl rfl rfl rfl rfl rfl rfl rfl rfl rfl rfl rfl rfl rfl rfl rfl
              exact c_iae C hfl hout ⟨(κ.1 8), (κ.1 9), (κ.1 10), (κ.1 11), (κ.2.2.1 16), (κ.2.2.2.1 15), (κ.2.2.2.1 17), κ.2.2.2.2, (κ.2.1 0), (κ.2.1 1)⟩ ⟨EX.rf, hPV, hSV, (Or.inl ⟨rfl, trivial⟩), (vX11_run_1 κ hpre_0 hpre_1)⟩ hP hS hl.1 cw_888 cw_889 (is := 181) (text := "there is no such program or object") (by decide +kernel) dX11_run_63 dX11_run_66 dX11_run_67 dX11_run_69 dX11_run_72 (Nat.le_of_ble_eq_true rfl) (Nat.le_of_ble_eq_true rfl) ⟨(Nat.le_of_ble_eq_true rfl), (Nat.le_of_ble_eq_true rfl)⟩ ⟨(Nat.le_of_ble_eq_true rfl), (Nat.le_of_ble_eq_true rfl)⟩
            | some b15 =>
              have hb15 : oT κ.2.2.2.2 b15 = 1 := hr13 b15 rfl
              refine lv_ifnonnull (tgt := 73) C.x C.b dX11_run_60 (by decide) ?_
              refine lv_aload_n C.x C.b dX11_run_73 rfl (lv_at hl 2 rfl) ?_
              refine cg_X11_1 C hP cw_874 dX11_run_74 ?_
              refine lv_aload C.x C.b dX11_run_77 (lv_at hl 0 rfl) ?_
              refine c_callVv (n := 1) (As := [.ref b15]) (rest := []) C hP hS hl.1 (NX8_begin l D cy ad A sz0 sa κ H.size (SLT H) C.f (fun q h => C.a q (Nat.le_trans hS.1 h)) b15 hb15 hSV) ⟨cw_962, cw_693, by decide +kernel⟩ ⟨cw_963, cw_964, cw_705⟩ rfl (hP.recvS (k := 3) (ci := 10) C.K rfl rfl) rfl rfl (lv_room (Nat.le_of_ble_eq_true rfl)) ⟨Nat.le_of_ble_eq_true rfl, Nat.le_of_ble_eq_true rfl⟩ ⟨(Nat.le_of_ble_eq_true rfl), (Nat.le_of_ble_eq_true rfl)⟩ dX11_run_79 (fun u H locs hr16 hP hS => ?_)
              obtain ⟨n17, o18⟩ := u
              have hP : CH D cy ad A (tR (tI κ 9 n17) 1 o18) H := hP
              have hr16 : (SV ad κ.2.2.2.2 (κ.2.1 0) o18 (κ.2.2.2.1 6) (κ.2.2.2.1 7) (κ.2.2.2.1 8) (κ.2.2.2.1 13) (κ.2.2.2.1 15) (κ.2.2.2.1 17) (κ.1 1).toInt) := hr16
              refine lv_aload_n C.x C.b dX11_run_82 rfl (lv_at hl 2 rfl) ?_
              refine cg_X11_1 C hP cw_874 dX11_run_83 ?_
              refine lv_aload_n C.x C.b dX11_run_86 rfl (lv_at hl 1 rfl) ?_
              refine lv_iconst (v := 0) C.x C.b dX11_run_87 (by decide +kernel) ?_
              refine c_callNq (n := 2) (As := [.ref b14, .int 0]) (rest := []) C hP hS hl.1 (NX8_eval_all l D cy ad A sz0 sa 41 (tR (tI κ 9 n17) 1 o18) H.size (SLT H) C.f (fun q h => C.a q (Nat.le_trans hS.1 h)) (some b14) (0 : Int32) (nt_s hb14) hPV hr16 (vX11_run_3 κ hpre_0 hpre_1)) ⟨cw_696, by decide +kernel⟩ C.t.2.2.2.2.2.1 ⟨cw_712, cw_713, cw_705⟩ rfl (hP.recvS (k := 3) (ci := 10) C.K rfl rfl) rfl rfl (lv_room (Nat.le_of_ble_eq_true rfl)) ⟨Nat.le_of_ble_eq_true rfl, Nat.le_of_ble_eq_true rfl⟩ ⟨(vX11_run_4 κ k0 b14 hpre_2 hpre_3 hpre_4 c1 c4 c8 ex11 qcx11), (vX11_run_5 κ k0 b14 hpre_2 hpre_3 hpre_4 c1 c4 c8 ex11 qcx11)⟩ dX11_run_88 (fun r19 u H locs hr19 hP hS => ?_)
              obtain ⟨n20, n21, n22, n23, F24, Z25, Z26, P27⟩ := u
              have hP : CH D cy ad A (tP (tQ (tQ (tA (tI (tI (tI (tI (tR (tI κ 9 n17) 1 o18) 8 n20) 9 n21) 10 n22) 11 n23) 16 F24) 15 Z25) 17 Z26) P27) H := hP
              have hr19 : (EX κ.2.2.2.2 P27) ∧ (PV sa P27) ∧ (SV ad P27 (κ.2.1 0) o18 (κ.2.2.2.1 6) (κ.2.2.2.1 7) (κ.2.2.2.1 8) (κ.2.2.2.1 13) Z25 Z26 (κ.1 1).toInt) ∧ (NT P27 1 r19) ∧ (0 ≤ n20.toInt ∧ n20.toInt ≤ 12) := hr19
              obtain ⟨hr19_0, hr19_1, hr19_2, hr19_3, hr19_4⟩ := hr19
              have kc28 : cto P27 (some b14) = cto κ.2.2.2.2 (some b14) := hr19_0.ct (nt_s hb14) (by decide)
              obtain ⟨hr19_4_0, hr19_4_1⟩ := hr19_4
              refine lq_astore (lv' := [(5, va_rf r19), (4, .ref b15), (3, .ref b14), (0, .ref (ad 0)), (1, .int k0), (2, .int k1)]) C.x C.b dX11_run_91 hl (by decide) (by cases r19 <;> rfl) (fun ls hl => ?_)
              refine lv_aload_n C.x C.b dX11_run_93 rfl (lv_at hl 3 rfl) ?_
              refine lq_aload C.x C.b dX11_run_94 (lv_at hl 0 rfl) ?_
              cases r19 with
              | none =>
                refine lv_ifnonnullN C.x C.b dX11_run_96 ?_
                refine lv_aload_n C.x C.b dX11_run_99 rfl (lv_at hl 3 rfl) ?_
                refine cg_X11_1 C hP cw_874 dX11_run_100 ?_
                refine cg_X8_0 C hP cw_946 dX11_run_103 ?_
                refine lv_goto (tgt := 111) C.x C.b dX11_run_106 (by decide) ?_
                refine cp_X11_8 (v := (some (ad 20))) C hP hS cw_881 dX11_run_111 (fun H locs hP hS => ?_)
                have svz30 : SV ad P27 (some (ad 20)) o18 (κ.2.2.2.1 6) (κ.2.2.2.1 7) (κ.2.2.2.1 8) (κ.2.2.2.1 13) Z25 Z26 (κ.1 1).toInt := hr19_2.lat ⟨(ad 20), rfl, hr19_2.a20⟩
                refine lv_aload_n C.x C.b dX11_run_114 rfl (lv_at hl 3 rfl) ?_
                refine cg_X11_1 C hP cw_874 dX11_run_115 ?_
                refine cg_X8_7 (v := n21) C hP rfl cw_957 dX11_run_118 ?_
                have hP : CH D cy ad A (tR (tR (tP (tQ (tQ (tA (tI (tI (tI (tI κ 8 n20) 9 n21) 10 n22) 11 n23) 16 F24) 15 Z25) 17 Z26) P27) 0 (some (ad 20))) 1 o18) H := CH.cong hP rfl rfl rfl rfl rfl rfl rfl rfl rfl rfl rfl rfl rfl rfl rfl rfl rfl rfl rfl rfl rfl rfl rfl rfl rfl rfl rfl
                refine vx_ret ?_
                exact c_reti C hsz hsl ⟨n20, n21, n22, n23, F24, Z25, Z26, P27, (some (ad 20)), o18⟩ ⟨hr19_0, hr19_1, svz30, (vX11_run_6 n20 hr19_4_0 hr19_4_1)⟩ hP hS ⟨(vX11_run_7 κ k0 b14 P27 hpre_2 hpre_3 hpre_4 c1 c4 c8 ex11 qcx11 kc28), (vX11_run_8 κ k0 b14 P27 hpre_2 hpre_3 hpre_4 c1 c4 c8 ex11 qcx11 kc28)⟩ ⟨(Nat.le_of_ble_eq_true rfl), (Nat.le_of_ble_eq_true rfl)⟩ dX11_run_121
              | some b29 =>
                have hb29 : oT P27 b29 = 1 := hr19_3 b29 rfl
                refine lv_ifnonnull (tgt := 109) C.x C.b dX11_run_96 (by decide) ?_
                refine lv_aload C.x C.b dX11_run_109 (lv_at hl 0 rfl) ?_
                refine cp_X11_8 (v := (some b29)) C hP hS cw_881 dX11_run_111 (fun H locs hP hS => ?_)
                have svz31 : SV ad P27 (some b29) o18 (κ.2.2.2.1 6) (κ.2.2.2.1 7) (κ.2.2.2.1 8) (κ.2.2.2.1 13) Z25 Z26 (κ.1 1).toInt := hr19_2.lat ⟨b29, rfl, hb29⟩
                refine lv_aload_n C.x C.b dX11_run_114 rfl (lv_at hl 3 rfl) ?_
                refine cg_X11_1 C hP cw_874 dX11_run_115 ?_
                refine cg_X8_7 (v := n21) C hP rfl cw_957 dX11_run_118 ?_
                have hP : CH D cy ad A (tR (tR (tP (tQ (tQ (tA (tI (tI (tI (tI κ 8 n20) 9 n21) 10 n22) 11 n23) 16 F24) 15 Z25) 17 Z26) P27) 0 (some b29)) 1 o18) H := CH.cong hP rfl rfl rfl rfl rfl rfl rfl rfl rfl rfl rfl rfl rfl rfl rfl rfl rfl rfl rfl rfl rfl rfl rfl rfl rfl rfl rfl
                refine vx_ret ?_
                exact c_reti C hsz hsl ⟨n20, n21, n22, n23, F24, Z25, Z26, P27, (some b29), o18⟩ ⟨hr19_0, hr19_1, svz31, (vX11_run_6 n20 hr19_4_0 hr19_4_1)⟩ hP hS ⟨(vX11_run_7 κ k0 b14 P27 hpre_2 hpre_3 hpre_4 c1 c4 c8 ex11 qcx11 kc28), (vX11_run_8 κ k0 b14 P27 hpre_2 hpre_3 hpre_4 c1 c4 c8 ex11 qcx11 kc28)⟩ ⟨(Nat.le_of_ble_eq_true rfl), (Nat.le_of_ble_eq_true rfl)⟩ dX11_run_121
        · have c12 : k1.toInt = (-1) := by have h := z_eq c12; rw [show ((-1) : Int32).toInt = -1 from by decide +kernel] at h; exact h
          refine lv_aload_n C.x C.b dX11_run_37 rfl (lv_at hl 1 rfl) ?_
          refine cg_X11_1 C hP cw_874 dX11_run_38 ?_
          refine cg_X8_0 C hP cw_946 dX11_run_41 ?_
          refine lv_goto (tgt := 52) C.x C.b dX11_run_44 (by decide) ?_
          refine lv_astore (lv' := [(4, .ref (ad 20)), (3, va_rf x11), (0, .ref (ad 0)), (1, .int k0), (2, .int k1)]) C.x C.b dX11_run_52 hl (by decide) (by cases x11 <;> rfl) (fun ls hl => ?_)
          refine lq_aload_n C.x C.b dX11_run_54 rfl (lv_at hl 1 rfl) ?_
          cases x11 with
          | none =>
            refine lv_ifnullN (tgt := 63) C.x C.b dX11_run_55 (by decide) ?_
            have hP : CH D cy ad A (tR (tR (tP (tQ (tQ (tA (tI (tI (tI (tI κ 8 (κ.1 8)) 9 (κ.1 9)) 10 (κ.1 10)) 11 (κ.1 11)) 16 (κ.2.2.1 16)) 15 (κ.2.2.2.1 15)) 17 (κ.2.2.2.1 17)) κ.2.2.2.2) 0 (κ.2.1 0)) 1 (κ.2.1 1)) s.heap := CH.cong hP rfl rfl rfl rfl rfl rfl rfl rfl rfl rfl rfl rfl rfl rfl rfl rfl rfl rfl rfl rfl rfl rfl rfl rfl rfl rfl rfl
            exact c_iae C hfl hout ⟨(κ.1 8), (κ.1 9), (κ.1 10), (κ.1 11), (κ.2.2.1 16), (κ.2.2.2.1 15), (κ.2.2.2.1 17), κ.2.2.2.2, (κ.2.1 0), (κ.2.1 1)⟩ ⟨EX.rf, hPV, hSV, (Or.inl ⟨rfl, trivial⟩), (vX11_run_1 κ hpre_0 hpre_1)⟩ hP hS hl.1 cw_888 cw_889 (is := 181) (text := "there is no such program or object") (by decide +kernel) dX11_run_63 dX11_run_66 dX11_run_67 dX11_run_69 dX11_run_72 (Nat.le_of_ble_eq_true rfl) (Nat.le_of_ble_eq_true rfl) ⟨(Nat.le_of_ble_eq_true rfl), (Nat.le_of_ble_eq_true rfl)⟩ ⟨(Nat.le_of_ble_eq_true rfl), (Nat.le_of_ble_eq_true rfl)⟩
          | some b32 =>
            have hb32 : oT κ.2.2.2.2 b32 = 2 := tx11 b32 rfl
            refine lv_ifnull C.x C.b dX11_run_55 ?_
            refine lv_aload C.x C.b dX11_run_58 (lv_at hl 0 rfl) ?_
            refine lv_ifnonnull (tgt := 73) C.x C.b dX11_run_60 (by decide) ?_
            refine lv_aload_n C.x C.b dX11_run_73 rfl (lv_at hl 2 rfl) ?_
            refine cg_X11_1 C hP cw_874 dX11_run_74 ?_
            refine lv_aload C.x C.b dX11_run_77 (lv_at hl 0 rfl) ?_
            refine c_callVv (n := 1) (As := [.ref (ad 20)]) (rest := []) C hP hS hl.1 (NX8_begin l D cy ad A sz0 sa κ s.heap.size (SLT s.heap) C.f (fun q h => C.a q (Nat.le_trans hS.1 h)) (ad 20) hSV.a20 hSV) ⟨cw_962, cw_693, by decide +kernel⟩ ⟨cw_963, cw_964, cw_705⟩ rfl (hP.recvS (k := 3) (ci := 10) C.K rfl rfl) rfl rfl (lv_room (Nat.le_of_ble_eq_true rfl)) ⟨Nat.le_of_ble_eq_true rfl, Nat.le_of_ble_eq_true rfl⟩ ⟨(Nat.le_of_ble_eq_true rfl), (Nat.le_of_ble_eq_true rfl)⟩ dX11_run_79 (fun u H locs hr33 hP hS => ?_)
            obtain ⟨n34, o35⟩ := u
            have hP : CH D cy ad A (tR (tI κ 9 n34) 1 o35) H := hP
            have hr33 : (SV ad κ.2.2.2.2 (κ.2.1 0) o35 (κ.2.2.2.1 6) (κ.2.2.2.1 7) (κ.2.2.2.1 8) (κ.2.2.2.1 13) (κ.2.2.2.1 15) (κ.2.2.2.1 17) (κ.1 1).toInt) := hr33
            refine lv_aload_n C.x C.b dX11_run_82 rfl (lv_at hl 2 rfl) ?_
            refine cg_X11_1 C hP cw_874 dX11_run_83 ?_
            refine lv_aload_n C.x C.b dX11_run_86 rfl (lv_at hl 1 rfl) ?_
            refine lv_iconst (v := 0) C.x C.b dX11_run_87 (by decide +kernel) ?_
            refine c_callNq (n := 2) (As := [.ref b32, .int 0]) (rest := []) C hP hS hl.1 (NX8_eval_all l D cy ad A sz0 sa 41 (tR (tI κ 9 n34) 1 o35) H.size (SLT H) C.f (fun q h => C.a q (Nat.le_trans hS.1 h)) (some b32) (0 : Int32) (nt_s hb32) hPV hr33 (vX11_run_3 κ hpre_0 hpre_1)) ⟨cw_696, by decide +kernel⟩ C.t.2.2.2.2.2.1 ⟨cw_712, cw_713, cw_705⟩ rfl (hP.recvS (k := 3) (ci := 10) C.K rfl rfl) rfl rfl (lv_room (Nat.le_of_ble_eq_true rfl)) ⟨Nat.le_of_ble_eq_true rfl, Nat.le_of_ble_eq_true rfl⟩ ⟨(vX11_run_9 κ k0 b32 hpre_2 hpre_3 hpre_4 c1 c4 c8 ex11 qcx11), (vX11_run_10 κ k0 b32 hpre_2 hpre_3 hpre_4 c1 c4 c8 ex11 qcx11)⟩ dX11_run_88 (fun r36 u H locs hr36 hP hS => ?_)
            obtain ⟨n37, n38, n39, n40, F41, Z42, Z43, P44⟩ := u
            have hP : CH D cy ad A (tP (tQ (tQ (tA (tI (tI (tI (tI (tR (tI κ 9 n34) 1 o35) 8 n37) 9 n38) 10 n39) 11 n40) 16 F41) 15 Z42) 17 Z43) P44) H := hP
            have hr36 : (EX κ.2.2.2.2 P44) ∧ (PV sa P44) ∧ (SV ad P44 (κ.2.1 0) o35 (κ.2.2.2.1 6) (κ.2.2.2.1 7) (κ.2.2.2.1 8) (κ.2.2.2.1 13) Z42 Z43 (κ.1 1).toInt) ∧ (NT P44 1 r36) ∧ (0 ≤ n37.toInt ∧ n37.toInt ≤ 12) := hr36
            obtain ⟨hr36_0, hr36_1, hr36_2, hr36_3, hr36_4⟩ := hr36
            have kc45 : cto P44 (some b32) = cto κ.2.2.2.2 (some b32) := hr36_0.ct (nt_s hb32) (by decide)
            obtain ⟨hr36_4_0, hr36_4_1⟩ := hr36_4
            refine lq_astore (lv' := [(5, va_rf r36), (4, .ref (ad 20)), (3, .ref b32), (0, .ref (ad 0)), (1, .int k0), (2, .int k1)]) C.x C.b dX11_run_91 hl (by decide) (by cases r36 <;> rfl) (fun ls hl => ?_)
            refine lv_aload_n C.x C.b dX11_run_93 rfl (lv_at hl 3 rfl) ?_
            refine lq_aload C.x C.b dX11_run_94 (lv_at hl 0 rfl) ?_
            cases r36 with
            | none =>
              refine lv_ifnonnullN C.x C.b dX11_run_96 ?_
              refine lv_aload_n C.x C.b dX11_run_99 rfl (lv_at hl 3 rfl) ?_
              refine cg_X11_1 C hP cw_874 dX11_run_100 ?_
              refine cg_X8_0 C hP cw_946 dX11_run_103 ?_
              refine lv_goto (tgt := 111) C.x C.b dX11_run_106 (by decide) ?_
              refine cp_X11_8 (v := (some (ad 20))) C hP hS cw_881 dX11_run_111 (fun H locs hP hS => ?_)
              have svz47 : SV ad P44 (some (ad 20)) o35 (κ.2.2.2.1 6) (κ.2.2.2.1 7) (κ.2.2.2.1 8) (κ.2.2.2.1 13) Z42 Z43 (κ.1 1).toInt := hr36_2.lat ⟨(ad 20), rfl, (hr36_0.T hSV.a20 (by decide))⟩
              refine lv_aload_n C.x C.b dX11_run_114 rfl (lv_at hl 3 rfl) ?_
              refine cg_X11_1 C hP cw_874 dX11_run_115 ?_
              refine cg_X8_7 (v := n38) C hP rfl cw_957 dX11_run_118 ?_
              have hP : CH D cy ad A (tR (tR (tP (tQ (tQ (tA (tI (tI (tI (tI κ 8 n37) 9 n38) 10 n39) 11 n40) 16 F41) 15 Z42) 17 Z43) P44) 0 (some (ad 20))) 1 o35) H := CH.cong hP rfl rfl rfl rfl rfl rfl rfl rfl rfl rfl rfl rfl rfl rfl rfl rfl rfl rfl rfl rfl rfl rfl rfl rfl rfl rfl rfl
              refine vx_ret ?_
              exact c_reti C hsz hsl ⟨n37, n38, n39, n40, F41, Z42, Z43, P44, (some (ad 20)), o35⟩ ⟨hr36_0, hr36_1, svz47, (vX11_run_11 n37 hr36_4_0 hr36_4_1)⟩ hP hS ⟨(vX11_run_12 κ k0 b32 P44 hpre_2 hpre_3 hpre_4 c1 c4 c8 ex11 qcx11 kc45), (vX11_run_13 κ k0 b32 P44 hpre_2 hpre_3 hpre_4 c1 c4 c8 ex11 qcx11 kc45)⟩ ⟨(Nat.le_of_ble_eq_true rfl), (Nat.le_of_ble_eq_true rfl)⟩ dX11_run_121
            | some b46 =>
              have hb46 : oT P44 b46 = 1 := hr36_3 b46 rfl
              refine lv_ifnonnull (tgt := 109) C.x C.b dX11_run_96 (by decide) ?_
              refine lv_aload C.x C.b dX11_run_109 (lv_at hl 0 rfl) ?_
              refine cp_X11_8 (v := (some b46)) C hP hS cw_881 dX11_run_111 (fun H locs hP hS => ?_)
              have svz48 : SV ad P44 (some b46) o35 (κ.2.2.2.1 6) (κ.2.2.2.1 7) (κ.2.2.2.1 8) (κ.2.2.2.1 13) Z42 Z43 (κ.1 1).toInt := hr36_2.lat ⟨b46, rfl, hb46⟩
              refine lv_aload_n C.x C.b dX11_run_114 rfl (lv_at hl 3 rfl) ?_
              refine cg_X11_1 C hP cw_874 dX11_run_115 ?_
              refine cg_X8_7 (v := n38) C hP rfl cw_957 dX11_run_118 ?_
              have hP : CH D cy ad A (tR (tR (tP (tQ (tQ (tA (tI (tI (tI (tI κ 8 n37) 9 n38) 10 n39) 11 n40) 16 F41) 15 Z42) 17 Z43) P44) 0 (some b46)) 1 o35) H := CH.cong hP rfl rfl rfl rfl rfl rfl rfl rfl rfl rfl rfl rfl rfl rfl rfl rfl rfl rfl rfl rfl rfl rfl rfl rfl rfl rfl rfl
              refine vx_ret ?_
              exact c_reti C hsz hsl ⟨n37, n38, n39, n40, F41, Z42, Z43, P44, (some b46), o35⟩ ⟨hr36_0, hr36_1, svz48, (vX11_run_11 n37 hr36_4_0 hr36_4_1)⟩ hP hS ⟨(vX11_run_12 κ k0 b32 P44 hpre_2 hpre_3 hpre_4 c1 c4 c8 ex11 qcx11 kc45), (vX11_run_13 κ k0 b32 P44 hpre_2 hpre_3 hpre_4 c1 c4 c8 ex11 qcx11 kc45)⟩ ⟨(Nat.le_of_ble_eq_true rfl), (Nat.le_of_ble_eq_true rfl)⟩ dX11_run_121
