-- pre:X11_familyAt@2 @2
theorem vX11_make_1 (κ : KS) (hpre_0 : 0 ≤ (κ.1 1).toInt) (hpre_1 : (κ.1 1).toInt ≤ 5) : 0 ≤ (κ.1 1).toInt ∧ (κ.1 1).toInt ≤ 5 := by
  refine ⟨?_, ?_⟩ <;> first | assumption | omega | (subst_vars; omega) | trivial
-- thrown @10
theorem vX11_make_2 (κ : KS) (k0 : Int32) (hpre_0 : 0 ≤ (κ.1 1).toInt) (hpre_1 : (κ.1 1).toInt ≤ 5) (hr1_1_0 : (0 ≤ k0.toInt ∧ k0.toInt < (κ.1 1).toInt) → on1 none = 1) (hr1_1_1 : ¬ (0 ≤ k0.toInt ∧ k0.toInt < (κ.1 1).toInt) → on1 none = 0) (hr1_1_2 : (0 ≤ k0.toInt ∧ k0.toInt < (κ.1 1).toInt) → none = (κ.2.2.2.1 7) k0.toNatClampNeg) : ¬ (0 ≤ k0.toInt ∧ k0.toInt < (κ.1 1).toInt) := by
  have zo0 : on1 none = 0 := rfl
  first | assumption | omega | (subst_vars; omega) | trivial
-- xpost @10
theorem vX11_make_3 (κ : KS) (hpre_2 : 0 ≤ (κ.1 2).toInt) (hpre_3 : (κ.1 2).toInt ≤ 30) : (κ.1 2).toInt = (κ.1 2).toInt := by
  first | assumption | omega | (subst_vars; omega) | trivial
-- in@72 @72
theorem vX11_make_4 (κ : KS) (hpre_2 : 0 ≤ (κ.1 2).toInt) (hpre_3 : (κ.1 2).toInt ≤ 30) (c4 : (κ.1 2).toInt < 30) : vp_in (κ.1 2) 30 := by
  exact vp_in_iff.mpr ⟨by omega, by omega⟩
-- nw@79 @79
theorem vX11_make_5 (κ : KS) (x15 : Int32) (hpre_2 : 0 ≤ (κ.1 2).toInt) (hpre_3 : (κ.1 2).toInt ≤ 30) (c4 : (κ.1 2).toInt < 30) (ex15 : x15 = (κ.1 2) + (1 : Int32)) : x15.toInt = (κ.1 2).toInt + 1 := by
  have q1 : (1 : Int32).toInt = 1 := by decide +kernel
  have w1 : (1 : Int32).toInt = 1 := by decide +kernel
  rw [ex15, z_add (by omega) (by omega)]; first | done | omega
-- nw@88 @88
theorem vX11_make_6 (κ : KS) (x15 : Int32) (x16 : Int32) (hpre_2 : 0 ≤ (κ.1 2).toInt) (hpre_3 : (κ.1 2).toInt ≤ 30) (c4 : (κ.1 2).toInt < 30) (ex15 : x15 = (κ.1 2) + (1 : Int32)) (tx15 : x15.toInt = (κ.1 2).toInt + 1) (ex16 : x16 = x15 - (1 : Int32)) : x16.toInt = x15.toInt - 1 := by
  have q1 : (1 : Int32).toInt = 1 := by decide +kernel
  have w1 : (1 : Int32).toInt = 1 := by decide +kernel
  rw [ex16, z_sub (by omega) (by omega)]; first | done | omega
-- post @89
theorem vX11_make_7 (κ : KS) (k0 : Int32) (b2 : Nat) (x15 : Int32) (x16 : Int32) (hpre_0 : 0 ≤ (κ.1 1).toInt) (hpre_1 : (κ.1 1).toInt ≤ 5) (hpre_2 : 0 ≤ (κ.1 2).toInt) (hpre_3 : (κ.1 2).toInt ≤ 30) (hr1_1_0 : (0 ≤ k0.toInt ∧ k0.toInt < (κ.1 1).toInt) → on1 (some b2) = 1) (hr1_1_1 : ¬ (0 ≤ k0.toInt ∧ k0.toInt < (κ.1 1).toInt) → on1 (some b2) = 0) (hr1_1_2 : (0 ≤ k0.toInt ∧ k0.toInt < (κ.1 1).toInt) → (some b2) = (κ.2.2.2.1 7) k0.toNatClampNeg) (c4 : (κ.1 2).toInt < 30) (ex15 : x15 = (κ.1 2) + (1 : Int32)) (tx15 : x15.toInt = (κ.1 2).toInt + 1) (ex16 : x16 = x15 - (1 : Int32)) (tx16 : x16.toInt = x15.toInt - 1) : x16.toInt = (κ.1 2).toInt ∧ x15.toInt = (κ.1 2).toInt + 1 ∧ (κ.1 2).toInt < 30 ∧ (0 ≤ k0.toInt ∧ k0.toInt < (κ.1 1).toInt) := by
  have q1 : (1 : Int32).toInt = 1 := by decide +kernel
  have zo0 : on1 (some b2) = 1 := rfl
  refine ⟨?_, ?_, ?_, ?_⟩ <;> first | assumption | omega | (subst_vars; omega) | trivial
-- thrown @32
theorem vX11_make_8 (κ : KS) (k0 : Int32) (b2 : Nat) (hpre_0 : 0 ≤ (κ.1 1).toInt) (hpre_1 : (κ.1 1).toInt ≤ 5) (hpre_2 : 0 ≤ (κ.1 2).toInt) (hpre_3 : (κ.1 2).toInt ≤ 30) (hr1_1_0 : (0 ≤ k0.toInt ∧ k0.toInt < (κ.1 1).toInt) → on1 (some b2) = 1) (hr1_1_1 : ¬ (0 ≤ k0.toInt ∧ k0.toInt < (κ.1 1).toInt) → on1 (some b2) = 0) (hr1_1_2 : (0 ≤ k0.toInt ∧ k0.toInt < (κ.1 1).toInt) → (some b2) = (κ.2.2.2.1 7) k0.toNatClampNeg) (c4 : 30 ≤ (κ.1 2).toInt) : (0 ≤ k0.toInt ∧ k0.toInt < (κ.1 1).toInt) ∧ 30 ≤ (κ.1 2).toInt := by
  have zo0 : on1 (some b2) = 1 := rfl
  refine ⟨?_, ?_⟩ <;> first | assumption | omega | (subst_vars; omega) | trivial
-- xpost @32
theorem vX11_make_9 (κ : KS) (hpre_2 : 0 ≤ (κ.1 2).toInt) (hpre_3 : (κ.1 2).toInt ≤ 30) (c4 : 30 ≤ (κ.1 2).toInt) : (κ.1 2).toInt = (κ.1 2).toInt := by
  first | assumption | omega | (subst_vars; omega) | trivial
set_option maxHeartbeats 4000000 in
set_option maxRecDepth 100000 in
theorem NX11_make (l : Launch) (D : va_G) (cy : Nat → ClassId) (ad : Nat → Nat) (A : Nat → Prop) (sz0 : Nat) (sa : Nat → Nat) (hfl : l.stackTraces = false) (κ : KS) (sz sl : Nat) (hAF : ∀ q, A q → Fr sz0 q) (hAn : ∀ q : Nat, sz ≤ q → A q) (k0 : Int32) (hPV : PV sa κ.2.2.2.2) (hSV : SV ad κ.2.2.2.2 (κ.2.1 0) (κ.2.1 1) (κ.2.2.2.1 6) (κ.2.2.2.1 7) (κ.2.2.2.1 8) (κ.2.2.2.1 13) (κ.2.2.2.1 15) (κ.2.2.2.1 17) (κ.1 1).toInt) (hpre : 0 ≤ (κ.1 1).toInt ∧ (κ.1 1).toInt ≤ 5 ∧ 0 ≤ (κ.1 2).toInt ∧ (κ.1 2).toInt ≤ 30) : vx_Met l yX11_make (Cond.code yX11_make cX11_make 3 (some .int) :: GWc) ({ frames := 6, cells := 3, slots := 38, locals := 90 }) (PcC D cy ad A sz0 sa [.ref (ad 0), .int k0] κ sz sl) (va_Qi (fun (r : Int32) (u : PL × (Nat → Option Nat) × Int32) => (EX κ.2.2.2.2 u.1) ∧ (PV sa u.1) ∧ (SV ad u.1 (κ.2.1 0) (κ.2.1 1) (κ.2.2.2.1 6) (κ.2.2.2.1 7) u.2.1 (κ.2.2.2.1 13) (κ.2.2.2.1 15) (κ.2.2.2.1 17) (κ.1 1).toInt) ∧ (r.toInt = (κ.1 2).toInt ∧ u.2.2.toInt = (κ.1 2).toInt + 1 ∧ (κ.1 2).toInt < 30 ∧ (0 ≤ k0.toInt ∧ k0.toInt < (κ.1 1).toInt))) (fun (u : PL × (Nat → Option Nat) × Int32) (t : State) => Bx D cy ad A sz sl (tI (tQ (tP κ u.1) 8 u.2.1) 2 u.2.2) (3) (38) t) A) (TX D cy ad A (fun (E : String) (u : PL × (Nat → Option Nat) × Int32) => (EX κ.2.2.2.2 u.1) ∧ (PV sa u.1) ∧ (SV ad u.1 (κ.2.1 0) (κ.2.1 1) (κ.2.2.2.1 6) (κ.2.2.2.1 7) u.2.1 (κ.2.2.2.1 13) (κ.2.2.2.1 15) (κ.2.2.2.1 17) (κ.1 1).toInt) ∧ ((E = tIAE ∧ (¬ (0 ≤ k0.toInt ∧ k0.toInt < (κ.1 1).toInt))) ∨ (E = tISE ∧ ((0 ≤ k0.toInt ∧ k0.toInt < (κ.1 1).toInt) ∧ 30 ≤ (κ.1 2).toInt))) ∧ (u.2.2.toInt = (κ.1 2).toInt)) (fun (u : PL × (Nat → Option Nat) × Int32) => (tI (tQ (tP κ u.1) 8 u.2.1) 2 u.2.2))) (3) (38) A := by
  refine CM_ofX (loc0 := [(0, .ref (ad 0)), (1, .int k0)]) (own := RX11) (nm := "make") (by decide) rfl rfl rfl (Nat.le_of_ble_eq_true rfl) hAF hAn ?_
  intro p e s m below meth c ls hsz hsl hout C hP hS hl
  obtain ⟨hpre_0, hpre_1, hpre_2, hpre_3⟩ := hpre
  refine lv_aload_n C.x C.b dX11_make_0 rfl (lv_at hl 0 rfl) ?_
  refine lv_iload_n C.x C.b dX11_make_1 rfl (lv_at hl 1 rfl) ?_
  refine c_callVq (n := 1) (As := [.int k0]) (rest := []) C hP hS hl.1 (NX11_familyAt l D cy ad A sz0 sa κ s.heap.size (SLT s.heap) C.f (fun q h => C.a q (Nat.le_trans hS.1 h)) k0 hPV hSV (vX11_make_1 κ hpre_0 hpre_1)) ⟨cw_907, cw_911, by decide +kernel⟩ ⟨cw_908, cw_909, cw_910⟩ rfl (hP.recvS (k := 0) (ci := 13) C.K rfl rfl) rfl rfl (lv_room (Nat.le_of_ble_eq_true rfl)) ⟨Nat.le_of_ble_eq_true rfl, Nat.le_of_ble_eq_true rfl⟩ ⟨(Nat.le_of_ble_eq_true rfl), (Nat.le_of_ble_eq_true rfl)⟩ dX11_make_2 (fun r1 u H locs hr1 hP hS => ?_)
  have hr1 : (NT κ.2.2.2.2 3 r1) ∧ (((0 ≤ k0.toInt ∧ k0.toInt < (κ.1 1).toInt) → on1 r1 = 1) ∧ (¬ (0 ≤ k0.toInt ∧ k0.toInt < (κ.1 1).toInt) → on1 r1 = 0) ∧ ((0 ≤ k0.toInt ∧ k0.toInt < (κ.1 1).toInt) → r1 = (κ.2.2.2.1 7) k0.toNatClampNeg)) := hr1
  obtain ⟨hr1_0, hr1_1⟩ := hr1
  obtain ⟨hr1_1_0, hr1_1_1, hr1_1_2⟩ := hr1_1
  refine lq_astore_n (lv' := [(2, va_rf r1), (0, .ref (ad 0)), (1, .int k0)]) C.x C.b dX11_make_5 rfl hl (by decide) (by cases r1 <;> rfl) (fun ls hl => ?_)
  refine lq_aload_n C.x C.b dX11_make_6 rfl (lv_at hl 0 rfl) ?_
  cases r1 with
  | none =>
    refine lv_ifnonnullN C.x C.b dX11_make_7 ?_
    have hP : CH D cy ad A (tI (tQ (tP κ κ.2.2.2.2) 8 (κ.2.2.2.1 8)) 2 (κ.1 2)) H := CH.cong hP rfl rfl rfl rfl rfl rfl rfl rfl rfl rfl rfl rfl rfl rfl rfl rfl rfl rfl rfl rfl rfl rfl rfl rfl rfl rfl rfl
    exact c_iae C hfl hout ⟨κ.2.2.2.2, (κ.2.2.2.1 8), (κ.1 2)⟩ ⟨EX.rf, hPV, hSV, (Or.inl ⟨rfl, (vX11_make_2 κ k0 hpre_0 hpre_1 hr1_1_0 hr1_1_1 hr1_1_2)⟩), (vX11_make_3 κ hpre_2 hpre_3)⟩ hP hS hl.1 cw_888 cw_889 (is := 149) (text := "there is no such class") (by decide +kernel) dX11_make_10 dX11_make_13 dX11_make_14 dX11_make_16 dX11_make_19 (Nat.le_of_ble_eq_true rfl) (Nat.le_of_ble_eq_true rfl) ⟨(Nat.le_of_ble_eq_true rfl), (Nat.le_of_ble_eq_true rfl)⟩ ⟨(Nat.le_of_ble_eq_true rfl), (Nat.le_of_ble_eq_true rfl)⟩
  | some b2 =>
    have hb2 : oT κ.2.2.2.2 b2 = 3 := hr1_0 b2 rfl
    refine lv_ifnonnull (tgt := 20) C.x C.b dX11_make_7 (by decide) ?_
    refine lv_aload_n C.x C.b dX11_make_20 rfl (lv_at hl 1 rfl) ?_
    refine cg_X11_7 (v := (κ.1 2)) C hP rfl cw_916 dX11_make_21 ?_
    refine lv_aload_n C.x C.b dX11_make_24 rfl (lv_at hl 1 rfl) ?_
    refine cg_X11_6 C hP cw_880 dX11_make_25 ?_
    refine cl_8 C hP dX11_make_28 ?_
    refine lv_icmp_lt (tgt := 42) C.x C.b dX11_make_29 (by decide) (fun c4 => ?_) (fun c4 => ?_)
    · have c4 : (κ.1 2).toInt < 30 := by have h := z_lt c4; rw [show (30 : Int32).toInt = 30 from by decide +kernel] at h; exact h
      refine lv_aload_n C.x C.b dX11_make_42 rfl (lv_at hl 1 rfl) ?_
      refine cg_X11_6 C hP cw_880 dX11_make_43 ?_
      refine lv_aload_n C.x C.b dX11_make_46 rfl (lv_at hl 1 rfl) ?_
      refine cg_X11_7 (v := (κ.1 2)) C hP rfl cw_916 dX11_make_47 ?_
      refine cn_X9 C hP hS cw_944 cw_945 cw_726 ⟨(Nat.le_of_ble_eq_true rfl), (Nat.le_of_ble_eq_true rfl)⟩ dX11_make_50 (fun q5 H h0q5 hP hS => ?_)
      have exz6 : EX κ.2.2.2.2 (newP κ.2.2.2.2 q5 26) := (EX.newP h0q5)
      have pvz6 : PV sa (newP κ.2.2.2.2 q5 26) := (hPV.raw h0q5 (by decide))
      have svz6 : SV ad (newP κ.2.2.2.2 q5 26) (κ.2.1 0) (κ.2.1 1) (κ.2.2.2.1 6) (κ.2.2.2.1 7) (κ.2.2.2.1 8) (κ.2.2.2.1 13) (κ.2.2.2.1 15) (κ.2.2.2.1 17) (κ.1 1).toInt := hSV.ex exz6
      refine lv_dup C.x C.b dX11_make_53 rfl ?_
      refine lv_aload_n C.x C.b dX11_make_54 rfl (lv_at hl 1 rfl) ?_
      refine cg_X11_7 (v := (κ.1 2)) C hP rfl cw_916 dX11_make_55 ?_
      refine lv_aload_n C.x C.b dX11_make_58 rfl (lv_at hl 0 rfl) ?_
      refine lv_aload_n C.x C.b dX11_make_59 rfl (lv_at hl 1 rfl) ?_
      refine cg_X11_1 C hP cw_874 dX11_make_60 ?_
      refine cg_X8_0 C hP cw_946 dX11_make_63 ?_
      refine c_callIv (C2 := "") (n := 3) (As := [.int (κ.1 2), .ref b2, .ref (ad 20)]) (rest := [.ref q5, .int (κ.1 2), .ref (ad 8)]) C hP hS hl.1 (NX9_init l D cy ad A sz0 sa (tP κ (newP κ.2.2.2.2 q5 26)) H.size (SLT H) C.f (fun q h => C.a q (Nat.le_trans hS.1 h)) q5 (κ.1 2) b2 (ad 20) (by show oT (newP κ.2.2.2.2 q5 26) q5 = 26; rw [newP_T, if_pos rfl]) (exz6.T hb2 (by decide)) svz6.a20 pvz6) ⟨cw_947, cw_861, by decide +kernel⟩ ⟨cw_948, cw_726⟩ rfl rfl rfl (lv_room (Nat.le_of_ble_eq_true rfl)) ⟨Nat.le_of_ble_eq_true rfl, Nat.le_of_ble_eq_true rfl⟩ ⟨(Nat.le_of_ble_eq_true rfl), (Nat.le_of_ble_eq_true rfl)⟩ dX11_make_66 (fun u H locs hr7 hP hS => ?_)
      obtain ⟨P8, rfl⟩ : ∃ z, z = u := ⟨_, rfl⟩
      have hP : CH D cy ad A (tP (tP κ (newP κ.2.2.2.2 q5 26)) P8) H := hP
      have hr7 : (EXP (fun a => ¬ a = q5) (newP κ.2.2.2.2 q5 26) P8) ∧ (PV sa P8) ∧ (oT P8 q5 = 6) := hr7
      obtain ⟨hr7_0, hr7_1, hr7_2⟩ := hr7
      have exz9 : EX κ.2.2.2.2 P8 := EX.cons exz6 h0q5 hr7_0
      have svz9 : SV ad P8 (κ.2.1 0) (κ.2.1 1) (κ.2.2.2.1 6) (κ.2.2.2.1 7) (κ.2.2.2.1 8) (κ.2.2.2.1 13) (κ.2.2.2.1 15) (κ.2.2.2.1 17) (κ.1 1).toInt := hSV.ex exz9
      refine c_callSq (C2 := "") (b := 0) (n := 1) (As := [.ref q5]) (rest := [.int (κ.1 2), .ref (ad 8)]) C hP hS hl.1 (NX10_ofThing l D cy ad A sz0 sa (tP (tP κ (newP κ.2.2.2.2 q5 26)) P8) H.size (SLT H) C.f (fun q h => C.a q (Nat.le_trans hS.1 h)) q5 hr7_2 hr7_1) ⟨cw_949, cw_865, by decide +kernel⟩ ⟨cw_950, cw_40⟩ rfl rfl (lv_room (Nat.le_of_ble_eq_true rfl)) ⟨Nat.le_of_ble_eq_true rfl, Nat.le_of_ble_eq_true rfl⟩ ⟨(Nat.le_of_ble_eq_true rfl), (Nat.le_of_ble_eq_true rfl)⟩ dX11_make_69 (fun r10 u H locs hr10 hP hS => ?_)
      obtain ⟨P11, rfl⟩ : ∃ z, z = u := ⟨_, rfl⟩
      have hP : CH D cy ad A (tP (tP (tP κ (newP κ.2.2.2.2 q5 26)) P8) P11) H := hP
      have hr10 : (EX P8 P11) ∧ (PV sa P11) ∧ (NN P11 1 r10) := hr10
      obtain ⟨hr10_0, hr10_1, hr10_2⟩ := hr10
      obtain ⟨b12, rfl, tb12⟩ := hr10_2
      have svz13 : SV ad P11 (κ.2.1 0) (κ.2.1 1) (κ.2.2.2.1 6) (κ.2.2.2.1 7) (κ.2.2.2.1 8) (κ.2.2.2.1 13) (κ.2.2.2.1 15) (κ.2.2.2.1 17) (κ.1 1).toInt := svz9.ex hr10_0
      refine cw_st8 (f := (κ.2.2.2.1 8)) C hP hS rfl (t20 (a := b12) (t := 1) tb12) (vX11_make_4 κ hpre_2 hpre_3 c4) dX11_make_72 (fun H locs hP hS => ?_)
      have svz14 : SV ad P11 (κ.2.1 0) (κ.2.1 1) (κ.2.2.2.1 6) (κ.2.2.2.1 7) (va_up (κ.2.2.2.1 8) (κ.1 2).toNatClampNeg (some b12)) (κ.2.2.2.1 13) (κ.2.2.2.1 15) (κ.2.2.2.1 17) (κ.1 1).toInt := svz13.s8 (nt_s tb12)
      refine lv_aload_n C.x C.b dX11_make_73 rfl (lv_at hl 1 rfl) ?_
      refine lv_dup C.x C.b dX11_make_74 rfl ?_
      refine cg_X11_7 (v := (κ.1 2)) C hP rfl cw_916 dX11_make_75 ?_
      refine lv_iconst (v := 1) C.x C.b dX11_make_78 (by decide +kernel) ?_
      refine lv_iadd C.x C.b dX11_make_79 ?_
      refine lv_topi (fun x15 ex15 => ?_)
      have tx15 : x15.toInt = (κ.1 2).toInt + 1 := (vX11_make_5 κ x15 hpre_2 hpre_3 c4 ex15)
      refine cp_X11_7 (v := x15) C hP hS cw_916 dX11_make_80 (fun H locs hP hS => ?_)
      refine lv_aload_n C.x C.b dX11_make_83 rfl (lv_at hl 1 rfl) ?_
      refine cg_X11_7 (v := x15) C hP rfl cw_916 dX11_make_84 ?_
      refine lv_iconst (v := 1) C.x C.b dX11_make_87 (by decide +kernel) ?_
      refine lv_isub C.x C.b dX11_make_88 ?_
      refine lv_topi (fun x16 ex16 => ?_)
      have tx16 : x16.toInt = x15.toInt - 1 := (vX11_make_6 κ x15 x16 hpre_2 hpre_3 c4 ex15 tx15 ex16)
      have hP : CH D cy ad A (tI (tQ (tP κ P11) 8 (va_up (κ.2.2.2.1 8) (κ.1 2).toNatClampNeg (some b12))) 2 x15) H := CH.cong hP rfl rfl rfl rfl rfl rfl rfl rfl rfl rfl rfl rfl rfl rfl rfl rfl rfl rfl rfl rfl rfl rfl rfl rfl rfl rfl rfl
      refine vx_ret ?_
      exact c_reti C hsz hsl ⟨P11, (va_up (κ.2.2.2.1 8) (κ.1 2).toNatClampNeg (some b12)), x15⟩ ⟨(exz9.trans hr10_0), hr10_1, svz14, (vX11_make_7 κ k0 b2 x15 x16 hpre_0 hpre_1 hpre_2 hpre_3 hr1_1_0 hr1_1_1 hr1_1_2 c4 ex15 tx15 ex16 tx16)⟩ hP hS ⟨(Nat.le_of_ble_eq_true rfl), (Nat.le_of_ble_eq_true rfl)⟩ ⟨(Nat.le_of_ble_eq_true rfl), (Nat.le_of_ble_eq_true rfl)⟩ dX11_make_89
    · have c4 : 30 ≤ (κ.1 2).toInt := by have h := z_nlt c4; rw [show (30 : Int32).toInt = 30 from by decide +kernel] at h; exact h
      have hP : CH D cy ad A (tI (tQ (tP κ κ.2.2.2.2) 8 (κ.2.2.2.1 8)) 2 (κ.1 2)) H := CH.cong hP rfl rfl rfl rfl rfl rfl rfl rfl rfl rfl rfl rfl rfl rfl rfl rfl rfl rfl rfl rfl rfl rfl rfl rfl rfl rfl rfl
      exact c_ise C hfl hout ⟨κ.2.2.2.2, (κ.2.2.2.1 8), (κ.1 2)⟩ ⟨EX.rf, hPV, hSV, (Or.inr ⟨rfl, (vX11_make_8 κ k0 b2 hpre_0 hpre_1 hpre_2 hpre_3 hr1_1_0 hr1_1_1 hr1_1_2 c4)⟩), (vX11_make_9 κ hpre_2 hpre_3 c4)⟩ hP hS hl.1 cw_890 cw_891 (is := 151) (text := "there are 30 objects") (by decide +kernel) dX11_make_32 dX11_make_35 dX11_make_36 dX11_make_38 dX11_make_41 (Nat.le_of_ble_eq_true rfl) (Nat.le_of_ble_eq_true rfl) ⟨(Nat.le_of_ble_eq_true rfl), (Nat.le_of_ble_eq_true rfl)⟩ ⟨(Nat.le_of_ble_eq_true rfl), (Nat.le_of_ble_eq_true rfl)⟩

-- thrown @49
theorem vX11_converter_1 (k0 : Int32) (k1 : Int32) (c1 : k0.toInt < 1) (c2 : k0.toInt < 8) : ¬ (((1 ≤ k0.toInt ∧ k0.toInt ≤ 5) ∨ (8 ≤ k0.toInt ∧ k0.toInt ≤ 12)) ∧ 1 ≤ k1.toInt ∧ k1.toInt ≤ 4 ∧ ¬ k0.toInt = k1.toInt) := by
  first | assumption | omega | (subst_vars; omega) | trivial
-- xpost @49
theorem vX11_converter_2 (κ : KS)  : (κ.2.2.1 14) = (κ.2.2.1 14) := by
  first | assumption | omega | (subst_vars; omega) | trivial
-- dead@13 @16
theorem vX11_converter_3 (k0 : Int32) (c1 : k0.toInt < 1) (c2 : 8 ≤ k0.toInt) : False := by
  first | assumption | omega | (subst_vars; omega) | trivial
-- thrown @49
theorem vX11_converter_4 (k0 : Int32) (k1 : Int32) (c1 : 1 ≤ k0.toInt) (c4 : k0.toInt ≤ 5) (c6 : k1.toInt < 1) : ¬ (((1 ≤ k0.toInt ∧ k0.toInt ≤ 5) ∨ (8 ≤ k0.toInt ∧ k0.toInt ≤ 12)) ∧ 1 ≤ k1.toInt ∧ k1.toInt ≤ 4 ∧ ¬ k0.toInt = k1.toInt) := by
  first | assumption | omega | (subst_vars; omega) | trivial
-- thrown @49
theorem vX11_converter_5 (k0 : Int32) (k1 : Int32) (c1 : 1 ≤ k0.toInt) (c4 : k0.toInt ≤ 5) (c6 : 1 ≤ k1.toInt) (c7 : 4 < k1.toInt) : ¬ (((1 ≤ k0.toInt ∧ k0.toInt ≤ 5) ∨ (8 ≤ k0.toInt ∧ k0.toInt ≤ 12)) ∧ 1 ≤ k1.toInt ∧ k1.toInt ≤ 4 ∧ ¬ k0.toInt = k1.toInt) := by
  first | assumption | omega | (subst_vars; omega) | trivial
-- pre:X0_change@69 @69
theorem vX11_converter_6 (k2 : Int32) (hpre_0 : 0 ≤ k2.toInt) (hpre_1 : k2.toInt ≤ 1) : 0 ≤ k2.toInt ∧ k2.toInt ≤ 1 := by
  refine ⟨?_, ?_⟩ <;> first | assumption | omega | (subst_vars; omega) | trivial
-- retz @72
theorem vX11_converter_7 (κ : KS) (k0 : Int32) (k1 : Int32) (k2 : Int32) (F10 : (Nat → Int32)) (r9 : Int32) (hpre_0 : 0 ≤ k2.toInt) (hpre_1 : k2.toInt ≤ 1) (c1 : 1 ≤ k0.toInt) (c4 : k0.toInt ≤ 5) (c6 : 1 ≤ k1.toInt) (c7 : k1.toInt ≤ 4) (c8 : ¬ k0.toInt = k1.toInt) (hr9_0_0 : 0 ≤ r9.toInt) (hr9_0_1 : r9.toInt ≤ 1) (hr9_1 : ((1 ≤ k1.toInt ∧ k1.toInt ≤ 4 ∧ 0 ≤ k0.toInt ∧ k0.toInt ≤ 12) → (((r9.toInt = 1 ∧ ¬ ((κ.2.2.1 14) (5 * k0.toInt + k1.toInt).toNat).toInt = 0) ∨ (r9.toInt = 0 ∧ ((κ.2.2.1 14) (5 * k0.toInt + k1.toInt).toNat).toInt = 0)) ∧ F10 = upd (κ.2.2.1 14) (5 * k0.toInt + k1.toInt).toNat k2))) : 0 ≤ r9.toInt ∧ r9.toInt ≤ 1 := by
  refine ⟨?_, ?_⟩ <;> first | assumption | omega | (subst_vars; omega) | trivial
-- post @72
theorem vX11_converter_8 (κ : KS) (k0 : Int32) (k1 : Int32) (k2 : Int32) (F10 : (Nat → Int32)) (r9 : Int32) (hpre_0 : 0 ≤ k2.toInt) (hpre_1 : k2.toInt ≤ 1) (c1 : 1 ≤ k0.toInt) (c4 : k0.toInt ≤ 5) (c6 : 1 ≤ k1.toInt) (c7 : k1.toInt ≤ 4) (c8 : ¬ k0.toInt = k1.toInt) (hr9_0_0 : 0 ≤ r9.toInt) (hr9_0_1 : r9.toInt ≤ 1) (hr9_1 : ((1 ≤ k1.toInt ∧ k1.toInt ≤ 4 ∧ 0 ≤ k0.toInt ∧ k0.toInt ≤ 12) → (((r9.toInt = 1 ∧ ¬ ((κ.2.2.1 14) (5 * k0.toInt + k1.toInt).toNat).toInt = 0) ∨ (r9.toInt = 0 ∧ ((κ.2.2.1 14) (5 * k0.toInt + k1.toInt).toNat).toInt = 0)) ∧ F10 = upd (κ.2.2.1 14) (5 * k0.toInt + k1.toInt).toNat k2))) : (((1 ≤ k0.toInt ∧ k0.toInt ≤ 5) ∨ (8 ≤ k0.toInt ∧ k0.toInt ≤ 12)) ∧ 1 ≤ k1.toInt ∧ k1.toInt ≤ 4 ∧ ¬ k0.toInt = k1.toInt) ∧ ((r9.toInt = 1 ∧ ¬ ((κ.2.2.1 14) (5 * k0.toInt + k1.toInt).toNat).toInt = 0) ∨ (r9.toInt = 0 ∧ ((κ.2.2.1 14) (5 * k0.toInt + k1.toInt).toNat).toInt = 0)) ∧ F10 = upd (κ.2.2.1 14) (5 * k0.toInt + k1.toInt).toNat k2 := by
  have hv : 1 ≤ k1.toInt ∧ k1.toInt ≤ 4 ∧ 0 ≤ k0.toInt ∧ k0.toInt ≤ 12 := by omega
  exact ⟨by omega, (hr9_1 hv).1, (hr9_1 hv).2⟩
-- bool@ret @72
theorem vX11_converter_9 (κ : KS) (k0 : Int32) (k1 : Int32) (k2 : Int32) (F10 : (Nat → Int32)) (r9 : Int32) (hpre_0 : 0 ≤ k2.toInt) (hpre_1 : k2.toInt ≤ 1) (c1 : 1 ≤ k0.toInt) (c4 : k0.toInt ≤ 5) (c6 : 1 ≤ k1.toInt) (c7 : k1.toInt ≤ 4) (c8 : ¬ k0.toInt = k1.toInt) (hr9_0_0 : 0 ≤ r9.toInt) (hr9_0_1 : r9.toInt ≤ 1) (hr9_1 : ((1 ≤ k1.toInt ∧ k1.toInt ≤ 4 ∧ 0 ≤ k0.toInt ∧ k0.toInt ≤ 12) → (((r9.toInt = 1 ∧ ¬ ((κ.2.2.1 14) (5 * k0.toInt + k1.toInt).toNat).toInt = 0) ∨ (r9.toInt = 0 ∧ ((κ.2.2.1 14) (5 * k0.toInt + k1.toInt).toNat).toInt = 0)) ∧ F10 = upd (κ.2.2.1 14) (5 * k0.toInt + k1.toInt).toNat k2))) : r9 = 0 ∨ r9 = 1 := by
  first | assumption | exact bool_of (by omega)
-- thrown @49
theorem vX11_converter_10 (k0 : Int32) (k1 : Int32) (c1 : 1 ≤ k0.toInt) (c4 : k0.toInt ≤ 5) (c6 : 1 ≤ k1.toInt) (c7 : k1.toInt ≤ 4) (c8 : k0.toInt = k1.toInt) : ¬ (((1 ≤ k0.toInt ∧ k0.toInt ≤ 5) ∨ (8 ≤ k0.toInt ∧ k0.toInt ≤ 12)) ∧ 1 ≤ k1.toInt ∧ k1.toInt ≤ 4 ∧ ¬ k0.toInt = k1.toInt) := by
  first | assumption | omega | (subst_vars; omega) | trivial
-- thrown @49
theorem vX11_converter_11 (k0 : Int32) (k1 : Int32) (c1 : 1 ≤ k0.toInt) (c4 : 5 < k0.toInt) (c11 : k0.toInt < 8) : ¬ (((1 ≤ k0.toInt ∧ k0.toInt ≤ 5) ∨ (8 ≤ k0.toInt ∧ k0.toInt ≤ 12)) ∧ 1 ≤ k1.toInt ∧ k1.toInt ≤ 4 ∧ ¬ k0.toInt = k1.toInt) := by
  first | assumption | omega | (subst_vars; omega) | trivial
-- thrown @49
theorem vX11_converter_12 (k0 : Int32) (k1 : Int32) (c1 : 1 ≤ k0.toInt) (c4 : 5 < k0.toInt) (c11 : 8 ≤ k0.toInt) (c13 : 13 ≤ k0.toInt) : ¬ (((1 ≤ k0.toInt ∧ k0.toInt ≤ 5) ∨ (8 ≤ k0.toInt ∧ k0.toInt ≤ 12)) ∧ 1 ≤ k1.toInt ∧ k1.toInt ≤ 4 ∧ ¬ k0.toInt = k1.toInt) := by
  first | assumption | omega | (subst_vars; omega) | trivial
-- thrown @49
theorem vX11_converter_13 (k0 : Int32) (k1 : Int32) (c1 : 1 ≤ k0.toInt) (c4 : 5 < k0.toInt) (c11 : 8 ≤ k0.toInt) (c13 : k0.toInt < 13) (c16 : k1.toInt < 1) : ¬ (((1 ≤ k0.toInt ∧ k0.toInt ≤ 5) ∨ (8 ≤ k0.toInt ∧ k0.toInt ≤ 12)) ∧ 1 ≤ k1.toInt ∧ k1.toInt ≤ 4 ∧ ¬ k0.toInt = k1.toInt) := by
  first | assumption | omega | (subst_vars; omega) | trivial
-- thrown @49
theorem vX11_converter_14 (k0 : Int32) (k1 : Int32) (c1 : 1 ≤ k0.toInt) (c4 : 5 < k0.toInt) (c11 : 8 ≤ k0.toInt) (c13 : k0.toInt < 13) (c16 : 1 ≤ k1.toInt) (c17 : 4 < k1.toInt) : ¬ (((1 ≤ k0.toInt ∧ k0.toInt ≤ 5) ∨ (8 ≤ k0.toInt ∧ k0.toInt ≤ 12)) ∧ 1 ≤ k1.toInt ∧ k1.toInt ≤ 4 ∧ ¬ k0.toInt = k1.toInt) := by
  first | assumption | omega | (subst_vars; omega) | trivial
-- retz @72
theorem vX11_converter_15 (κ : KS) (k0 : Int32) (k1 : Int32) (k2 : Int32) (F20 : (Nat → Int32)) (r19 : Int32) (hpre_0 : 0 ≤ k2.toInt) (hpre_1 : k2.toInt ≤ 1) (c1 : 1 ≤ k0.toInt) (c4 : 5 < k0.toInt) (c11 : 8 ≤ k0.toInt) (c13 : k0.toInt < 13) (c16 : 1 ≤ k1.toInt) (c17 : k1.toInt ≤ 4) (c18 : ¬ k0.toInt = k1.toInt) (hr19_0_0 : 0 ≤ r19.toInt) (hr19_0_1 : r19.toInt ≤ 1) (hr19_1 : ((1 ≤ k1.toInt ∧ k1.toInt ≤ 4 ∧ 0 ≤ k0.toInt ∧ k0.toInt ≤ 12) → (((r19.toInt = 1 ∧ ¬ ((κ.2.2.1 14) (5 * k0.toInt + k1.toInt).toNat).toInt = 0) ∨ (r19.toInt = 0 ∧ ((κ.2.2.1 14) (5 * k0.toInt + k1.toInt).toNat).toInt = 0)) ∧ F20 = upd (κ.2.2.1 14) (5 * k0.toInt + k1.toInt).toNat k2))) : 0 ≤ r19.toInt ∧ r19.toInt ≤ 1 := by
  refine ⟨?_, ?_⟩ <;> first | assumption | omega | (subst_vars; omega) | trivial
-- post @72
theorem vX11_converter_16 (κ : KS) (k0 : Int32) (k1 : Int32) (k2 : Int32) (F20 : (Nat → Int32)) (r19 : Int32) (hpre_0 : 0 ≤ k2.toInt) (hpre_1 : k2.toInt ≤ 1) (c1 : 1 ≤ k0.toInt) (c4 : 5 < k0.toInt) (c11 : 8 ≤ k0.toInt) (c13 : k0.toInt < 13) (c16 : 1 ≤ k1.toInt) (c17 : k1.toInt ≤ 4) (c18 : ¬ k0.toInt = k1.toInt) (hr19_0_0 : 0 ≤ r19.toInt) (hr19_0_1 : r19.toInt ≤ 1) (hr19_1 : ((1 ≤ k1.toInt ∧ k1.toInt ≤ 4 ∧ 0 ≤ k0.toInt ∧ k0.toInt ≤ 12) → (((r19.toInt = 1 ∧ ¬ ((κ.2.2.1 14) (5 * k0.toInt + k1.toInt).toNat).toInt = 0) ∨ (r19.toInt = 0 ∧ ((κ.2.2.1 14) (5 * k0.toInt + k1.toInt).toNat).toInt = 0)) ∧ F20 = upd (κ.2.2.1 14) (5 * k0.toInt + k1.toInt).toNat k2))) : (((1 ≤ k0.toInt ∧ k0.toInt ≤ 5) ∨ (8 ≤ k0.toInt ∧ k0.toInt ≤ 12)) ∧ 1 ≤ k1.toInt ∧ k1.toInt ≤ 4 ∧ ¬ k0.toInt = k1.toInt) ∧ ((r19.toInt = 1 ∧ ¬ ((κ.2.2.1 14) (5 * k0.toInt + k1.toInt).toNat).toInt = 0) ∨ (r19.toInt = 0 ∧ ((κ.2.2.1 14) (5 * k0.toInt + k1.toInt).toNat).toInt = 0)) ∧ F20 = upd (κ.2.2.1 14) (5 * k0.toInt + k1.toInt).toNat k2 := by
  have hv : 1 ≤ k1.toInt ∧ k1.toInt ≤ 4 ∧ 0 ≤ k0.toInt ∧ k0.toInt ≤ 12 := by omega
  exact ⟨by omega, (hr19_1 hv).1, (hr19_1 hv).2⟩
-- bool@ret @72
theorem vX11_converter_17 (κ : KS) (k0 : Int32) (k1 : Int32) (k2 : Int32) (F20 : (Nat → Int32)) (r19 : Int32) (hpre_0 : 0 ≤ k2.toInt) (hpre_1 : k2.toInt ≤ 1) (c1 : 1 ≤ k0.toInt) (c4 : 5 < k0.toInt) (c11 : 8 ≤ k0.toInt) (c13 : k0.toInt < 13) (c16 : 1 ≤ k1.toInt) (c17 : k1.toInt ≤ 4) (c18 : ¬ k0.toInt = k1.toInt) (hr19_0_0 : 0 ≤ r19.toInt) (hr19_0_1 : r19.toInt ≤ 1) (hr19_1 : ((1 ≤ k1.toInt ∧ k1.toInt ≤ 4 ∧ 0 ≤ k0.toInt ∧ k0.toInt ≤ 12) → (((r19.toInt = 1 ∧ ¬ ((κ.2.2.1 14) (5 * k0.toInt + k1.toInt).toNat).toInt = 0) ∨ (r19.toInt = 0 ∧ ((κ.2.2.1 14) (5 * k0.toInt + k1.toInt).toNat).toInt = 0)) ∧ F20 = upd (κ.2.2.1 14) (5 * k0.toInt + k1.toInt).toNat k2))) : r19 = 0 ∨ r19 = 1 := by
  first | assumption | exact bool_of (by omega)
-- thrown @49
theorem vX11_converter_18 (k0 : Int32) (k1 : Int32) (c1 : 1 ≤ k0.toInt) (c4 : 5 < k0.toInt) (c11 : 8 ≤ k0.toInt) (c13 : k0.toInt < 13) (c16 : 1 ≤ k1.toInt) (c17 : k1.toInt ≤ 4) (c18 : k0.toInt = k1.toInt) : ¬ (((1 ≤ k0.toInt ∧ k0.toInt ≤ 5) ∨ (8 ≤ k0.toInt ∧ k0.toInt ≤ 12)) ∧ 1 ≤ k1.toInt ∧ k1.toInt ≤ 4 ∧ ¬ k0.toInt = k1.toInt) := by
  first | assumption | omega | (subst_vars; omega) | trivial
set_option maxHeartbeats 4000000 in
set_option maxRecDepth 100000 in
theorem NX11_converter (l : Launch) (D : va_G) (cy : Nat → ClassId) (ad : Nat → Nat) (A : Nat → Prop) (sz0 : Nat) (sa : Nat → Nat) (hfl : l.stackTraces = false) (κ : KS) (sz sl : Nat) (hAF : ∀ q, A q → Fr sz0 q) (hAn : ∀ q : Nat, sz ≤ q → A q) (k0 : Int32) (k1 : Int32) (k2 : Int32) (hPV : PV sa κ.2.2.2.2) (hpre : 0 ≤ k2.toInt ∧ k2.toInt ≤ 1) : vx_Met l yX11_converter (Cond.code yX11_converter cX11_converter 5 (some .boolean) :: GWc) ({ frames := 6, cells := 1, slots := 6, locals := 90 }) (PcC D cy ad A sz0 sa [.ref (ad 0), .int k0, .int k1, .int k2] κ sz sl) (va_Qi (fun (r : Int32) (u : (Nat → Int32)) => (0 ≤ r.toInt ∧ r.toInt ≤ 1) ∧ ((((1 ≤ k0.toInt ∧ k0.toInt ≤ 5) ∨ (8 ≤ k0.toInt ∧ k0.toInt ≤ 12)) ∧ 1 ≤ k1.toInt ∧ k1.toInt ≤ 4 ∧ ¬ k0.toInt = k1.toInt) ∧ ((r.toInt = 1 ∧ ¬ ((κ.2.2.1 14) (5 * k0.toInt + k1.toInt).toNat).toInt = 0) ∨ (r.toInt = 0 ∧ ((κ.2.2.1 14) (5 * k0.toInt + k1.toInt).toNat).toInt = 0)) ∧ u = upd (κ.2.2.1 14) (5 * k0.toInt + k1.toInt).toNat k2)) (fun (u : (Nat → Int32)) (t : State) => Bx D cy ad A sz sl (tA κ 14 u) (0) (0) t) A) (TX D cy ad A (fun (E : String) (u : (Nat → Int32)) => ((E = tIAE ∧ (¬ (((1 ≤ k0.toInt ∧ k0.toInt ≤ 5) ∨ (8 ≤ k0.toInt ∧ k0.toInt ≤ 12)) ∧ 1 ≤ k1.toInt ∧ k1.toInt ≤ 4 ∧ ¬ k0.toInt = k1.toInt))) ∨ (E = tISE ∧ (False))) ∧ (u = (κ.2.2.1 14))) (fun (u : (Nat → Int32)) => (tA κ 14 u))) (1) (6) A := by
  refine CM_ofX (loc0 := [(0, .ref (ad 0)), (1, .int k0), (2, .int k1), (3, .int k2)]) (own := RX11) (nm := "converter") (by decide) rfl rfl rfl (Nat.le_of_ble_eq_true rfl) hAF hAn ?_
  intro p e s m below meth c ls hsz hsl hout C hP hS hl
  obtain ⟨hpre_0, hpre_1⟩ := hpre
  refine lv_iload_n C.x C.b dX11_converter_0 rfl (lv_at hl 1 rfl) ?_
  refine lv_iconst (v := 1) C.x C.b dX11_converter_1 (by decide +kernel) ?_
  refine lv_icmp_lt (tgt := 10) C.x C.b dX11_converter_2 (by decide) (fun c1 => ?_) (fun c1 => ?_)
  · have c1 : k0.toInt < 1 := by have h := z_lt c1; rw [show (1 : Int32).toInt = 1 from by decide +kernel] at h; exact h
    refine lv_iload_n C.x C.b dX11_converter_10 rfl (lv_at hl 1 rfl) ?_
    refine lv_bipush (v := 8) C.x C.b dX11_converter_11 (by decide +kernel) ?_
    refine lv_icmp_lt (tgt := 26) C.x C.b dX11_converter_13 (by decide) (fun c2 => ?_) (fun c2 => ?_)
    · have c2 : k0.toInt < 8 := by have h := z_lt c2; rw [show (8 : Int32).toInt = 8 from by decide +kernel] at h; exact h
      refine lv_iconst (v := 0) C.x C.b dX11_converter_26 (by decide +kernel) ?_
      refine lv_istore (lv' := [(4, .int 0), (0, .ref (ad 0)), (1, .int k0), (2, .int k1), (3, .int k2)]) C.x C.b dX11_converter_27 hl (by decide) rfl (fun ls hl => ?_)
      refine lv_iload C.x C.b dX11_converter_29 (lv_at hl 0 rfl) ?_
      refine lv_if_eq (tgt := 49) C.x C.b dX11_converter_31 (by decide) (fun _ => ?_) (fun c3 => absurd (by decide +kernel) c3)
      have hP : CH D cy ad A (tA κ 14 (κ.2.2.1 14)) s.heap := CH.cong hP rfl rfl rfl rfl rfl rfl rfl rfl rfl rfl rfl rfl rfl rfl rfl rfl rfl rfl rfl rfl rfl rfl rfl rfl rfl rfl rfl
      exact c_iae C hfl hout (κ.2.2.1 14) ⟨(Or.inl ⟨rfl, (vX11_converter_1 k0 k1 c1 c2)⟩), (vX11_converter_2 κ )⟩ hP hS hl.1 cw_888 cw_889 (is := 165) (text := "no converter goes from and to such types") (by decide +kernel) dX11_converter_49 dX11_converter_52 dX11_converter_53 dX11_converter_55 dX11_converter_58 (Nat.le_of_ble_eq_true rfl) (Nat.le_of_ble_eq_true rfl) ⟨(Nat.le_of_ble_eq_true rfl), (Nat.le_of_ble_eq_true rfl)⟩ ⟨(Nat.le_of_ble_eq_true rfl), (Nat.le_of_ble_eq_true rfl)⟩
    · have c2 : 8 ≤ k0.toInt := by have h := z_nlt c2; rw [show (8 : Int32).toInt = 8 from by decide +kernel] at h; exact h
      exact absurd (vX11_converter_3 k0 c1 c2) id
  · have c1 : 1 ≤ k0.toInt := by have h := z_nlt c1; rw [show (1 : Int32).toInt = 1 from by decide +kernel] at h; exact h
    refine lv_iload_n C.x C.b dX11_converter_5 rfl (lv_at hl 1 rfl) ?_
    refine lv_iconst (v := 5) C.x C.b dX11_converter_6 (by decide +kernel) ?_
    refine lv_icmp_le (tgt := 22) C.x C.b dX11_converter_7 (by decide) (fun c4 => ?_) (fun c4 => ?_)
    · have c4 : k0.toInt ≤ 5 := by have h := z_le c4; rw [show (5 : Int32).toInt = 5 from by decide +kernel] at h; exact h
      refine lv_iconst (v := 1) C.x C.b dX11_converter_22 (by decide +kernel) ?_
      refine lv_goto (tgt := 27) C.x C.b dX11_converter_23 (by decide) ?_
      refine lv_istore (lv' := [(4, .int 1), (0, .ref (ad 0)), (1, .int k0), (2, .int k1), (3, .int k2)]) C.x C.b dX11_converter_27 hl (by decide) rfl (fun ls hl => ?_)
      refine lv_iload C.x C.b dX11_converter_29 (lv_at hl 0 rfl) ?_
      refine lv_if_eq (tgt := 49) C.x C.b dX11_converter_31 (by decide) (fun c5 => absurd c5 (by decide +kernel)) (fun _ => ?_)
      refine lv_iload_n C.x C.b dX11_converter_34 rfl (lv_at hl 3 rfl) ?_
      refine lv_iconst (v := 1) C.x C.b dX11_converter_35 (by decide +kernel) ?_
      refine lv_icmp_lt (tgt := 49) C.x C.b dX11_converter_36 (by decide) (fun c6 => ?_) (fun c6 => ?_)
      · have c6 : k1.toInt < 1 := by have h := z_lt c6; rw [show (1 : Int32).toInt = 1 from by decide +kernel] at h; exact h
        have hP : CH D cy ad A (tA κ 14 (κ.2.2.1 14)) s.heap := CH.cong hP rfl rfl rfl rfl rfl rfl rfl rfl rfl rfl rfl rfl rfl rfl rfl rfl rfl rfl rfl rfl rfl rfl rfl rfl rfl rfl rfl
        exact c_iae C hfl hout (κ.2.2.1 14) ⟨(Or.inl ⟨rfl, (vX11_converter_4 k0 k1 c1 c4 c6)⟩), (vX11_converter_2 κ )⟩ hP hS hl.1 cw_888 cw_889 (is := 165) (text := "no converter goes from and to such types") (by decide +kernel) dX11_converter_49 dX11_converter_52 dX11_converter_53 dX11_converter_55 dX11_converter_58 (Nat.le_of_ble_eq_true rfl) (Nat.le_of_ble_eq_true rfl) ⟨(Nat.le_of_ble_eq_true rfl), (Nat.le_of_ble_eq_true rfl)⟩ ⟨(Nat.le_of_ble_eq_true rfl), (Nat.le_of_ble_eq_true rfl)⟩
      · have c6 : 1 ≤ k1.toInt := by have h := z_nlt c6; rw [show (1 : Int32).toInt = 1 from by decide +kernel] at h; exact h
        refine lv_iload_n C.x C.b dX11_converter_39 rfl (lv_at hl 3 rfl) ?_
        refine lv_iconst (v := 4) C.x C.b dX11_converter_40 (by decide +kernel) ?_
        refine lv_icmp_gt (tgt := 49) C.x C.b dX11_converter_41 (by decide) (fun c7 => ?_) (fun c7 => ?_)
        · have c7 : 4 < k1.toInt := by have h := z_lt c7; rw [show (4 : Int32).toInt = 4 from by decide +kernel] at h; exact h
          have hP : CH D cy ad A (tA κ 14 (κ.2.2.1 14)) s.heap := CH.cong hP rfl rfl rfl rfl rfl rfl rfl rfl rfl rfl rfl rfl rfl rfl rfl rfl rfl rfl rfl rfl rfl rfl rfl rfl rfl rfl rfl
          exact c_iae C hfl hout (κ.2.2.1 14) ⟨(Or.inl ⟨rfl, (vX11_converter_5 k0 k1 c1 c4 c6 c7)⟩), (vX11_converter_2 κ )⟩ hP hS hl.1 cw_888 cw_889 (is := 165) (text := "no converter goes from and to such types") (by decide +kernel) dX11_converter_49 dX11_converter_52 dX11_converter_53 dX11_converter_55 dX11_converter_58 (Nat.le_of_ble_eq_true rfl) (Nat.le_of_ble_eq_true rfl) ⟨(Nat.le_of_ble_eq_true rfl), (Nat.le_of_ble_eq_true rfl)⟩ ⟨(Nat.le_of_ble_eq_true rfl), (Nat.le_of_ble_eq_true rfl)⟩
        · have c7 : k1.toInt ≤ 4 := by have h := z_nlt c7; rw [show (4 : Int32).toInt = 4 from by decide +kernel] at h; exact h
          refine lv_iload_n C.x C.b dX11_converter_44 rfl (lv_at hl 2 rfl) ?_
          refine lv_iload_n C.x C.b dX11_converter_45 rfl (lv_at hl 3 rfl) ?_
          refine lv_icmp_ne (tgt := 59) C.x C.b dX11_converter_46 (by decide) (fun c8 => ?_) (fun c8 => ?_)
          · have c8 : ¬ k0.toInt = k1.toInt := by have h := z_ne c8; exact h
            refine lv_aload_n C.x C.b dX11_converter_59 rfl (lv_at hl 1 rfl) ?_
            refine cg_X11_1 C hP cw_874 dX11_converter_60 ?_
            refine cg_X8_1 C hP cw_952 dX11_converter_63 ?_
            refine lv_iload_n C.x C.b dX11_converter_66 rfl (lv_at hl 2 rfl) ?_
            refine lv_iload_n C.x C.b dX11_converter_67 rfl (lv_at hl 3 rfl) ?_
            refine lv_iload_n C.x C.b dX11_converter_68 rfl (lv_at hl 4 rfl) ?_
            refine c_callVi (n := 3) (As := [.int k0, .int k1, .int k2]) (rest := []) C hP hS hl.1 (NX0_change l D cy ad A sz0 sa κ s.heap.size (SLT s.heap) C.f (fun q h => C.a q (Nat.le_trans hS.1 h)) k0 k1 k2 hPV (vX11_converter_6 k2 hpre_0 hpre_1)) ⟨cw_953, cw_30, by decide +kernel⟩ ⟨cw_954, cw_955, cw_34⟩ rfl (hP.recvS (k := 4) (ci := 2) C.K rfl rfl) rfl rfl (lv_room (Nat.le_of_ble_eq_true rfl)) ⟨Nat.le_of_ble_eq_true rfl, Nat.le_of_ble_eq_true rfl⟩ ⟨(Nat.le_of_ble_eq_true rfl), (Nat.le_of_ble_eq_true rfl)⟩ dX11_converter_69 (fun r9 u H locs hr9 hP hS => ?_)
            obtain ⟨F10, rfl⟩ : ∃ z, z = u := ⟨_, rfl⟩
            have hP : CH D cy ad A (tA κ 14 F10) H := hP
            have hr9 : (0 ≤ r9.toInt ∧ r9.toInt ≤ 1) ∧ (((1 ≤ k1.toInt ∧ k1.toInt ≤ 4 ∧ 0 ≤ k0.toInt ∧ k0.toInt ≤ 12) → (((r9.toInt = 1 ∧ ¬ ((κ.2.2.1 14) (5 * k0.toInt + k1.toInt).toNat).toInt = 0) ∨ (r9.toInt = 0 ∧ ((κ.2.2.1 14) (5 * k0.toInt + k1.toInt).toNat).toInt = 0)) ∧ F10 = upd (κ.2.2.1 14) (5 * k0.toInt + k1.toInt).toNat k2))) := hr9
            obtain ⟨hr9_0, hr9_1⟩ := hr9
            obtain ⟨hr9_0_0, hr9_0_1⟩ := hr9_0
            refine vx_ret ?_
            exact c_retz (ty := .boolean) (hv := (by rcases (vX11_converter_9 κ k0 k1 k2 F10 r9 hpre_0 hpre_1 c1 c4 c6 c7 c8 hr9_0_0 hr9_0_1 hr9_1) with h | h <;> rw [h] <;> rfl)) C hsz hsl F10 ⟨(vX11_converter_7 κ k0 k1 k2 F10 r9 hpre_0 hpre_1 c1 c4 c6 c7 c8 hr9_0_0 hr9_0_1 hr9_1), (vX11_converter_8 κ k0 k1 k2 F10 r9 hpre_0 hpre_1 c1 c4 c6 c7 c8 hr9_0_0 hr9_0_1 hr9_1)⟩ hP hS ⟨(Nat.le_of_ble_eq_true rfl), (Nat.le_of_ble_eq_true rfl)⟩ ⟨(Nat.le_of_ble_eq_true rfl), (Nat.le_of_ble_eq_true rfl)⟩ dX11_converter_72
          · have c8 : k0.toInt = k1.toInt := by have h := z_eq c8; exact h
            have hP : CH D cy ad A (tA κ 14 (κ.2.2.1 14)) s.heap := CH.cong hP rfl rfl rfl rfl rfl rfl rfl rfl rfl rfl rfl rfl rfl rfl rfl rfl rfl rfl rfl rfl rfl rfl rfl rfl rfl rfl rfl
            exact c_iae C hfl hout (κ.2.2.1 14) ⟨(Or.inl ⟨rfl, (vX11_converter_10 k0 k1 c1 c4 c6 c7 c8)⟩), (vX11_converter_2 κ )⟩ hP hS hl.1 cw_888 cw_889 (is := 165) (text := "no converter goes from and to such types") (by decide +kernel) dX11_converter_49 dX11_converter_52 dX11_converter_53 dX11_converter_55 dX11_converter_58 (Nat.le_of_ble_eq_true rfl) (Nat.le_of_ble_eq_true rfl) ⟨(Nat.le_of_ble_eq_true rfl), (Nat.le_of_ble_eq_true rfl)⟩ ⟨(Nat.le_of_ble_eq_true rfl), (Nat.le_of_ble_eq_true rfl)⟩
    · have c4 : 5 < k0.toInt := by have h := z_nle c4; rw [show (5 : Int32).toInt = 5 from by decide +kernel] at h; exact h
      refine lv_iload_n C.x C.b dX11_converter_10 rfl (lv_at hl 1 rfl) ?_
      refine lv_bipush (v := 8) C.x C.b dX11_converter_11 (by decide +kernel) ?_
      refine lv_icmp_lt (tgt := 26) C.x C.b dX11_converter_13 (by decide) (fun c11 => ?_) (fun c11 => ?_)
      · have c11 : k0.toInt < 8 := by have h := z_lt c11; rw [show (8 : Int32).toInt = 8 from by decide +kernel] at h; exact h
        refine lv_iconst (v := 0) C.x C.b dX11_converter_26 (by decide +kernel) ?_
        refine lv_istore (lv' := [(4, .int 0), (0, .ref (ad 0)), (1, .int k0), (2, .int k1), (3, .int k2)]) C.x C.b dX11_converter_27 hl (by decide) rfl (fun ls hl => ?_)
        refine lv_iload C.x C.b dX11_converter_29 (lv_at hl 0 rfl) ?_
        refine lv_if_eq (tgt := 49) C.x C.b dX11_converter_31 (by decide) (fun _ => ?_) (fun c12 => absurd (by decide +kernel) c12)
        have hP : CH D cy ad A (tA κ 14 (κ.2.2.1 14)) s.heap := CH.cong hP rfl rfl rfl rfl rfl rfl rfl rfl rfl rfl rfl rfl rfl rfl rfl rfl rfl rfl rfl rfl rfl rfl rfl rfl rfl rfl rfl
        exact c_iae C hfl hout (κ.2.2.1 14) ⟨(Or.inl ⟨rfl, (vX11_converter_11 k0 k1 c1 c4 c11)⟩), (vX11_converter_2 κ )⟩ hP hS hl.1 cw_888 cw_889 (is := 165) (text := "no converter goes from and to such types") (by decide +kernel) dX11_converter_49 dX11_converter_52 dX11_converter_53 dX11_converter_55 dX11_converter_58 (Nat.le_of_ble_eq_true rfl) (Nat.le_of_ble_eq_true rfl) ⟨(Nat.le_of_ble_eq_true rfl), (Nat.le_of_ble_eq_true rfl)⟩ ⟨(Nat.le_of_ble_eq_true rfl), (Nat.le_of_ble_eq_true rfl)⟩
      · have c11 : 8 ≤ k0.toInt := by have h := z_nlt c11; rw [show (8 : Int32).toInt = 8 from by decide +kernel] at h; exact h
        refine lv_iload_n C.x C.b dX11_converter_16 rfl (lv_at hl 1 rfl) ?_
        refine lv_bipush (v := 13) C.x C.b dX11_converter_17 (by decide +kernel) ?_
        refine lv_icmp_ge (tgt := 26) C.x C.b dX11_converter_19 (by decide) (fun c13 => ?_) (fun c13 => ?_)
        · have c13 : 13 ≤ k0.toInt := by have h := z_le c13; rw [show (13 : Int32).toInt = 13 from by decide +kernel] at h; exact h
          refine lv_iconst (v := 0) C.x C.b dX11_converter_26 (by decide +kernel) ?_
          refine lv_istore (lv' := [(4, .int 0), (0, .ref (ad 0)), (1, .int k0), (2, .int k1), (3, .int k2)]) C.x C.b dX11_converter_27 hl (by decide) rfl (fun ls hl => ?_)
          refine lv_iload C.x C.b dX11_converter_29 (lv_at hl 0 rfl) ?_
          refine lv_if_eq (tgt := 49) C.x C.b dX11_converter_31 (by decide) (fun _ => ?_) (fun c14 => absurd (by decide +kernel) c14)
          have hP : CH D cy ad A (tA κ 14 (κ.2.2.1 14)) s.heap := CH.cong hP rfl rfl rfl rfl rfl rfl rfl rfl rfl rfl rfl rfl rfl rfl rfl rfl rfl rfl rfl rfl rfl rfl rfl rfl rfl rfl rfl
          exact c_iae C hfl hout (κ.2.2.1 14) ⟨(Or.inl ⟨rfl, (vX11_converter_12 k0 k1 c1 c4 c11 c13)⟩), (vX11_converter_2 κ )⟩ hP hS hl.1 cw_888 cw_889 (is := 165) (text := "no converter goes from and to such types") (by decide +kernel) dX11_converter_49 dX11_converter_52 dX11_converter_53 dX11_converter_55 dX11_converter_58 (Nat.le_of_ble_eq_true rfl) (Nat.le_of_ble_eq_true rfl) ⟨(Nat.le_of_ble_eq_true rfl), (Nat.le_of_ble_eq_true rfl)⟩ ⟨(Nat.le_of_ble_eq_true rfl), (Nat.le_of_ble_eq_true rfl)⟩
        · have c13 : k0.toInt < 13 := by have h := z_nle c13; rw [show (13 : Int32).toInt = 13 from by decide +kernel] at h; exact h
          refine lv_iconst (v := 1) C.x C.b dX11_converter_22 (by decide +kernel) ?_
          refine lv_goto (tgt := 27) C.x C.b dX11_converter_23 (by decide) ?_
          refine lv_istore (lv' := [(4, .int 1), (0, .ref (ad 0)), (1, .int k0), (2, .int k1), (3, .int k2)]) C.x C.b dX11_converter_27 hl (by decide) rfl (fun ls hl => ?_)
          refine lv_iload C.x C.b dX11_converter_29 (lv_at hl 0 rfl) ?_
          refine lv_if_eq (tgt := 49) C.x C.b dX11_converter_31 (by decide) (fun c15 => absurd c15 (by decide +kernel)) (fun _ => ?_)
          refine lv_iload_n C.x C.b dX11_converter_34 rfl (lv_at hl 3 rfl) ?_
          refine lv_iconst (v := 1) C.x C.b dX11_converter_35 (by decide +kernel) ?_
          refine lv_icmp_lt (tgt := 49) C.x C.b dX11_converter_36 (by decide) (fun c16 => ?_) (fun c16 => ?_)
          · have c16 : k1.toInt < 1 := by have h := z_lt c16; rw [show (1 : Int32).toInt = 1 from by decide +kernel] at h; exact h
            have hP : CH D cy ad A (tA κ 14 (κ.2.2.1 14)) s.heap := CH.cong hP rfl rfl rfl rfl rfl rfl rfl rfl rfl rfl rfl rfl rfl rfl rfl rfl rfl rfl rfl rfl rfl rfl rfl rfl rfl rfl rfl
            exact c_iae C hfl hout (κ.2.2.1 14) ⟨(Or.inl ⟨rfl, (vX11_converter_13 k0 k1 c1 c4 c11 c13 c16)⟩), (vX11_converter_2 κ )⟩ hP hS hl.1 cw_888 cw_889 (is := 165) (text := "no converter goes from and to such types") (by decide +kernel) dX11_converter_49 dX11_converter_52 dX11_converter_53 dX11_converter_55 dX11_converter_58 (Nat.le_of_ble_eq_true rfl) (Nat.le_of_ble_eq_true rfl) ⟨(Nat.le_of_ble_eq_true rfl), (Nat.le_of_ble_eq_true rfl)⟩ ⟨(Nat.le_of_ble_eq_true rfl), (Nat.le_of_ble_eq_true rfl)⟩
          · have c16 : 1 ≤ k1.toInt := by have h := z_nlt c16; rw [show (1 : Int32).toInt = 1 from by decide +kernel] at h; exact h
            refine lv_iload_n C.x C.b dX11_converter_39 rfl (lv_at hl 3 rfl) ?_
            refine lv_iconst (v := 4) C.x C.b dX11_converter_40 (by decide +kernel) ?_
            refine lv_icmp_gt (tgt := 49) C.x C.b dX11_converter_41 (by decide) (fun c17 => ?_) (fun c17 => ?_)
            · have c17 : 4 < k1.toInt := by have h := z_lt c17; rw [show (4 : Int32).toInt = 4 from by decide +kernel] at h; exact h
              have hP : CH D cy ad A (tA κ 14 (κ.2.2.1 14)) s.heap := CH.cong hP rfl rfl rfl rfl rfl rfl rfl rfl rfl rfl rfl rfl rfl rfl rfl rfl rfl rfl rfl rfl rfl rfl rfl rfl rfl rfl rfl
              exact c_iae C hfl hout (κ.2.2.1 14) ⟨(Or.inl ⟨rfl, (vX11_converter_14 k0 k1 c1 c4 c11 c13 c16 c17)⟩), (vX11_converter_2 κ )⟩ hP hS hl.1 cw_888 cw_889 (is := 165) (text := "no converter goes from and to such types") (by decide +kernel) dX11_converter_49 dX11_converter_52 dX11_converter_53 dX11_converter_55 dX11_converter_58 (Nat.le_of_ble_eq_true rfl) (Nat.le_of_ble_eq_true rfl) ⟨(Nat.le_of_ble_eq_true rfl), (Nat.le_of_ble_eq_true rfl)⟩ ⟨(Nat.le_of_ble_eq_true rfl), (Nat.le_of_ble_eq_true rfl)⟩
            · have c17 : k1.toInt ≤ 4 := by have h := z_nlt c17; rw [show (4 : Int32).toInt = 4 from by decide +kernel] at h; exact h
              refine lv_iload_n C.x C.b dX11_converter_44 rfl (lv_at hl 2 rfl) ?_
              refine lv_iload_n C.x C.b dX11_converter_45 rfl (lv_at hl 3 rfl) ?_
              refine lv_icmp_ne (tgt := 59) C.x C.b dX11_converter_46 (by decide) (fun c18 => ?_) (fun c18 => ?_)
              · have c18 : ¬ k0.toInt = k1.toInt := by have h := z_ne c18; exact h
                refine lv_aload_n C.x C.b dX11_converter_59 rfl (lv_at hl 1 rfl) ?_
                refine cg_X11_1 C hP cw_874 dX11_converter_60 ?_
                refine cg_X8_1 C hP cw_952 dX11_converter_63 ?_
                refine lv_iload_n C.x C.b dX11_converter_66 rfl (lv_at hl 2 rfl) ?_
                refine lv_iload_n C.x C.b dX11_converter_67 rfl (lv_at hl 3 rfl) ?_
                refine lv_iload_n C.x C.b dX11_converter_68 rfl (lv_at hl 4 rfl) ?_
                refine c_callVi (n := 3) (As := [.int k0, .int k1, .int k2]) (rest := []) C hP hS hl.1 (NX0_change l D cy ad A sz0 sa κ s.heap.size (SLT s.heap) C.f (fun q h => C.a q (Nat.le_trans hS.1 h)) k0 k1 k2 hPV (vX11_converter_6 k2 hpre_0 hpre_1)) ⟨cw_953, cw_30, by decide +kernel⟩ ⟨cw_954, cw_955, cw_34⟩ rfl (hP.recvS (k := 4) (ci := 2) C.K rfl rfl) rfl rfl (lv_room (Nat.le_of_ble_eq_true rfl)) ⟨Nat.le_of_ble_eq_true rfl, Nat.le_of_ble_eq_true rfl⟩ ⟨(Nat.le_of_ble_eq_true rfl), (Nat.le_of_ble_eq_true rfl)⟩ dX11_converter_69 (fun r19 u H locs hr19 hP hS => ?_)
                obtain ⟨F20, rfl⟩ : ∃ z, z = u := ⟨_, rfl⟩
                have hP : CH D cy ad A (tA κ 14 F20) H := hP
                have hr19 : (0 ≤ r19.toInt ∧ r19.toInt ≤ 1) ∧ (((1 ≤ k1.toInt ∧ k1.toInt ≤ 4 ∧ 0 ≤ k0.toInt ∧ k0.toInt ≤ 12) → (((r19.toInt = 1 ∧ ¬ ((κ.2.2.1 14) (5 * k0.toInt + k1.toInt).toNat).toInt = 0) ∨ (r19.toInt = 0 ∧ ((κ.2.2.1 14) (5 * k0.toInt + k1.toInt).toNat).toInt = 0)) ∧ F20 = upd (κ.2.2.1 14) (5 * k0.toInt + k1.toInt).toNat k2))) := hr19
                obtain ⟨hr19_0, hr19_1⟩ := hr19
                obtain ⟨hr19_0_0, hr19_0_1⟩ := hr19_0
                refine vx_ret ?_
                exact c_retz (ty := .boolean) (hv := (by rcases (vX11_converter_17 κ k0 k1 k2 F20 r19 hpre_0 hpre_1 c1 c4 c11 c13 c16 c17 c18 hr19_0_0 hr19_0_1 hr19_1) with h | h <;> rw [h] <;> rfl)) C hsz hsl F20 ⟨(vX11_converter_15 κ k0 k1 k2 F20 r19 hpre_0 hpre_1 c1 c4 c11 c13 c16 c17 c18 hr19_0_0 hr19_0_1 hr19_1), (vX11_converter_16 κ k0 k1 k2 F20 r19 hpre_0 hpre_1 c1 c4 c11 c13 c16 c17 c18 hr19_0_0 hr19_0_1 hr19_1)⟩ hP hS ⟨(Nat.le_of_ble_eq_true rfl), (Nat.le_of_ble_eq_true rfl)⟩ ⟨(Nat.le_of_ble_eq_true rfl), (Nat.le_of_ble_eq_true rfl)⟩ dX11_converter_72
              · have c18 : k0.toInt = k1.toInt := by have h := z_eq c18; exact h
                have hP : CH D cy ad A (tA κ 14 (κ.2.2.1 14)) s.heap := CH.cong hP rfl rfl rfl rfl rfl rfl rfl rfl rfl rfl rfl rfl rfl rfl rfl rfl rfl rfl rfl rfl rfl rfl rfl rfl rfl rfl rfl
                exact c_iae C hfl hout (κ.2.2.1 14) ⟨(Or.inl ⟨rfl, (vX11_converter_18 k0 k1 c1 c4 c11 c13 c16 c17 c18)⟩), (vX11_converter_2 κ )⟩ hP hS hl.1 cw_888 cw_889 (is := 165) (text := "no converter goes from and to such types") (by decide +kernel) dX11_converter_49 dX11_converter_52 dX11_converter_53 dX11_converter_55 dX11_converter_58 (Nat.le_of_ble_eq_true rfl) (Nat.le_of_ble_eq_true rfl) ⟨(Nat.le_of_ble_eq_true rfl), (Nat.le_of_ble_eq_true rfl)⟩ ⟨(Nat.le_of_ble_eq_true rfl), (Nat.le_of_ble_eq_true rfl)⟩

-- pre:X8_setVariable@26 @26
theorem vX11_keep_1 (κ : KS) (hpre_0 : 0 ≤ (κ.1 8).toInt) (hpre_1 : (κ.1 8).toInt ≤ 12) : 0 ≤ (κ.1 8).toInt ∧ (κ.1 8).toInt ≤ 12 := by
  refine ⟨?_, ?_⟩ <;> first | assumption | omega | (subst_vars; omega) | trivial
-- post @49
theorem vX11_keep_2 (n5 : Int32) (hr4_2_0 : 0 ≤ n5.toInt) (hr4_2_1 : n5.toInt ≤ 12) : 0 ≤ n5.toInt ∧ n5.toInt ≤ 12 := by
  refine ⟨?_, ?_⟩ <;> first | assumption | omega | (subst_vars; omega) | trivial
set_option maxHeartbeats 4000000 in
set_option maxRecDepth 100000 in
theorem NX11_keep (l : Launch) (D : va_G) (cy : Nat → ClassId) (ad : Nat → Nat) (A : Nat → Prop) (sz0 : Nat) (sa : Nat → Nat) (hfl : l.stackTraces = false) (κ : KS) (sz sl : Nat) (hAF : ∀ q, A q → Fr sz0 q) (hAn : ∀ q : Nat, sz ≤ q → A q) (k0 : Int32) (hPV : PV sa κ.2.2.2.2) (hSV : SV ad κ.2.2.2.2 (κ.2.1 0) (κ.2.1 1) (κ.2.2.2.1 6) (κ.2.2.2.1 7) (κ.2.2.2.1 8) (κ.2.2.2.1 13) (κ.2.2.2.1 15) (κ.2.2.2.1 17) (κ.1 1).toInt) (hpre : 0 ≤ (κ.1 8).toInt ∧ (κ.1 8).toInt ≤ 12) : vx_Met l yX11_keep (Cond.code yX11_keep cX11_keep 2 (some .int) :: GWc) ({ frames := 6, cells := 1, slots := 6, locals := 90 }) (PcC D cy ad A sz0 sa [.ref (ad 0), .int k0] κ sz sl) (va_Qi (fun (r : Int32) (u : Int32 × (Nat → Int32) × (Nat → Option Nat)) => (SV ad κ.2.2.2.2 (κ.2.1 0) (κ.2.1 1) (κ.2.2.2.1 6) (κ.2.2.2.1 7) (κ.2.2.2.1 8) (κ.2.2.2.1 13) (κ.2.2.2.1 15) u.2.2 (κ.1 1).toInt) ∧ (0 ≤ u.1.toInt ∧ u.1.toInt ≤ 12)) (fun (u : Int32 × (Nat → Int32) × (Nat → Option Nat)) (t : State) => Bx D cy ad A sz sl (tQ (tA (tI κ 8 u.1) 16 u.2.1) 17 u.2.2) (0) (0) t) A) (TX D cy ad A (fun (E : String) (u : Int32 × (Nat → Int32) × (Nat → Option Nat)) => (SV ad κ.2.2.2.2 (κ.2.1 0) (κ.2.1 1) (κ.2.2.2.1 6) (κ.2.2.2.1 7) (κ.2.2.2.1 8) (κ.2.2.2.1 13) (κ.2.2.2.1 15) u.2.2 (κ.1 1).toInt) ∧ ((E = tIAE ∧ (True)) ∨ (E = tISE ∧ (True))) ∧ (0 ≤ u.1.toInt ∧ u.1.toInt ≤ 12)) (fun (u : Int32 × (Nat → Int32) × (Nat → Option Nat)) => (tQ (tA (tI κ 8 u.1) 16 u.2.1) 17 u.2.2))) (1) (6) A := by
  refine CM_ofX (loc0 := [(0, .ref (ad 0)), (1, .int k0)]) (own := RX11) (nm := "keep") (by decide) rfl rfl rfl (Nat.le_of_ble_eq_true rfl) hAF hAn ?_
  intro p e s m below meth c ls hsz hsl hout C hP hS hl
  obtain ⟨hpre_0, hpre_1⟩ := hpre
  refine lv_iload_n C.x C.b dX11_keep_0 rfl (lv_at hl 1 rfl) ?_
  refine c_callSi (C2 := "") (b := 0) (n := 1) (As := [.int k0]) (rest := []) C hP hS hl.1 (NX11_isName l D cy ad A sz0 sa κ s.heap.size (SLT s.heap) C.f (fun q h => C.a q (Nat.le_trans hS.1 h)) k0 ) ⟨cw_917, cw_919, by decide +kernel⟩ ⟨cw_918, cw_910⟩ rfl rfl (lv_room (Nat.le_of_ble_eq_true rfl)) ⟨Nat.le_of_ble_eq_true rfl, Nat.le_of_ble_eq_true rfl⟩ ⟨(Nat.le_of_ble_eq_true rfl), (Nat.le_of_ble_eq_true rfl)⟩ dX11_keep_1 (fun r1 u H locs hr1 hP hS => ?_)
  have hr1 : (0 ≤ r1.toInt ∧ r1.toInt ≤ 1) ∧ (((1 ≤ k0.toInt ∧ k0.toInt ≤ 14348906) → r1.toInt = 1) ∧ (¬ (1 ≤ k0.toInt ∧ k0.toInt ≤ 14348906) → r1.toInt = 0)) := hr1
  obtain ⟨hr1_0, hr1_1⟩ := hr1
  obtain ⟨hr1_0_0, hr1_0_1⟩ := hr1_0
  obtain ⟨hr1_1_0, hr1_1_1⟩ := hr1_1
  refine lv_if_ne (tgt := 17) C.x C.b dX11_keep_4 (by decide) (fun c2 => ?_) (fun c2 => ?_)
  · have c2 : ¬ r1.toInt = 0 := by have h := z_ne c2; rw [show (0 : Int32).toInt = 0 from by decide +kernel] at h; exact h
    refine lv_aload_n C.x C.b dX11_keep_17 rfl (lv_at hl 0 rfl) ?_
    refine cg_X11_1 C hP cw_874 dX11_keep_18 ?_
    refine lv_iload_n C.x C.b dX11_keep_21 rfl (lv_at hl 1 rfl) ?_
    refine lv_aload_n C.x C.b dX11_keep_22 rfl (lv_at hl 0 rfl) ?_
    obtain ⟨o3, eo3, ho3⟩ := hSV.n0
    refine cg_X11_8 (v := some o3) C hP eo3 cw_881 dX11_keep_23 ?_
    refine c_callVi (n := 2) (As := [.int k0, .ref o3]) (rest := []) C hP hS hl.1 (NX8_setVariable l D cy ad A sz0 sa κ H.size (SLT H) C.f (fun q h => C.a q (Nat.le_trans hS.1 h)) k0 o3 ho3 hPV hSV (vX11_keep_1 κ hpre_0 hpre_1)) ⟨cw_967, cw_849, by decide +kernel⟩ ⟨cw_847, cw_848, cw_705⟩ rfl (hP.recvS (k := 3) (ci := 10) C.K rfl rfl) rfl rfl (lv_room (Nat.le_of_ble_eq_true rfl)) ⟨Nat.le_of_ble_eq_true rfl, Nat.le_of_ble_eq_true rfl⟩ ⟨(Nat.le_of_ble_eq_true rfl), (Nat.le_of_ble_eq_true rfl)⟩ dX11_keep_26 (fun r4 u H locs hr4 hP hS => ?_)
    obtain ⟨n5, F6, Z7⟩ := u
    have hP : CH D cy ad A (tQ (tA (tI κ 8 n5) 16 F6) 17 Z7) H := hP
    have hr4 : (SV ad κ.2.2.2.2 (κ.2.1 0) (κ.2.1 1) (κ.2.2.2.1 6) (κ.2.2.2.1 7) (κ.2.2.2.1 8) (κ.2.2.2.1 13) (κ.2.2.2.1 15) Z7 (κ.1 1).toInt) ∧ (0 ≤ r4.toInt ∧ r4.toInt ≤ 1) ∧ (0 ≤ n5.toInt ∧ n5.toInt ≤ 12) := hr4
    obtain ⟨hr4_0, hr4_1, hr4_2⟩ := hr4
    obtain ⟨hr4_1_0, hr4_1_1⟩ := hr4_1
    obtain ⟨hr4_2_0, hr4_2_1⟩ := hr4_2
    refine lv_if_ne (tgt := 42) C.x C.b dX11_keep_29 (by decide) (fun c8 => ?_) (fun c8 => ?_)
    · have c8 : ¬ r4.toInt = 0 := by have h := z_ne c8; rw [show (0 : Int32).toInt = 0 from by decide +kernel] at h; exact h
      refine lv_aload_n C.x C.b dX11_keep_42 rfl (lv_at hl 0 rfl) ?_
      refine cg_X11_8 (v := some o3) C hP eo3 cw_881 dX11_keep_43 ?_
      obtain ⟨x9, ex9⟩ : ∃ z, oI κ.2.2.2.2 0 o3 = z := ⟨_, rfl⟩
      refine pg_X10_0 (v := x9) C hP (t20 (a := o3) (t := 1) ho3) ex9 cw_966 dX11_keep_46 ?_
      refine vx_ret ?_
      exact c_reti C hsz hsl ⟨n5, F6, Z7⟩ ⟨hr4_0, (vX11_keep_2 n5 hr4_2_0 hr4_2_1)⟩ hP hS ⟨(Nat.le_of_ble_eq_true rfl), (Nat.le_of_ble_eq_true rfl)⟩ ⟨(Nat.le_of_ble_eq_true rfl), (Nat.le_of_ble_eq_true rfl)⟩ dX11_keep_49
    · have c8 : r4.toInt = 0 := by have h := z_eq c8; rw [show (0 : Int32).toInt = 0 from by decide +kernel] at h; exact h
      exact c_ise C hfl hout ⟨n5, F6, Z7⟩ ⟨hr4_0, (Or.inr ⟨rfl, trivial⟩), (vX11_keep_2 n5 hr4_2_0 hr4_2_1)⟩ hP hS hl.1 cw_890 cw_891 (is := 200) (text := "there are 12 other variables") (by decide +kernel) dX11_keep_32 dX11_keep_35 dX11_keep_36 dX11_keep_38 dX11_keep_41 (Nat.le_of_ble_eq_true rfl) (Nat.le_of_ble_eq_true rfl) ⟨(Nat.le_of_ble_eq_true rfl), (Nat.le_of_ble_eq_true rfl)⟩ ⟨(Nat.le_of_ble_eq_true rfl), (Nat.le_of_ble_eq_true rfl)⟩
  · have c2 : r1.toInt = 0 := by have h := z_eq c2; rw [show (0 : Int32).toInt = 0 from by decide +kernel] at h; exact h
    have hP : CH D cy ad A (tQ (tA (tI κ 8 (κ.1 8)) 16 (κ.2.2.1 16)) 17 (κ.2.2.2.1 17)) H := CH.cong hP rfl rfl rfl rfl rfl rfl rfl rfl rfl rfl rfl rfl rfl rfl rfl rfl rfl rfl rfl rfl rfl rfl rfl rfl rfl rfl rfl
    exact c_iae C hfl hout ⟨(κ.1 8), (κ.2.2.1 16), (κ.2.2.2.1 17)⟩ ⟨hSV, (Or.inl ⟨rfl, trivial⟩), (vX11_keep_1 κ hpre_0 hpre_1)⟩ hP hS hl.1 cw_888 cw_889 (is := 194) (text := "not the code of a name") (by decide +kernel) dX11_keep_7 dX11_keep_10 dX11_keep_11 dX11_keep_13 dX11_keep_16 (Nat.le_of_ble_eq_true rfl) (Nat.le_of_ble_eq_true rfl) ⟨(Nat.le_of_ble_eq_true rfl), (Nat.le_of_ble_eq_true rfl)⟩ ⟨(Nat.le_of_ble_eq_true rfl), (Nat.le_of_ble_eq_true rfl)⟩
