-- full @52
theorem vX1_addField_1 (κ : KS) (k0 : Nat) (x1 : Int32) (ex1 : oI κ.2.2.2.2 8 k0 = x1) (bx1_0 : 0 ≤ x1.toInt) (bx1_1 : x1.toInt ≤ 6) (c4 : 6 ≤ x1.toInt) : ¬ (oI κ.2.2.2.2 8 k0).toInt < 6 := by
  first | assumption | omega | (subst_vars; omega) | trivial
-- in@41 @41
theorem vX1_addField_2 (κ : KS) (k0 : Nat) (k1 : Int32) (x1 : Int32) (q5 : Nat) (x7 : Int32) (x8 : Int32) (x9 : Int32) (P11 : PL) (ex1 : oI κ.2.2.2.2 8 k0 = x1) (bx1_0 : 0 ≤ x1.toInt) (bx1_1 : x1.toInt ≤ 6) (c4 : x1.toInt < 6) (ex7 : oI (newP κ.2.2.2.2 q5 24) 6 k0 = x7) (ex8 : x8 = x7 * (6 : Int32)) (ex9 : x9 = x8 + x1) (hr10_4 : oI P11 10 q5 = k1) : vp_in x1 6 := by
  have q6 : (6 : Int32).toInt = 6 := by decide +kernel
  exact vp_in_iff.mpr ⟨by omega, by omega⟩
-- nw@48 @48
theorem vX1_addField_3 (κ : KS) (k0 : Nat) (k1 : Int32) (x1 : Int32) (q5 : Nat) (x7 : Int32) (x8 : Int32) (x9 : Int32) (P11 : PL) (x15 : Int32) (ex1 : oI κ.2.2.2.2 8 k0 = x1) (bx1_0 : 0 ≤ x1.toInt) (bx1_1 : x1.toInt ≤ 6) (c4 : x1.toInt < 6) (ex7 : oI (newP κ.2.2.2.2 q5 24) 6 k0 = x7) (ex8 : x8 = x7 * (6 : Int32)) (ex9 : x9 = x8 + x1) (hr10_4 : oI P11 10 q5 = k1) (ex15 : x15 = x1 + (1 : Int32)) : x15.toInt = x1.toInt + 1 := by
  have q1 : (1 : Int32).toInt = 1 := by decide +kernel
  have q6 : (6 : Int32).toInt = 6 := by decide +kernel
  have w1 : (1 : Int32).toInt = 1 := by decide +kernel
  rw [ex15, z_add (by omega) (by omega)]; first | done | omega
-- put @49
theorem vX1_addField_4 (κ : KS) (k0 : Nat) (k1 : Int32) (x1 : Int32) (q5 : Nat) (x7 : Int32) (x8 : Int32) (x9 : Int32) (P11 : PL) (x15 : Int32) (ex1 : oI κ.2.2.2.2 8 k0 = x1) (bx1_0 : 0 ≤ x1.toInt) (bx1_1 : x1.toInt ≤ 6) (c4 : x1.toInt < 6) (ex7 : oI (newP κ.2.2.2.2 q5 24) 6 k0 = x7) (ex8 : x8 = x7 * (6 : Int32)) (ex9 : x9 = x8 + x1) (hr10_4 : oI P11 10 q5 = k1) (ex15 : x15 = x1 + (1 : Int32)) (tx15 : x15.toInt = x1.toInt + 1) : 0 ≤ x15.toInt ∧ x15.toInt ≤ 6 := by
  have q1 : (1 : Int32).toInt = 1 := by decide +kernel
  have q6 : (6 : Int32).toInt = 6 := by decide +kernel
  refine ⟨?_, ?_⟩ <;> first | assumption | omega | (subst_vars; omega) | trivial
-- one @52
theorem vX1_addField_5 (κ : KS) (k0 : Nat) (k1 : Int32) (x1 : Int32) (q5 : Nat) (x7 : Int32) (x8 : Int32) (x9 : Int32) (P11 : PL) (x15 : Int32) (ex1 : oI κ.2.2.2.2 8 k0 = x1) (bx1_0 : 0 ≤ x1.toInt) (bx1_1 : x1.toInt ≤ 6) (c4 : x1.toInt < 6) (ex7 : oI (newP κ.2.2.2.2 q5 24) 6 k0 = x7) (ex8 : x8 = x7 * (6 : Int32)) (ex9 : x9 = x8 + x1) (hr10_4 : oI P11 10 q5 = k1) (ex15 : x15 = x1 + (1 : Int32)) (tx15 : x15.toInt = x1.toInt + 1) : x15.toInt = (oI κ.2.2.2.2 8 k0).toInt + 1 := by
  have q1 : (1 : Int32).toInt = 1 := by decide +kernel
  have q6 : (6 : Int32).toInt = 6 := by decide +kernel
  first | assumption | omega | (subst_vars; omega) | trivial
set_option maxHeartbeats 4000000 in
set_option maxRecDepth 100000 in
theorem NX1_addField (l : Launch) (D : va_G) (cy : Nat → ClassId) (ad : Nat → Nat) (A : Nat → Prop) (sz0 : Nat) (sa : Nat → Nat)  (κ : KS) (sz sl : Nat) (hAF : ∀ q, A q → Fr sz0 q) (hAn : ∀ q : Nat, sz ≤ q → A q) (k0 : Nat) (k1 : Int32) (k2 : Int32) (ht0 : oT κ.2.2.2.2 k0 = 3) (hPV : PV sa κ.2.2.2.2) : Met l yX1_addField (Cond.code yX1_addField cX1_addField 3 none :: GWc) ({ frames := 2, cells := 1, slots := 3, locals := 43 }) (PcC D cy ad A sz0 sa [.ref k0, .int k1, .int k2] κ sz sl) (va_Qv (fun (u : PL) => (TK κ.2.2.2.2 u) ∧ (PV sa u) ∧ (KPx True κ.2.2.2.2 u) ∧ (FC 7 κ.2.2.2.2 u k0 ∧ ((oI κ.2.2.2.2 8 k0).toInt < 6 → (oI u 8 k0).toInt = (oI κ.2.2.2.2 8 k0).toInt + 1) ∧ ((oI κ.2.2.2.2 8 k0).toInt < 6 → AF κ.2.2.2.2 u k0 k1))) (fun (u : PL) (t : State) => Bx D cy ad A sz sl (tP κ u) (1) (3) t) A) (1) (3) A := by
  refine CM_of (loc0 := [(0, .ref k0), (1, .int k1), (2, .int k2)]) (own := RX1) (nm := "addField") (by decide) rfl rfl rfl (Nat.le_of_ble_eq_true rfl) hAF hAn ?_
  intro p e s m below meth c ls hsz hsl C hP hS hl
  refine lv_aload_n C.x C.b dX1_addField_0 rfl (lv_at hl 0 rfl) ?_
  obtain ⟨x1, ex1⟩ : ∃ z, oI κ.2.2.2.2 8 k0 = z := ⟨_, rfl⟩
  refine pg_X1_4 (v := x1) C hP (t20 (a := k0) (t := 3) ht0) ex1 cw_386 dX1_addField_1 ?_
  have bx1 : 0 ≤ x1.toInt ∧ x1.toInt ≤ 6 := by rw [← ex1]; exact (hPV.t3 ht0).2.2.2.1
  obtain ⟨bx1_0, bx1_1⟩ := bx1
  refine lv_aload_n C.x C.b dX1_addField_4 rfl (lv_at hl 0 rfl) ?_
  obtain ⟨x2, ex2, hx2⟩ := (hPV.t3 ht0).2.1
  refine pg_X1_3 (v := some x2) C hP (t20 (a := k0) (t := 3) ht0) ex2 cw_382 dX1_addField_5 ?_
  refine pl_10 C hP (t20 (a := x2) (t := 10) hx2) dX1_addField_8 ?_
  refine lv_icmp_ge (tgt := 52) C.x C.b dX1_addField_9 (by decide) (fun c4 => ?_) (fun c4 => ?_)
  · have c4 : 6 ≤ x1.toInt := by have h := z_le c4; rw [show (6 : Int32).toInt = 6 from by decide +kernel] at h; exact h
    have hP : CH D cy ad A (tP κ κ.2.2.2.2) s.heap := CH.cong hP rfl rfl rfl rfl rfl rfl rfl rfl rfl rfl rfl rfl rfl rfl rfl rfl rfl rfl rfl rfl rfl rfl rfl rfl rfl rfl rfl
    exact c_retv C hsz hsl κ.2.2.2.2 ⟨TK.rf, hPV, KPx.rf, ⟨FC.rf, fun h9 => absurd h9 (vX1_addField_1 κ k0 x1 ex1 bx1_0 bx1_1 c4), fun h9 => absurd h9 (vX1_addField_1 κ k0 x1 ex1 bx1_0 bx1_1 c4)⟩⟩ hP hS ⟨(Nat.le_of_ble_eq_true rfl), (Nat.le_of_ble_eq_true rfl)⟩ ⟨(Nat.le_of_ble_eq_true rfl), (Nat.le_of_ble_eq_true rfl)⟩ dX1_addField_52
  · have c4 : x1.toInt < 6 := by have h := z_nle c4; rw [show (6 : Int32).toInt = 6 from by decide +kernel] at h; exact h
    refine lv_aload_n C.x C.b dX1_addField_12 rfl (lv_at hl 0 rfl) ?_
    refine pg_X1_3 (v := (some x2)) C hP (t20 (a := k0) (t := 3) ht0) ex2 cw_382 dX1_addField_13 ?_
    refine lv_aload_n C.x C.b dX1_addField_16 rfl (lv_at hl 0 rfl) ?_
    refine pg_X1_4 (v := x1) C hP (t20 (a := k0) (t := 3) ht0) ex1 cw_386 dX1_addField_17 ?_
    refine cn_X2 C hP hS cw_381 cw_387 cw_388 ⟨(Nat.le_of_ble_eq_true rfl), (Nat.le_of_ble_eq_true rfl)⟩ dX1_addField_20 (fun q5 H h0q5 hP hS => ?_)
    have exz6 : EX κ.2.2.2.2 (newP κ.2.2.2.2 q5 24) := (EX.newP h0q5)
    have kpz6 : KPx True κ.2.2.2.2 (newP κ.2.2.2.2 q5 24) := KPx.rf.newP9 hPV h0q5
    have pvz6 : PV sa (newP κ.2.2.2.2 q5 24) := (hPV.raw h0q5 (by decide))
    refine lv_dup C.x C.b dX1_addField_23 rfl ?_
    refine lv_iload_n C.x C.b dX1_addField_24 rfl (lv_at hl 1 rfl) ?_
    refine lv_iload_n C.x C.b dX1_addField_25 rfl (lv_at hl 2 rfl) ?_
    refine lv_aload_n C.x C.b dX1_addField_26 rfl (lv_at hl 0 rfl) ?_
    obtain ⟨x7, ex7⟩ : ∃ z, oI (newP κ.2.2.2.2 q5 24) 6 k0 = z := ⟨_, rfl⟩
    refine pg_X1_0 (v := x7) C hP (t20 (a := k0) (t := 3) (exz6.T ht0 (by decide))) ex7 cw_378 dX1_addField_27 ?_
    refine lv_bipush (v := 6) C.x C.b dX1_addField_30 (by decide +kernel) ?_
    refine lv_imul C.x C.b dX1_addField_32 ?_
    refine lv_topi (fun x8 ex8 => ?_)
    refine lv_aload_n C.x C.b dX1_addField_33 rfl (lv_at hl 0 rfl) ?_
    refine pg_X1_4 (v := x1) C hP (t20 (a := k0) (t := 3) (exz6.T ht0 (by decide))) ((exz6.I (k := 8) ht0 (by decide) (by decide)).trans ex1) cw_386 dX1_addField_34 ?_
    refine lv_iadd C.x C.b dX1_addField_37 ?_
    refine lv_topi (fun x9 ex9 => ?_)
    refine c_callIv (C2 := "") (n := 3) (As := [.int k1, .int k2, .int x9]) (rest := [.ref q5, .int x1, .ref x2]) C hP hS hl.1 (NX2_init l D cy ad A sz0 sa (tP κ (newP κ.2.2.2.2 q5 24)) H.size (SLT H) C.f (fun q h => C.a q (Nat.le_trans hS.1 h)) q5 k1 k2 x9 (by show oT (newP κ.2.2.2.2 q5 24) q5 = 24; rw [newP_T, if_pos rfl]) pvz6) ⟨cw_389, cw_391, by decide +kernel⟩ ⟨cw_390, cw_388⟩ rfl rfl rfl (lv_room (Nat.le_of_ble_eq_true rfl)) ⟨Nat.le_of_ble_eq_true rfl, Nat.le_of_ble_eq_true rfl⟩ ⟨(Nat.le_of_ble_eq_true rfl), (Nat.le_of_ble_eq_true rfl)⟩ dX1_addField_38 (fun u H locs hr10 hP hS => ?_)
    obtain ⟨P11, rfl⟩ : ∃ z, z = u := ⟨_, rfl⟩
    have hP : CH D cy ad A (tP (tP κ (newP κ.2.2.2.2 q5 24)) P11) H := hP
    obtain ⟨hr10, hr10y⟩ := hr10
    have hr10y : oI P11 11 q5 = k2 ∧ oI P11 12 q5 = x9 := hr10y
    have hr10 : (EXP (fun a => ¬ a = q5) (newP κ.2.2.2.2 q5 24) P11) ∧ (PV sa P11) ∧ (oT P11 q5 = 4) ∧ (KPx True (newP κ.2.2.2.2 q5 24) P11) ∧ (oI P11 10 q5 = k1) := hr10
    obtain ⟨hr10_0, hr10_1, hr10_2, hr10_3, hr10_4⟩ := hr10
    have exz12 : EX κ.2.2.2.2 P11 := EX.cons exz6 h0q5 hr10_0
    have kpz13 : KPx True κ.2.2.2.2 P11 := kpz6.trans hr10_3
    obtain ⟨hr10y_0, hr10y_1⟩ := hr10y
    refine pw_10 C hP hS (t20 (a := x2) (t := 10) (exz12.T hx2 (by decide))) rfl (t20 (a := q5) (t := 4) hr10_2) (vX1_addField_2 κ k0 k1 x1 q5 x7 x8 x9 P11 ex1 bx1_0 bx1_1 c4 ex7 ex8 ex9 hr10_4) dX1_addField_41 (fun H locs hP hS => ?_)
    have pvz14 : PV sa (sA P11 x2 (va_up (oA P11 x2) x1.toNatClampNeg (some q5))) := hr10_1.st10 (exz12.T hx2 (by decide)) (nt_up (hr10_1.t10 (exz12.T hx2 (by decide))) (nt_s hr10_2))
    have kpz14 : KPx True κ.2.2.2.2 (sA P11 x2 (va_up (oA P11 x2) x1.toNatClampNeg (some q5))) := kpz13.sA9 (by rw [show oT P11 x2 = 10 from (exz12.T hx2 (by decide))]; decide)
    refine lv_aload_n C.x C.b dX1_addField_42 rfl (lv_at hl 0 rfl) ?_
    refine lv_dup C.x C.b dX1_addField_43 rfl ?_
    refine pg_X1_4 (v := x1) C hP (t20 (a := k0) (t := 3) (exz12.T ht0 (by decide))) ((exz12.I (k := 8) ht0 (by decide) (by decide)).trans ex1) cw_386 dX1_addField_44 ?_
    refine lv_iconst (v := 1) C.x C.b dX1_addField_47 (by decide +kernel) ?_
    refine lv_iadd C.x C.b dX1_addField_48 ?_
    refine lv_topi (fun x15 ex15 => ?_)
    have tx15 : x15.toInt = x1.toInt + 1 := (vX1_addField_3 κ k0 k1 x1 q5 x7 x8 x9 P11 x15 ex1 bx1_0 bx1_1 c4 ex7 ex8 ex9 hr10_4 ex15)
    refine pp_X1_4 C hP hS (t20 (a := k0) (t := 3) (exz12.T ht0 (by decide))) cw_386 dX1_addField_49 (fun H locs hP hS => ?_)
    have pvz16 : PV sa (sI (sA P11 x2 (va_up (oA P11 x2) x1.toNatClampNeg (some q5))) 8 k0 x15) := pvz14.stN (exz12.T ht0 (by decide)) (by decide) (vX1_addField_4 κ k0 k1 x1 q5 x7 x8 x9 P11 x15 ex1 bx1_0 bx1_1 c4 ex7 ex8 ex9 hr10_4 ex15 tx15)
    have kpz16 : KPx True κ.2.2.2.2 (sI (sA P11 x2 (va_up (oA P11 x2) x1.toNatClampNeg (some q5))) 8 k0 x15) := kpz14.sI9 (by decide)
    have hP : CH D cy ad A (tP κ (sI (sA P11 x2 (va_up (oA P11 x2) x1.toNatClampNeg (some q5))) 8 k0 x15)) H := CH.cong hP rfl rfl rfl rfl rfl rfl rfl rfl rfl rfl rfl rfl rfl rfl rfl rfl rfl rfl rfl rfl rfl rfl rfl rfl rfl rfl rfl
    exact c_retv C hsz hsl (sI (sA P11 x2 (va_up (oA P11 x2) x1.toNatClampNeg (some q5))) 8 k0 x15) ⟨FC.tk exz12, pvz16, kpz16, ⟨FC.of (b := x2) exz12 ht0 ex2, fun _ => (congrArg Int32.toInt sI_eq).trans (vX1_addField_5 κ k0 k1 x1 q5 x7 x8 x9 P11 x15 ex1 bx1_0 bx1_1 c4 ex7 ex8 ex9 hr10_4 ex15 tx15), fun _ => ⟨x2, q5, ex2, (by rw [ex1]; show oA (sA _ _ _) _ = _; rw [sA_eq, (exz12 x2 (by rw [hx2]; decide) trivial).2.2.2.2.2.2 (Or.inl hx2)]), h0q5, hr10_2, (sI_nk (by decide)).trans hr10_4⟩⟩⟩ hP hS ⟨(Nat.le_of_ble_eq_true rfl), (Nat.le_of_ble_eq_true rfl)⟩ ⟨(Nat.le_of_ble_eq_true rfl), (Nat.le_of_ble_eq_true rfl)⟩ dX1_addField_52

-- full @32
theorem vX1_addRoutine_1 (κ : KS) (k0 : Nat) (x1 : Int32) (ex1 : oI κ.2.2.2.2 9 k0 = x1) (bx1_0 : 0 ≤ x1.toInt) (bx1_1 : x1.toInt ≤ 6) (c4 : 6 ≤ x1.toInt) : ¬ (oI κ.2.2.2.2 9 k0).toInt < 6 := by
  first | assumption | omega | (subst_vars; omega) | trivial
-- in@21 @21
theorem vX1_addRoutine_2 (κ : KS) (k0 : Nat) (x1 : Int32) (ex1 : oI κ.2.2.2.2 9 k0 = x1) (bx1_0 : 0 ≤ x1.toInt) (bx1_1 : x1.toInt ≤ 6) (c4 : x1.toInt < 6) : vp_in x1 6 := by
  exact vp_in_iff.mpr ⟨by omega, by omega⟩
-- nw@28 @28
theorem vX1_addRoutine_3 (κ : KS) (k0 : Nat) (x1 : Int32) (x6 : Int32) (ex1 : oI κ.2.2.2.2 9 k0 = x1) (bx1_0 : 0 ≤ x1.toInt) (bx1_1 : x1.toInt ≤ 6) (c4 : x1.toInt < 6) (ex6 : x6 = x1 + (1 : Int32)) : x6.toInt = x1.toInt + 1 := by
  have q1 : (1 : Int32).toInt = 1 := by decide +kernel
  have w1 : (1 : Int32).toInt = 1 := by decide +kernel
  rw [ex6, z_add (by omega) (by omega)]; first | done | omega
-- put @29
theorem vX1_addRoutine_4 (κ : KS) (k0 : Nat) (x1 : Int32) (x6 : Int32) (ex1 : oI κ.2.2.2.2 9 k0 = x1) (bx1_0 : 0 ≤ x1.toInt) (bx1_1 : x1.toInt ≤ 6) (c4 : x1.toInt < 6) (ex6 : x6 = x1 + (1 : Int32)) (tx6 : x6.toInt = x1.toInt + 1) : 0 ≤ x6.toInt ∧ x6.toInt ≤ 6 := by
  have q1 : (1 : Int32).toInt = 1 := by decide +kernel
  refine ⟨?_, ?_⟩ <;> first | assumption | omega | (subst_vars; omega) | trivial
-- one @32
theorem vX1_addRoutine_5 (κ : KS) (k0 : Nat) (x1 : Int32) (x6 : Int32) (ex1 : oI κ.2.2.2.2 9 k0 = x1) (bx1_0 : 0 ≤ x1.toInt) (bx1_1 : x1.toInt ≤ 6) (c4 : x1.toInt < 6) (ex6 : x6 = x1 + (1 : Int32)) (tx6 : x6.toInt = x1.toInt + 1) : x6.toInt = (oI κ.2.2.2.2 9 k0).toInt + 1 := by
  have q1 : (1 : Int32).toInt = 1 := by decide +kernel
  first | assumption | omega | (subst_vars; omega) | trivial
set_option maxHeartbeats 4000000 in
set_option maxRecDepth 100000 in
theorem NX1_addRoutine (l : Launch) (D : va_G) (cy : Nat → ClassId) (ad : Nat → Nat) (A : Nat → Prop) (sz0 : Nat) (sa : Nat → Nat)  (κ : KS) (sz sl : Nat) (hAF : ∀ q, A q → Fr sz0 q) (hAn : ∀ q : Nat, sz ≤ q → A q) (k0 : Nat) (k1 : Nat) (ht0 : oT κ.2.2.2.2 k0 = 3) (ht1 : oT κ.2.2.2.2 k1 = 5) (hPV : PV sa κ.2.2.2.2) : Met l yX1_addRoutine (Cond.code yX1_addRoutine cX1_addRoutine 2 none :: GWc) ({ frames := 0, cells := 0, slots := 0, locals := 0 }) (PcC D cy ad A sz0 sa [.ref k0, .ref k1] κ sz sl) (va_Qv (fun (u : PL) => (TK κ.2.2.2.2 u) ∧ (PV sa u) ∧ (KPx True κ.2.2.2.2 u) ∧ (FC 8 κ.2.2.2.2 u k0 ∧ ((oI κ.2.2.2.2 9 k0).toInt < 6 → (oI u 9 k0).toInt = (oI κ.2.2.2.2 9 k0).toInt + 1))) (fun (u : PL) (t : State) => Bx D cy ad A sz sl (tP κ u) (0) (0) t) A) (0) (0) A := by
  refine CM_of (loc0 := [(0, .ref k0), (1, .ref k1)]) (own := RX1) (nm := "addRoutine") (by decide) rfl rfl rfl (Nat.le_of_ble_eq_true rfl) hAF hAn ?_
  intro p e s m below meth c ls hsz hsl C hP hS hl
  refine lv_aload_n C.x C.b dX1_addRoutine_0 rfl (lv_at hl 0 rfl) ?_
  obtain ⟨x1, ex1⟩ : ∃ z, oI κ.2.2.2.2 9 k0 = z := ⟨_, rfl⟩
  refine pg_X1_6 (v := x1) C hP (t20 (a := k0) (t := 3) ht0) ex1 cw_397 dX1_addRoutine_1 ?_
  have bx1 : 0 ≤ x1.toInt ∧ x1.toInt ≤ 6 := by rw [← ex1]; exact (hPV.t3 ht0).2.2.2.2
  obtain ⟨bx1_0, bx1_1⟩ := bx1
  refine lv_aload_n C.x C.b dX1_addRoutine_4 rfl (lv_at hl 0 rfl) ?_
  obtain ⟨x2, ex2, hx2⟩ := (hPV.t3 ht0).2.2.1
  refine pg_X1_5 (v := some x2) C hP (t20 (a := k0) (t := 3) ht0) ex2 cw_384 dX1_addRoutine_5 ?_
  refine pl_11 C hP (t20 (a := x2) (t := 11) hx2) dX1_addRoutine_8 ?_
  refine lv_icmp_ge (tgt := 32) C.x C.b dX1_addRoutine_9 (by decide) (fun c4 => ?_) (fun c4 => ?_)
  · have c4 : 6 ≤ x1.toInt := by have h := z_le c4; rw [show (6 : Int32).toInt = 6 from by decide +kernel] at h; exact h
    have hP : CH D cy ad A (tP κ κ.2.2.2.2) s.heap := CH.cong hP rfl rfl rfl rfl rfl rfl rfl rfl rfl rfl rfl rfl rfl rfl rfl rfl rfl rfl rfl rfl rfl rfl rfl rfl rfl rfl rfl
    exact c_retv C hsz hsl κ.2.2.2.2 ⟨TK.rf, hPV, KPx.rf, ⟨FC.rf, fun h9 => absurd h9 (vX1_addRoutine_1 κ k0 x1 ex1 bx1_0 bx1_1 c4)⟩⟩ hP hS ⟨(Nat.le_of_ble_eq_true rfl), (Nat.le_of_ble_eq_true rfl)⟩ ⟨(Nat.le_of_ble_eq_true rfl), (Nat.le_of_ble_eq_true rfl)⟩ dX1_addRoutine_32
  · have c4 : x1.toInt < 6 := by have h := z_nle c4; rw [show (6 : Int32).toInt = 6 from by decide +kernel] at h; exact h
    refine lv_aload_n C.x C.b dX1_addRoutine_12 rfl (lv_at hl 0 rfl) ?_
    refine pg_X1_5 (v := (some x2)) C hP (t20 (a := k0) (t := 3) ht0) ex2 cw_384 dX1_addRoutine_13 ?_
    refine lv_aload_n C.x C.b dX1_addRoutine_16 rfl (lv_at hl 0 rfl) ?_
    refine pg_X1_6 (v := x1) C hP (t20 (a := k0) (t := 3) ht0) ex1 cw_397 dX1_addRoutine_17 ?_
    refine lv_aload_n C.x C.b dX1_addRoutine_20 rfl (lv_at hl 1 rfl) ?_
    refine pw_11 C hP hS (t20 (a := x2) (t := 11) hx2) rfl (t20 (a := k1) (t := 5) ht1) (vX1_addRoutine_2 κ k0 x1 ex1 bx1_0 bx1_1 c4) dX1_addRoutine_21 (fun H locs hP hS => ?_)
    have pvz5 : PV sa (sA κ.2.2.2.2 x2 (va_up (oA κ.2.2.2.2 x2) x1.toNatClampNeg (some k1))) := hPV.st11 hx2 (nt_up (hPV.t11 hx2) (nt_s ht1))
    have kpz5 : KPx True κ.2.2.2.2 (sA κ.2.2.2.2 x2 (va_up (oA κ.2.2.2.2 x2) x1.toNatClampNeg (some k1))) := KPx.rf.sA9 (by rw [show oT κ.2.2.2.2 x2 = 11 from hx2]; decide)
    refine lv_aload_n C.x C.b dX1_addRoutine_22 rfl (lv_at hl 0 rfl) ?_
    refine lv_dup C.x C.b dX1_addRoutine_23 rfl ?_
    refine pg_X1_6 (v := x1) C hP (t20 (a := k0) (t := 3) ht0) ex1 cw_397 dX1_addRoutine_24 ?_
    refine lv_iconst (v := 1) C.x C.b dX1_addRoutine_27 (by decide +kernel) ?_
    refine lv_iadd C.x C.b dX1_addRoutine_28 ?_
    refine lv_topi (fun x6 ex6 => ?_)
    have tx6 : x6.toInt = x1.toInt + 1 := (vX1_addRoutine_3 κ k0 x1 x6 ex1 bx1_0 bx1_1 c4 ex6)
    refine pp_X1_6 C hP hS (t20 (a := k0) (t := 3) ht0) cw_397 dX1_addRoutine_29 (fun H locs hP hS => ?_)
    have pvz7 : PV sa (sI (sA κ.2.2.2.2 x2 (va_up (oA κ.2.2.2.2 x2) x1.toNatClampNeg (some k1))) 9 k0 x6) := pvz5.stN ht0 (by decide) (vX1_addRoutine_4 κ k0 x1 x6 ex1 bx1_0 bx1_1 c4 ex6 tx6)
    have kpz7 : KPx True κ.2.2.2.2 (sI (sA κ.2.2.2.2 x2 (va_up (oA κ.2.2.2.2 x2) x1.toNatClampNeg (some k1))) 9 k0 x6) := kpz5.sI9 (by decide)
    have hP : CH D cy ad A (tP κ (sI (sA κ.2.2.2.2 x2 (va_up (oA κ.2.2.2.2 x2) x1.toNatClampNeg (some k1))) 9 k0 x6)) H := CH.cong hP rfl rfl rfl rfl rfl rfl rfl rfl rfl rfl rfl rfl rfl rfl rfl rfl rfl rfl rfl rfl rfl rfl rfl rfl rfl rfl rfl
    exact c_retv C hsz hsl (sI (sA κ.2.2.2.2 x2 (va_up (oA κ.2.2.2.2 x2) x1.toNatClampNeg (some k1))) 9 k0 x6) ⟨FC.tk EX.rf, pvz7, kpz7, ⟨FC.of (b := x2) EX.rf ht0 ex2, fun _ => (congrArg Int32.toInt sI_eq).trans (vX1_addRoutine_5 κ k0 x1 x6 ex1 bx1_0 bx1_1 c4 ex6 tx6)⟩⟩ hP hS ⟨(Nat.le_of_ble_eq_true rfl), (Nat.le_of_ble_eq_true rfl)⟩ ⟨(Nat.le_of_ble_eq_true rfl), (Nat.le_of_ble_eq_true rfl)⟩ dX1_addRoutine_32

-- in@26 @26
theorem vX1_routineAt_1 (κ : KS) (k0 : Nat) (k1 : Int32) (x2 : Int32) (c1 : 0 ≤ k1.toInt) (ex2 : oI κ.2.2.2.2 9 k0 = x2) (bx2_0 : 0 ≤ x2.toInt) (bx2_1 : x2.toInt ≤ 6) (c3 : k1.toInt < x2.toInt) (c6 : k1.toInt < 6) : vp_in k1 6 := by
  exact vp_in_iff.mpr ⟨by omega, by omega⟩
set_option maxHeartbeats 4000000 in
set_option maxRecDepth 100000 in
theorem NX1_routineAt (l : Launch) (D : va_G) (cy : Nat → ClassId) (ad : Nat → Nat) (A : Nat → Prop) (sz0 : Nat) (sa : Nat → Nat)  (κ : KS) (sz sl : Nat) (hAF : ∀ q, A q → Fr sz0 q) (hAn : ∀ q : Nat, sz ≤ q → A q) (k0 : Nat) (k1 : Int32) (ht0 : oT κ.2.2.2.2 k0 = 3) (hPV : PV sa κ.2.2.2.2) : Met l yX1_routineAt (Cond.code yX1_routineAt cX1_routineAt 2 (some (.object "PhraseDesk$Routine")) :: GWc) ({ frames := 0, cells := 0, slots := 0, locals := 0 }) (PcC D cy ad A sz0 sa [.ref k0, .int k1] κ sz sl) (va_Qq (fun (r : Option Nat) (u : Unit) => (NT κ.2.2.2.2 5 r)) (fun (u : Unit) (t : State) => Bx D cy ad A sz sl κ (0) (0) t) A) (0) (0) A := by
  refine CM_of (loc0 := [(0, .ref k0), (1, .int k1)]) (own := RX1) (nm := "routineAt") (by decide) rfl rfl rfl (Nat.le_of_ble_eq_true rfl) hAF hAn ?_
  intro p e s m below meth c ls hsz hsl C hP hS hl
  refine lv_iload_n C.x C.b dX1_routineAt_0 rfl (lv_at hl 1 rfl) ?_
  refine lv_if_lt (tgt := 30) C.x C.b dX1_routineAt_1 (by decide) (fun c1 => ?_) (fun c1 => ?_)
  · have c1 : k1.toInt < 0 := by have h := z_lt c1; rw [show (0 : Int32).toInt = 0 from by decide +kernel] at h; exact h
    refine lv_null C.x C.b dX1_routineAt_30 ?_
    exact c_retq (v := none) (Or.inl ⟨_, rfl⟩) C hsz hsl () nt_n hP hS ⟨(Nat.le_of_ble_eq_true rfl), (Nat.le_of_ble_eq_true rfl)⟩ ⟨(Nat.le_of_ble_eq_true rfl), (Nat.le_of_ble_eq_true rfl)⟩ dX1_routineAt_31
  · have c1 : 0 ≤ k1.toInt := by have h := z_nlt c1; rw [show (0 : Int32).toInt = 0 from by decide +kernel] at h; exact h
    refine lv_iload_n C.x C.b dX1_routineAt_4 rfl (lv_at hl 1 rfl) ?_
    refine lv_aload_n C.x C.b dX1_routineAt_5 rfl (lv_at hl 0 rfl) ?_
    obtain ⟨x2, ex2⟩ : ∃ z, oI κ.2.2.2.2 9 k0 = z := ⟨_, rfl⟩
    refine pg_X1_6 (v := x2) C hP (t20 (a := k0) (t := 3) ht0) ex2 cw_397 dX1_routineAt_6 ?_
    have bx2 : 0 ≤ x2.toInt ∧ x2.toInt ≤ 6 := by rw [← ex2]; exact (hPV.t3 ht0).2.2.2.2
    obtain ⟨bx2_0, bx2_1⟩ := bx2
    refine lv_icmp_ge (tgt := 30) C.x C.b dX1_routineAt_9 (by decide) (fun c3 => ?_) (fun c3 => ?_)
    · have c3 : x2.toInt ≤ k1.toInt := by have h := z_le c3; exact h
      refine lv_null C.x C.b dX1_routineAt_30 ?_
      exact c_retq (v := none) (Or.inl ⟨_, rfl⟩) C hsz hsl () nt_n hP hS ⟨(Nat.le_of_ble_eq_true rfl), (Nat.le_of_ble_eq_true rfl)⟩ ⟨(Nat.le_of_ble_eq_true rfl), (Nat.le_of_ble_eq_true rfl)⟩ dX1_routineAt_31
    · have c3 : k1.toInt < x2.toInt := by have h := z_nle c3; exact h
      refine lv_iload_n C.x C.b dX1_routineAt_12 rfl (lv_at hl 1 rfl) ?_
      refine lv_aload_n C.x C.b dX1_routineAt_13 rfl (lv_at hl 0 rfl) ?_
      obtain ⟨x4, ex4, hx4⟩ := (hPV.t3 ht0).2.2.1
      refine pg_X1_5 (v := some x4) C hP (t20 (a := k0) (t := 3) ht0) ex4 cw_384 dX1_routineAt_14 ?_
      refine pl_11 C hP (t20 (a := x4) (t := 11) hx4) dX1_routineAt_17 ?_
      refine lv_icmp_ge (tgt := 30) C.x C.b dX1_routineAt_18 (by decide) (fun c6 => ?_) (fun c6 => ?_)
      · have c6 : 6 ≤ k1.toInt := by have h := z_le c6; rw [show (6 : Int32).toInt = 6 from by decide +kernel] at h; exact h
        refine lv_null C.x C.b dX1_routineAt_30 ?_
        exact c_retq (v := none) (Or.inl ⟨_, rfl⟩) C hsz hsl () nt_n hP hS ⟨(Nat.le_of_ble_eq_true rfl), (Nat.le_of_ble_eq_true rfl)⟩ ⟨(Nat.le_of_ble_eq_true rfl), (Nat.le_of_ble_eq_true rfl)⟩ dX1_routineAt_31
      · have c6 : k1.toInt < 6 := by have h := z_nle c6; rw [show (6 : Int32).toInt = 6 from by decide +kernel] at h; exact h
        refine lv_aload_n C.x C.b dX1_routineAt_21 rfl (lv_at hl 0 rfl) ?_
        refine pg_X1_5 (v := (some x4)) C hP (t20 (a := k0) (t := 3) ht0) ex4 cw_384 dX1_routineAt_22 ?_
        refine lv_iload_n C.x C.b dX1_routineAt_25 rfl (lv_at hl 1 rfl) ?_
        refine pa_11 C hP (t20 (a := x4) (t := 11) hx4) rfl (vX1_routineAt_1 κ k0 k1 x2 c1 ex2 bx2_0 bx2_1 c3 c6) dX1_routineAt_26 (fun x7 ex7 => ?_)
        have tx7 : NT κ.2.2.2.2 5 x7 := by rw [ex7]; exact hPV.t11 hx4 _
        refine lv_goto (tgt := 31) C.x C.b dX1_routineAt_27 (by decide) ?_
        exact c_retq (v := x7) (Or.inl ⟨_, rfl⟩) C hsz hsl () tx7 hP hS ⟨(Nat.le_of_ble_eq_true rfl), (Nat.le_of_ble_eq_true rfl)⟩ ⟨(Nat.le_of_ble_eq_true rfl), (Nat.le_of_ble_eq_true rfl)⟩ dX1_routineAt_31

-- init@2 @2
theorem vX1_ownField_1 (κ : KS) (k0 : Nat) (k1 : Int32)  : 0 ≤ (0 : Int32).toInt ∧ (0 : Int32).toInt ≤ 6 ∧ ¬ ON κ.2.2.2.2 k0 (0 : Int32).toInt k1 := by
  have q0 : (0 : Int32).toInt = 0 := by decide +kernel
  refine ⟨by omega, by omega, ON.zero (by omega)⟩
-- init2@2 @2
theorem vX1_ownField_2 (sa : Nat → Nat) (κ : KS) (k0 : Nat) (k1 : Int32) (ht0 : oT κ.2.2.2.2 k0 = 3) (hPV : PV sa κ.2.2.2.2) : ∀ (q7 : Nat → Option Nat) (H : QT) (n : Int) (c : Nat), FAMq κ.2.2.2.2 q7 H n → q7 c = some k0 → (c : Int) < n → ∀ j : Nat, (j : Int) < (0 : Int32).toInt → (j : Int) < H 1 c → ¬ H 2 (6 * c + j) = k1.toInt := by
  have q0 : (0 : Int32).toInt = 0 := by decide +kernel
  intro q7 H n c F h hn j hj
  have z0 : (0 : Int32).toInt = 0 := by decide
  exfalso; omega
-- post @47
theorem vX1_ownField_3 (κ : KS) (k0 : Nat) (k1 : Int32) (y1 : Int32) (x2 : Int32) (hi2_0 : 0 ≤ y1.toInt) (hi2_1 : y1.toInt ≤ 6) (hi2_2 : ¬ ON κ.2.2.2.2 k0 y1.toInt k1) (ex2 : oI κ.2.2.2.2 8 k0 = x2) (bx2_0 : 0 ≤ x2.toInt) (bx2_1 : x2.toInt ≤ 6) (c3 : x2.toInt ≤ y1.toInt) : ((none : Option Nat) = none → ¬ ON κ.2.2.2.2 k0 (oI κ.2.2.2.2 8 k0).toInt k1) ∧ (∀ f9 : Nat, (none : Option Nat) = some f9 → ON κ.2.2.2.2 k0 (oI κ.2.2.2.2 8 k0).toInt k1) := by
  refine ⟨fun _ => ?_, fun f9 h9 => (by cases h9)⟩
  rw [ex2]; exact ON.mono hi2_2 (by omega)
-- post2 @47
theorem vX1_ownField_4 (sa : Nat → Nat) (κ : KS) (k0 : Nat) (k1 : Int32) (y1 : Int32) (x2 : Int32) (ht0 : oT κ.2.2.2.2 k0 = 3) (hPV : PV sa κ.2.2.2.2) (hi2_0 : 0 ≤ y1.toInt) (hi2_1 : y1.toInt ≤ 6) (hi2_2 : ¬ ON κ.2.2.2.2 k0 y1.toInt k1) (hi2y : ∀ (q7 : Nat → Option Nat) (H : QT) (n : Int) (c : Nat), FAMq κ.2.2.2.2 q7 H n → q7 c = some k0 → (c : Int) < n → ∀ j : Nat, (j : Int) < y1.toInt → (j : Int) < H 1 c → ¬ H 2 (6 * c + j) = k1.toInt) (ex2 : oI κ.2.2.2.2 8 k0 = x2) (bx2_0 : 0 ≤ x2.toInt) (bx2_1 : x2.toInt ≤ 6) (c3 : x2.toInt ≤ y1.toInt) : ∀ (q7 : Nat → Option Nat) (H : QT) (n : Int) (c : Nat), FAMq κ.2.2.2.2 q7 H n → q7 c = some k0 → (c : Int) < n → (none = (none : Option Nat) → qOwn H c k1.toInt = none) ∧ (∀ x, none = some x → ∃ k, qOwn H c k1.toInt = some k ∧ FDq κ.2.2.2.2 H x (6 * c + k)) := by
  intro q7 H n c F h hn
  have M := F.f9 h hn
  have cz := M.2.2.2.2.2.2.1
  have cl := M.2.2.2.2.2.1
  rw [ex2] at cz
  refine ⟨fun _ => ?_, fun x e => by cases e⟩
  exact qFst_none _ (fun j hj => decide_eq_false (hi2y q7 H n c F h hn j (by omega) (by omega)))
-- post @47
theorem vX1_ownField_5 (κ : KS) (k0 : Nat) (k1 : Int32) (y1 : Int32) (x2 : Int32) (x4 : Nat) (hi2_0 : 0 ≤ y1.toInt) (hi2_1 : y1.toInt ≤ 6) (hi2_2 : ¬ ON κ.2.2.2.2 k0 y1.toInt k1) (ex2 : oI κ.2.2.2.2 8 k0 = x2) (bx2_0 : 0 ≤ x2.toInt) (bx2_1 : x2.toInt ≤ 6) (c3 : y1.toInt < x2.toInt) (ex4 : oR κ.2.2.2.2 7 k0 = some x4) (c6 : 6 ≤ y1.toInt) : ((none : Option Nat) = none → ¬ ON κ.2.2.2.2 k0 (oI κ.2.2.2.2 8 k0).toInt k1) ∧ (∀ f9 : Nat, (none : Option Nat) = some f9 → ON κ.2.2.2.2 k0 (oI κ.2.2.2.2 8 k0).toInt k1) := by
  refine ⟨fun _ => ?_, fun f9 h9 => (by cases h9)⟩
  rw [ex2]; exact ON.mono hi2_2 (by omega)
-- post2 @47
theorem vX1_ownField_6 (sa : Nat → Nat) (κ : KS) (k0 : Nat) (k1 : Int32) (y1 : Int32) (x2 : Int32) (x4 : Nat) (ht0 : oT κ.2.2.2.2 k0 = 3) (hPV : PV sa κ.2.2.2.2) (hi2_0 : 0 ≤ y1.toInt) (hi2_1 : y1.toInt ≤ 6) (hi2_2 : ¬ ON κ.2.2.2.2 k0 y1.toInt k1) (hi2y : ∀ (q7 : Nat → Option Nat) (H : QT) (n : Int) (c : Nat), FAMq κ.2.2.2.2 q7 H n → q7 c = some k0 → (c : Int) < n → ∀ j : Nat, (j : Int) < y1.toInt → (j : Int) < H 1 c → ¬ H 2 (6 * c + j) = k1.toInt) (ex2 : oI κ.2.2.2.2 8 k0 = x2) (bx2_0 : 0 ≤ x2.toInt) (bx2_1 : x2.toInt ≤ 6) (c3 : y1.toInt < x2.toInt) (hx4 : oT κ.2.2.2.2 x4 = 10) (ex4 : oR κ.2.2.2.2 7 k0 = some x4) (c6 : 6 ≤ y1.toInt) : ∀ (q7 : Nat → Option Nat) (H : QT) (n : Int) (c : Nat), FAMq κ.2.2.2.2 q7 H n → q7 c = some k0 → (c : Int) < n → (none = (none : Option Nat) → qOwn H c k1.toInt = none) ∧ (∀ x, none = some x → ∃ k, qOwn H c k1.toInt = some k ∧ FDq κ.2.2.2.2 H x (6 * c + k)) := by
  intro q7 H n c F h hn
  have M := F.f9 h hn
  have cz := M.2.2.2.2.2.2.1
  have cl := M.2.2.2.2.2.1
  rw [ex2] at cz
  refine ⟨fun _ => ?_, fun x e => by cases e⟩
  exact qFst_none _ (fun j hj => decide_eq_false (hi2y q7 H n c F h hn j (by omega) (by omega)))
-- in@24 @24
theorem vX1_ownField_7 (κ : KS) (k0 : Nat) (k1 : Int32) (y1 : Int32) (x2 : Int32) (x4 : Nat) (hi2_0 : 0 ≤ y1.toInt) (hi2_1 : y1.toInt ≤ 6) (hi2_2 : ¬ ON κ.2.2.2.2 k0 y1.toInt k1) (ex2 : oI κ.2.2.2.2 8 k0 = x2) (bx2_0 : 0 ≤ x2.toInt) (bx2_1 : x2.toInt ≤ 6) (c3 : y1.toInt < x2.toInt) (ex4 : oR κ.2.2.2.2 7 k0 = some x4) (c6 : y1.toInt < 6) : vp_in y1 6 := by
  exact vp_in_iff.mpr ⟨by omega, by omega⟩
-- nw@40 @40
theorem vX1_ownField_8 (κ : KS) (k0 : Nat) (k1 : Int32) (y1 : Int32) (x2 : Int32) (x4 : Nat) (x9 : Int32) (hi2_0 : 0 ≤ y1.toInt) (hi2_1 : y1.toInt ≤ 6) (hi2_2 : ¬ ON κ.2.2.2.2 k0 y1.toInt k1) (ex2 : oI κ.2.2.2.2 8 k0 = x2) (bx2_0 : 0 ≤ x2.toInt) (bx2_1 : x2.toInt ≤ 6) (c3 : y1.toInt < x2.toInt) (ex4 : oR κ.2.2.2.2 7 k0 = some x4) (c6 : y1.toInt < 6) (ex7 : none = oA κ.2.2.2.2 x4 y1.toNatClampNeg) (ex9 : x9 = y1 + (1 : Int32)) : x9.toInt = y1.toInt + 1 := by
  have q1 : (1 : Int32).toInt = 1 := by decide +kernel
  have z9 : (1 : Int32).toInt = 1 := by decide +kernel
  rw [ex9, z_add (by omega) (by omega)]; first | done | omega
-- inv@2 @2
theorem vX1_ownField_9 (κ : KS) (k0 : Nat) (k1 : Int32) (y1 : Int32) (x2 : Int32) (x4 : Nat) (x9 : Int32) (hi2_0 : 0 ≤ y1.toInt) (hi2_1 : y1.toInt ≤ 6) (hi2_2 : ¬ ON κ.2.2.2.2 k0 y1.toInt k1) (ex2 : oI κ.2.2.2.2 8 k0 = x2) (bx2_0 : 0 ≤ x2.toInt) (bx2_1 : x2.toInt ≤ 6) (c3 : y1.toInt < x2.toInt) (ex4 : oR κ.2.2.2.2 7 k0 = some x4) (c6 : y1.toInt < 6) (ex7 : none = oA κ.2.2.2.2 x4 y1.toNatClampNeg) (ex9 : x9 = y1 + (1 : Int32)) (tx9 : x9.toInt = y1.toInt + 1) : 0 ≤ x9.toInt ∧ x9.toInt ≤ 6 ∧ ¬ ON κ.2.2.2.2 k0 x9.toInt k1 := by
  have q1 : (1 : Int32).toInt = 1 := by decide +kernel
  refine ⟨by omega, by omega, ON.step hi2_2 (by omega) ex4 (fun f9 h9 => ?_) (by omega)⟩
  rw [← ex7] at h9
  cases h9
-- inv2@2 @2
theorem vX1_ownField_10 (sa : Nat → Nat) (κ : KS) (k0 : Nat) (k1 : Int32) (y1 : Int32) (x2 : Int32) (x4 : Nat) (x9 : Int32) (ht0 : oT κ.2.2.2.2 k0 = 3) (hPV : PV sa κ.2.2.2.2) (hi2_0 : 0 ≤ y1.toInt) (hi2_1 : y1.toInt ≤ 6) (hi2_2 : ¬ ON κ.2.2.2.2 k0 y1.toInt k1) (hi2y : ∀ (q7 : Nat → Option Nat) (H : QT) (n : Int) (c : Nat), FAMq κ.2.2.2.2 q7 H n → q7 c = some k0 → (c : Int) < n → ∀ j : Nat, (j : Int) < y1.toInt → (j : Int) < H 1 c → ¬ H 2 (6 * c + j) = k1.toInt) (ex2 : oI κ.2.2.2.2 8 k0 = x2) (bx2_0 : 0 ≤ x2.toInt) (bx2_1 : x2.toInt ≤ 6) (c3 : y1.toInt < x2.toInt) (hx4 : oT κ.2.2.2.2 x4 = 10) (ex4 : oR κ.2.2.2.2 7 k0 = some x4) (c6 : y1.toInt < 6) (ex7 : none = oA κ.2.2.2.2 x4 y1.toNatClampNeg) (ex9 : x9 = y1 + (1 : Int32)) (tx9 : x9.toInt = y1.toInt + 1) : ∀ (q7 : Nat → Option Nat) (H : QT) (n : Int) (c : Nat), FAMq κ.2.2.2.2 q7 H n → q7 c = some k0 → (c : Int) < n → ∀ j : Nat, (j : Int) < x9.toInt → (j : Int) < H 1 c → ¬ H 2 (6 * c + j) = k1.toInt := by
  have q1 : (1 : Int32).toInt = 1 := by decide +kernel
  intro q7 H n c F h hn j hj hj2
  by_cases q : (j : Int) < y1.toInt
  · exact hi2y q7 H n c F h hn j q hj2
  have M := F.f9 h hn
  obtain ⟨x, x1, x2, x3⟩ := M.fd9 (k := y1.toNatClampNeg) ex4 (by rw [clampN]; omega) ex7.symm
  cases x1
-- meas@2 @2
theorem vX1_ownField_11 (κ : KS) (k0 : Nat) (k1 : Int32) (y1 : Int32) (x2 : Int32) (x4 : Nat) (x9 : Int32) (hi2_0 : 0 ≤ y1.toInt) (hi2_1 : y1.toInt ≤ 6) (hi2_2 : ¬ ON κ.2.2.2.2 k0 y1.toInt k1) (ex2 : oI κ.2.2.2.2 8 k0 = x2) (bx2_0 : 0 ≤ x2.toInt) (bx2_1 : x2.toInt ≤ 6) (c3 : y1.toInt < x2.toInt) (ex4 : oR κ.2.2.2.2 7 k0 = some x4) (c6 : y1.toInt < 6) (ex7 : none = oA κ.2.2.2.2 x4 y1.toNatClampNeg) (ex9 : x9 = y1 + (1 : Int32)) (tx9 : x9.toInt = y1.toInt + 1) : (6 - x9.toInt.toNat) < (6 - y1.toInt.toNat) := by
  have q1 : (1 : Int32).toInt = 1 := by decide +kernel
  first | assumption | omega | (subst_vars; omega) | trivial
-- nw@40 @40
theorem vX1_ownField_12 (κ : KS) (k0 : Nat) (k1 : Int32) (y1 : Int32) (x2 : Int32) (x4 : Nat) (b8 : Nat) (x10 : Int32) (x12 : Int32) (hi2_0 : 0 ≤ y1.toInt) (hi2_1 : y1.toInt ≤ 6) (hi2_2 : ¬ ON κ.2.2.2.2 k0 y1.toInt k1) (ex2 : oI κ.2.2.2.2 8 k0 = x2) (bx2_0 : 0 ≤ x2.toInt) (bx2_1 : x2.toInt ≤ 6) (c3 : y1.toInt < x2.toInt) (ex4 : oR κ.2.2.2.2 7 k0 = some x4) (c6 : y1.toInt < 6) (ex7 : (some b8) = oA κ.2.2.2.2 x4 y1.toNatClampNeg) (ex10 : oI κ.2.2.2.2 10 b8 = x10) (c11 : ¬ x10.toInt = k1.toInt) (ex12 : x12 = y1 + (1 : Int32)) : x12.toInt = y1.toInt + 1 := by
  have q1 : (1 : Int32).toInt = 1 := by decide +kernel
  have z9 : (1 : Int32).toInt = 1 := by decide +kernel
  rw [ex12, z_add (by omega) (by omega)]; first | done | omega
-- inv@2 @2
theorem vX1_ownField_13 (κ : KS) (k0 : Nat) (k1 : Int32) (y1 : Int32) (x2 : Int32) (x4 : Nat) (b8 : Nat) (x10 : Int32) (x12 : Int32) (hi2_0 : 0 ≤ y1.toInt) (hi2_1 : y1.toInt ≤ 6) (hi2_2 : ¬ ON κ.2.2.2.2 k0 y1.toInt k1) (ex2 : oI κ.2.2.2.2 8 k0 = x2) (bx2_0 : 0 ≤ x2.toInt) (bx2_1 : x2.toInt ≤ 6) (c3 : y1.toInt < x2.toInt) (ex4 : oR κ.2.2.2.2 7 k0 = some x4) (c6 : y1.toInt < 6) (ex7 : (some b8) = oA κ.2.2.2.2 x4 y1.toNatClampNeg) (ex10 : oI κ.2.2.2.2 10 b8 = x10) (c11 : ¬ x10.toInt = k1.toInt) (ex12 : x12 = y1 + (1 : Int32)) (tx12 : x12.toInt = y1.toInt + 1) : 0 ≤ x12.toInt ∧ x12.toInt ≤ 6 ∧ ¬ ON κ.2.2.2.2 k0 x12.toInt k1 := by
  have q1 : (1 : Int32).toInt = 1 := by decide +kernel
  refine ⟨by omega, by omega, ON.step hi2_2 (by omega) ex4 (fun f9 h9 => ?_) (by omega)⟩
  rw [← ex7] at h9
  have e9 := Option.some.inj h9
  subst e9
  intro z9
  have z8 := congrArg Int32.toInt z9
  rw [ex10] at z8
  omega
-- inv2@2 @2
theorem vX1_ownField_14 (sa : Nat → Nat) (κ : KS) (k0 : Nat) (k1 : Int32) (y1 : Int32) (x2 : Int32) (x4 : Nat) (b8 : Nat) (x10 : Int32) (x12 : Int32) (ht0 : oT κ.2.2.2.2 k0 = 3) (hPV : PV sa κ.2.2.2.2) (hi2_0 : 0 ≤ y1.toInt) (hi2_1 : y1.toInt ≤ 6) (hi2_2 : ¬ ON κ.2.2.2.2 k0 y1.toInt k1) (hi2y : ∀ (q7 : Nat → Option Nat) (H : QT) (n : Int) (c : Nat), FAMq κ.2.2.2.2 q7 H n → q7 c = some k0 → (c : Int) < n → ∀ j : Nat, (j : Int) < y1.toInt → (j : Int) < H 1 c → ¬ H 2 (6 * c + j) = k1.toInt) (ex2 : oI κ.2.2.2.2 8 k0 = x2) (bx2_0 : 0 ≤ x2.toInt) (bx2_1 : x2.toInt ≤ 6) (c3 : y1.toInt < x2.toInt) (hx4 : oT κ.2.2.2.2 x4 = 10) (ex4 : oR κ.2.2.2.2 7 k0 = some x4) (c6 : y1.toInt < 6) (ex7 : (some b8) = oA κ.2.2.2.2 x4 y1.toNatClampNeg) (ex10 : oI κ.2.2.2.2 10 b8 = x10) (c11 : ¬ x10.toInt = k1.toInt) (ex12 : x12 = y1 + (1 : Int32)) (tx12 : x12.toInt = y1.toInt + 1) : ∀ (q7 : Nat → Option Nat) (H : QT) (n : Int) (c : Nat), FAMq κ.2.2.2.2 q7 H n → q7 c = some k0 → (c : Int) < n → ∀ j : Nat, (j : Int) < x12.toInt → (j : Int) < H 1 c → ¬ H 2 (6 * c + j) = k1.toInt := by
  have q1 : (1 : Int32).toInt = 1 := by decide +kernel
  intro q7 H n c F h hn j hj hj2
  by_cases q : (j : Int) < y1.toInt
  · exact hi2y q7 H n c F h hn j q hj2
  have M := F.f9 h hn
  obtain ⟨x, x1, x2, x3⟩ := M.fd9 (k := y1.toNatClampNeg) ex4 (by rw [clampN]; omega) ex7.symm
  obtain rfl := Option.some.inj x1
  have x4 := x2.1
  rw [ex10] at x4
  have e : j = y1.toNatClampNeg := by rw [clampN]; omega
  rw [e, ← x4]; omega
-- meas@2 @2
theorem vX1_ownField_15 (κ : KS) (k0 : Nat) (k1 : Int32) (y1 : Int32) (x2 : Int32) (x4 : Nat) (b8 : Nat) (x10 : Int32) (x12 : Int32) (hi2_0 : 0 ≤ y1.toInt) (hi2_1 : y1.toInt ≤ 6) (hi2_2 : ¬ ON κ.2.2.2.2 k0 y1.toInt k1) (ex2 : oI κ.2.2.2.2 8 k0 = x2) (bx2_0 : 0 ≤ x2.toInt) (bx2_1 : x2.toInt ≤ 6) (c3 : y1.toInt < x2.toInt) (ex4 : oR κ.2.2.2.2 7 k0 = some x4) (c6 : y1.toInt < 6) (ex7 : (some b8) = oA κ.2.2.2.2 x4 y1.toNatClampNeg) (ex10 : oI κ.2.2.2.2 10 b8 = x10) (c11 : ¬ x10.toInt = k1.toInt) (ex12 : x12 = y1 + (1 : Int32)) (tx12 : x12.toInt = y1.toInt + 1) : (6 - x12.toInt.toNat) < (6 - y1.toInt.toNat) := by
  have q1 : (1 : Int32).toInt = 1 := by decide +kernel
  first | assumption | omega | (subst_vars; omega) | trivial
-- post @39
theorem vX1_ownField_16 (κ : KS) (k0 : Nat) (k1 : Int32) (y1 : Int32) (x2 : Int32) (x4 : Nat) (b8 : Nat) (x10 : Int32) (hi2_0 : 0 ≤ y1.toInt) (hi2_1 : y1.toInt ≤ 6) (hi2_2 : ¬ ON κ.2.2.2.2 k0 y1.toInt k1) (ex2 : oI κ.2.2.2.2 8 k0 = x2) (bx2_0 : 0 ≤ x2.toInt) (bx2_1 : x2.toInt ≤ 6) (c3 : y1.toInt < x2.toInt) (ex4 : oR κ.2.2.2.2 7 k0 = some x4) (c6 : y1.toInt < 6) (ex7 : (some b8) = oA κ.2.2.2.2 x4 y1.toNatClampNeg) (ex10 : oI κ.2.2.2.2 10 b8 = x10) (c11 : x10.toInt = k1.toInt) : (((some b8) : Option Nat) = none → ¬ ON κ.2.2.2.2 k0 (oI κ.2.2.2.2 8 k0).toInt k1) ∧ (∀ f9 : Nat, ((some b8) : Option Nat) = some f9 → ON κ.2.2.2.2 k0 (oI κ.2.2.2.2 8 k0).toInt k1) := by
  refine ⟨fun h9 => (by cases h9), fun f9 h9 => ?_⟩
  have e9 := Option.some.inj h9
  subst e9
  refine ⟨_, _, _, ?_, ex4, ex7.symm, ?_⟩
  · rw [ex2]; show ((Int.toNat _ : Nat) : Int) < _; omega
  · rw [ex10]; apply Int32.toInt_inj.mp; omega
-- post2 @39
theorem vX1_ownField_17 (sa : Nat → Nat) (κ : KS) (k0 : Nat) (k1 : Int32) (y1 : Int32) (x2 : Int32) (x4 : Nat) (b8 : Nat) (x10 : Int32) (ht0 : oT κ.2.2.2.2 k0 = 3) (hPV : PV sa κ.2.2.2.2) (hi2_0 : 0 ≤ y1.toInt) (hi2_1 : y1.toInt ≤ 6) (hi2_2 : ¬ ON κ.2.2.2.2 k0 y1.toInt k1) (hi2y : ∀ (q7 : Nat → Option Nat) (H : QT) (n : Int) (c : Nat), FAMq κ.2.2.2.2 q7 H n → q7 c = some k0 → (c : Int) < n → ∀ j : Nat, (j : Int) < y1.toInt → (j : Int) < H 1 c → ¬ H 2 (6 * c + j) = k1.toInt) (ex2 : oI κ.2.2.2.2 8 k0 = x2) (bx2_0 : 0 ≤ x2.toInt) (bx2_1 : x2.toInt ≤ 6) (c3 : y1.toInt < x2.toInt) (hx4 : oT κ.2.2.2.2 x4 = 10) (ex4 : oR κ.2.2.2.2 7 k0 = some x4) (c6 : y1.toInt < 6) (ex7 : (some b8) = oA κ.2.2.2.2 x4 y1.toNatClampNeg) (ex10 : oI κ.2.2.2.2 10 b8 = x10) (c11 : x10.toInt = k1.toInt) : ∀ (q7 : Nat → Option Nat) (H : QT) (n : Int) (c : Nat), FAMq κ.2.2.2.2 q7 H n → q7 c = some k0 → (c : Int) < n → ((some b8) = (none : Option Nat) → qOwn H c k1.toInt = none) ∧ (∀ x, (some b8) = some x → ∃ k, qOwn H c k1.toInt = some k ∧ FDq κ.2.2.2.2 H x (6 * c + k)) := by
  intro q7 H n c F h hn
  have M := F.f9 h hn
  have cz := M.2.2.2.2.2.2.1
  have cl := M.2.2.2.2.2.1
  rw [ex2] at cz
  obtain ⟨x, x1, x2, x3⟩ := M.fd9 (k := y1.toNatClampNeg) ex4 (by rw [clampN]; omega) ex7.symm
  refine ⟨fun e => (by cases e), fun z e => ?_⟩
  obtain rfl := Option.some.inj e
  obtain rfl := Option.some.inj x1
  have x4 := x2.1
  rw [ex10] at x4
  refine ⟨y1.toNatClampNeg, qFst_some (decide_eq_true (by rw [← x4]; omega)) (fun j hj => decide_eq_false (hi2y q7 H n c F h hn j (by rw [clampN] at hj; omega) (by rw [clampN] at hj; omega))) _ (by rw [clampN]; omega), x2⟩
set_option maxHeartbeats 4000000 in
set_option maxRecDepth 100000 in
theorem NX1_ownField (l : Launch) (D : va_G) (cy : Nat → ClassId) (ad : Nat → Nat) (A : Nat → Prop) (sz0 : Nat) (sa : Nat → Nat)  (κ : KS) (sz sl : Nat) (hAF : ∀ q, A q → Fr sz0 q) (hAn : ∀ q : Nat, sz ≤ q → A q) (k0 : Nat) (k1 : Int32) (ht0 : oT κ.2.2.2.2 k0 = 3) (hPV : PV sa κ.2.2.2.2) : Met l yX1_ownField (Cond.code yX1_ownField cX1_ownField 4 (some (.object "PhraseDesk$Field")) :: GWc) ({ frames := 0, cells := 0, slots := 0, locals := 0 }) (PcC D cy ad A sz0 sa [.ref k0, .int k1] κ sz sl) (va_Qq (fun (r : Option Nat) (u : Unit) => ((NT κ.2.2.2.2 4 r) ∧ (((r : Option Nat) = none → ¬ ON κ.2.2.2.2 k0 (oI κ.2.2.2.2 8 k0).toInt k1) ∧ (∀ f9 : Nat, (r : Option Nat) = some f9 → ON κ.2.2.2.2 k0 (oI κ.2.2.2.2 8 k0).toInt k1))) ∧ (∀ (q7 : Nat → Option Nat) (H : QT) (n : Int) (c : Nat), FAMq κ.2.2.2.2 q7 H n → q7 c = some k0 → (c : Int) < n → (r = (none : Option Nat) → qOwn H c k1.toInt = none) ∧ (∀ x, r = some x → ∃ k, qOwn H c k1.toInt = some k ∧ FDq κ.2.2.2.2 H x (6 * c + k)))) (fun (u : Unit) (t : State) => Bx D cy ad A sz sl κ (0) (0) t) A) (0) (0) A := by
  refine CM_of (loc0 := [(0, .ref k0), (1, .int k1)]) (own := RX1) (nm := "ownField") (by decide) rfl rfl rfl (Nat.le_of_ble_eq_true rfl) hAF hAn ?_
  intro p e s m below meth c ls hsz hsl C hP hS hl
  refine lv_iconst (v := 0) C.x C.b dX1_ownField_0 (by decide +kernel) ?_
  refine lv_istore_n (lv' := [(2, .int 0), (0, .ref k0), (1, .int k1)]) C.x C.b dX1_ownField_1 rfl hl (by decide) rfl (fun ls hl => ?_)
  have lp2 : ∀ (n : Nat) (y1 : Int32) (H : Heap) (locs : List Loc) (ls : Array Slot), (6 - y1.toInt.toNat) < n → ((0 ≤ y1.toInt ∧ y1.toInt ≤ 6 ∧ ¬ ON κ.2.2.2.2 k0 y1.toInt k1) ∧ (∀ (q7 : Nat → Option Nat) (H : QT) (n : Int) (c : Nat), FAMq κ.2.2.2.2 q7 H n → q7 c = some k0 → (c : Int) < n → ∀ j : Nat, (j : Int) < y1.toInt → (j : Int) < H 1 c → ¬ H 2 (6 * c + j) = k1.toInt)) → CH D cy ad A κ H → va_S A s.heap H locs → lv_has ls 4 [(2, .int y1), (0, .ref k0), (1, .int k1)] → W p l e (headSpec (Cond.code yX1_ownField cX1_ownField 4 (some (.object "PhraseDesk$Field")) :: GWc) ({ frames := 0, cells := 0, slots := 0, locals := 0 })).room s m #[.ref k0, .int k1] below meth c H locs (0) (0) (MQ below (va_Qq (fun (r : Option Nat) (u : Unit) => ((NT κ.2.2.2.2 4 r) ∧ (((r : Option Nat) = none → ¬ ON κ.2.2.2.2 k0 (oI κ.2.2.2.2 8 k0).toInt k1) ∧ (∀ f9 : Nat, (r : Option Nat) = some f9 → ON κ.2.2.2.2 k0 (oI κ.2.2.2.2 8 k0).toInt k1))) ∧ (∀ (q7 : Nat → Option Nat) (H : QT) (n : Int) (c : Nat), FAMq κ.2.2.2.2 q7 H n → q7 c = some k0 → (c : Int) < n → (r = (none : Option Nat) → qOwn H c k1.toInt = none) ∧ (∀ x, r = some x → ∃ k, qOwn H c k1.toInt = some k ∧ FDq κ.2.2.2.2 H x (6 * c + k)))) (fun (u : Unit) (t : State) => Bx D cy ad A sz sl κ (0) (0) t) A) #[.ref k0, .int k1] s (0) (0) A) (F0 m 2 ls []) := by
    intro n
    induction n with
    | zero => intro y1 H locs ls hn; exact absurd hn (Nat.not_lt_zero _)
    | succ n2 ih2 =>
      intro y1 H locs ls hn2  hi2 hP hS hl
      obtain ⟨hi2, hi2y⟩ := hi2
      obtain ⟨hi2_0, hi2_1, hi2_2⟩ := hi2
      refine lv_iload_n C.x C.b dX1_ownField_2 rfl (lv_at hl 0 rfl) ?_
      refine lv_aload_n C.x C.b dX1_ownField_3 rfl (lv_at hl 1 rfl) ?_
      obtain ⟨x2, ex2⟩ : ∃ z, oI κ.2.2.2.2 8 k0 = z := ⟨_, rfl⟩
      refine pg_X1_4 (v := x2) C hP (t20 (a := k0) (t := 3) ht0) ex2 cw_386 dX1_ownField_4 ?_
      have bx2 : 0 ≤ x2.toInt ∧ x2.toInt ≤ 6 := by rw [← ex2]; exact (hPV.t3 ht0).2.2.2.1
      obtain ⟨bx2_0, bx2_1⟩ := bx2
      refine lv_icmp_ge (tgt := 46) C.x C.b dX1_ownField_7 (by decide) (fun c3 => ?_) (fun c3 => ?_)
      · have c3 : x2.toInt ≤ y1.toInt := by have h := z_le c3; exact h
        refine lv_null C.x C.b dX1_ownField_46 ?_
        exact c_retq (v := none) (Or.inl ⟨_, rfl⟩) C hsz hsl () ⟨⟨nt_n, (vX1_ownField_3 κ k0 k1 y1 x2 hi2_0 hi2_1 hi2_2 ex2 bx2_0 bx2_1 c3)⟩, (vX1_ownField_4 sa κ k0 k1 y1 x2 ht0 hPV hi2_0 hi2_1 hi2_2 hi2y ex2 bx2_0 bx2_1 c3)⟩ hP hS ⟨(Nat.le_of_ble_eq_true rfl), (Nat.le_of_ble_eq_true rfl)⟩ ⟨(Nat.le_of_ble_eq_true rfl), (Nat.le_of_ble_eq_true rfl)⟩ dX1_ownField_47
      · have c3 : y1.toInt < x2.toInt := by have h := z_nle c3; exact h
        refine lv_iload_n C.x C.b dX1_ownField_10 rfl (lv_at hl 0 rfl) ?_
        refine lv_aload_n C.x C.b dX1_ownField_11 rfl (lv_at hl 1 rfl) ?_
        obtain ⟨x4, ex4, hx4⟩ := (hPV.t3 ht0).2.1
        refine pg_X1_3 (v := some x4) C hP (t20 (a := k0) (t := 3) ht0) ex4 cw_382 dX1_ownField_12 ?_
        refine pl_10 C hP (t20 (a := x4) (t := 10) hx4) dX1_ownField_15 ?_
        refine lv_icmp_ge (tgt := 46) C.x C.b dX1_ownField_16 (by decide) (fun c6 => ?_) (fun c6 => ?_)
        · have c6 : 6 ≤ y1.toInt := by have h := z_le c6; rw [show (6 : Int32).toInt = 6 from by decide +kernel] at h; exact h
          refine lv_null C.x C.b dX1_ownField_46 ?_
          exact c_retq (v := none) (Or.inl ⟨_, rfl⟩) C hsz hsl () ⟨⟨nt_n, (vX1_ownField_5 κ k0 k1 y1 x2 x4 hi2_0 hi2_1 hi2_2 ex2 bx2_0 bx2_1 c3 ex4 c6)⟩, (vX1_ownField_6 sa κ k0 k1 y1 x2 x4 ht0 hPV hi2_0 hi2_1 hi2_2 hi2y ex2 bx2_0 bx2_1 c3 hx4 ex4 c6)⟩ hP hS ⟨(Nat.le_of_ble_eq_true rfl), (Nat.le_of_ble_eq_true rfl)⟩ ⟨(Nat.le_of_ble_eq_true rfl), (Nat.le_of_ble_eq_true rfl)⟩ dX1_ownField_47
        · have c6 : y1.toInt < 6 := by have h := z_nle c6; rw [show (6 : Int32).toInt = 6 from by decide +kernel] at h; exact h
          refine lv_aload_n C.x C.b dX1_ownField_19 rfl (lv_at hl 1 rfl) ?_
          refine pg_X1_3 (v := (some x4)) C hP (t20 (a := k0) (t := 3) ht0) ex4 cw_382 dX1_ownField_20 ?_
          refine lv_iload_n C.x C.b dX1_ownField_23 rfl (lv_at hl 0 rfl) ?_
          refine pa_10 C hP (t20 (a := x4) (t := 10) hx4) rfl (vX1_ownField_7 κ k0 k1 y1 x2 x4 hi2_0 hi2_1 hi2_2 ex2 bx2_0 bx2_1 c3 ex4 c6) dX1_ownField_24 (fun x7 ex7 => ?_)
          have tx7 : NT κ.2.2.2.2 4 x7 := by rw [ex7]; exact hPV.t10 hx4 _
          refine lq_astore_n (lv' := [(3, va_rf x7), (2, .int y1), (0, .ref k0), (1, .int k1)]) C.x C.b dX1_ownField_25 rfl hl (by decide) (by cases x7 <;> rfl) (fun ls hl => ?_)
          refine lq_aload_n C.x C.b dX1_ownField_26 rfl (lv_at hl 0 rfl) ?_
          cases x7 with
          | none =>
            refine lv_ifnullN (tgt := 40) C.x C.b dX1_ownField_27 (by decide) ?_
            obtain ⟨x9, ex9⟩ : ∃ y : Int32, y = y1 + (1 : Int32) := ⟨_, rfl⟩
            have tx9 : x9.toInt = y1.toInt + 1 := (vX1_ownField_8 κ k0 k1 y1 x2 x4 x9 hi2_0 hi2_1 hi2_2 ex2 bx2_0 bx2_1 c3 ex4 c6 ex7 ex9)
            refine lv_iinc (v := x9) (lv' := [(2, .int x9), (3, .null), (0, .ref k0), (1, .int k1)]) C.x C.b dX1_ownField_40 hl (k := 1) rfl (by rw [ex9]; rfl) (by decide) rfl (fun ls hl => ?_)
            refine lv_goto (tgt := 2) C.x C.b dX1_ownField_43 (by decide) ?_
            refine W.widen (k := 0) (n := 0) (Nat.le_of_ble_eq_true rfl) (Nat.le_of_ble_eq_true rfl) ?_
            exact ih2 x9 _ _ _ (Nat.lt_of_lt_of_le (vX1_ownField_11 κ k0 k1 y1 x2 x4 x9 hi2_0 hi2_1 hi2_2 ex2 bx2_0 bx2_1 c3 ex4 c6 ex7 ex9 tx9) (Nat.le_of_lt_succ hn2))  ⟨(vX1_ownField_9 κ k0 k1 y1 x2 x4 x9 hi2_0 hi2_1 hi2_2 ex2 bx2_0 bx2_1 c3 ex4 c6 ex7 ex9 tx9), (vX1_ownField_10 sa κ k0 k1 y1 x2 x4 x9 ht0 hPV hi2_0 hi2_1 hi2_2 hi2y ex2 bx2_0 bx2_1 c3 hx4 ex4 c6 ex7 ex9 tx9)⟩ hP hS (lv_sub hl [0, 2, 3] rfl)
          | some b8 =>
            have hb8 : oT κ.2.2.2.2 b8 = 4 := tx7 b8 rfl
            refine lv_ifnull C.x C.b dX1_ownField_27 ?_
            refine lv_aload_n C.x C.b dX1_ownField_30 rfl (lv_at hl 0 rfl) ?_
            obtain ⟨x10, ex10⟩ : ∃ z, oI κ.2.2.2.2 10 b8 = z := ⟨_, rfl⟩
            refine pg_X2_0 (v := x10) C hP (t20 (a := b8) (t := 4) hb8) ex10 cw_400 dX1_ownField_31 ?_
            refine lv_iload_n C.x C.b dX1_ownField_34 rfl (lv_at hl 3 rfl) ?_
            refine lv_icmp_ne (tgt := 40) C.x C.b dX1_ownField_35 (by decide) (fun c11 => ?_) (fun c11 => ?_)
            · have c11 : ¬ x10.toInt = k1.toInt := by have h := z_ne c11; exact h
              obtain ⟨x12, ex12⟩ : ∃ y : Int32, y = y1 + (1 : Int32) := ⟨_, rfl⟩
              have tx12 : x12.toInt = y1.toInt + 1 := (vX1_ownField_12 κ k0 k1 y1 x2 x4 b8 x10 x12 hi2_0 hi2_1 hi2_2 ex2 bx2_0 bx2_1 c3 ex4 c6 ex7 ex10 c11 ex12)
              refine lv_iinc (v := x12) (lv' := [(2, .int x12), (3, .ref b8), (0, .ref k0), (1, .int k1)]) C.x C.b dX1_ownField_40 hl (k := 1) rfl (by rw [ex12]; rfl) (by decide) rfl (fun ls hl => ?_)
              refine lv_goto (tgt := 2) C.x C.b dX1_ownField_43 (by decide) ?_
              refine W.widen (k := 0) (n := 0) (Nat.le_of_ble_eq_true rfl) (Nat.le_of_ble_eq_true rfl) ?_
              exact ih2 x12 _ _ _ (Nat.lt_of_lt_of_le (vX1_ownField_15 κ k0 k1 y1 x2 x4 b8 x10 x12 hi2_0 hi2_1 hi2_2 ex2 bx2_0 bx2_1 c3 ex4 c6 ex7 ex10 c11 ex12 tx12) (Nat.le_of_lt_succ hn2))  ⟨(vX1_ownField_13 κ k0 k1 y1 x2 x4 b8 x10 x12 hi2_0 hi2_1 hi2_2 ex2 bx2_0 bx2_1 c3 ex4 c6 ex7 ex10 c11 ex12 tx12), (vX1_ownField_14 sa κ k0 k1 y1 x2 x4 b8 x10 x12 ht0 hPV hi2_0 hi2_1 hi2_2 hi2y ex2 bx2_0 bx2_1 c3 hx4 ex4 c6 ex7 ex10 c11 ex12 tx12)⟩ hP hS (lv_sub hl [0, 2, 3] rfl)
            · have c11 : x10.toInt = k1.toInt := by have h := z_eq c11; exact h
              refine lv_aload_n C.x C.b dX1_ownField_38 rfl (lv_at hl 0 rfl) ?_
              exact c_retq (v := (some b8)) (Or.inl ⟨_, rfl⟩) C hsz hsl () ⟨⟨(nt_s hb8), (vX1_ownField_16 κ k0 k1 y1 x2 x4 b8 x10 hi2_0 hi2_1 hi2_2 ex2 bx2_0 bx2_1 c3 ex4 c6 ex7 ex10 c11)⟩, (vX1_ownField_17 sa κ k0 k1 y1 x2 x4 b8 x10 ht0 hPV hi2_0 hi2_1 hi2_2 hi2y ex2 bx2_0 bx2_1 c3 hx4 ex4 c6 ex7 ex10 c11)⟩ hP hS ⟨(Nat.le_of_ble_eq_true rfl), (Nat.le_of_ble_eq_true rfl)⟩ ⟨(Nat.le_of_ble_eq_true rfl), (Nat.le_of_ble_eq_true rfl)⟩ dX1_ownField_39
  refine W.widen (k := 0) (n := 0) (Nat.le_of_ble_eq_true rfl) (Nat.le_of_ble_eq_true rfl) ?_
  exact lp2 ((6 - (0 : Int32).toInt.toNat) + 1) (0 : Int32) _ _ _ (Nat.lt_succ_self _)  ⟨(vX1_ownField_1 κ k0 k1 ), (vX1_ownField_2 sa κ k0 k1 ht0 hPV)⟩ hP hS (lv_sub hl [0, 1, 2] rfl)

-- init2@2 @2
theorem vX1_nearestField_1 (sa : Nat → Nat) (κ : KS) (k0 : Nat) (k1 : Int32) (ht0 : oT κ.2.2.2.2 k0 = 3) (hPV : PV sa κ.2.2.2.2) : ∀ (q7 : Nat → Option Nat) (H : QT) (n : Int) (c : Nat), FAMq κ.2.2.2.2 q7 H n → q7 c = some k0 → (c : Int) < n → ∃ x : Int, FPq q7 n x (some k0) ∧ qFldL H (qAnc H c) k1.toInt = qFldL H (qAnc H x) k1.toInt := by
  intro q7 H n c F h hn
  exact ⟨c, Or.inr ⟨by omega, hn, _, rfl, show q7 c = some k0 from h⟩, rfl⟩
-- post2 @27
theorem vX1_nearestField_2 (sa : Nat → Nat) (κ : KS) (k0 : Nat) (k1 : Int32) (ht0 : oT κ.2.2.2.2 k0 = 3) (hPV : PV sa κ.2.2.2.2) (hi2y : ∀ (q7 : Nat → Option Nat) (H : QT) (n : Int) (c : Nat), FAMq κ.2.2.2.2 q7 H n → q7 c = some k0 → (c : Int) < n → ∃ x : Int, FPq q7 n x none ∧ qFldL H (qAnc H c) k1.toInt = qFldL H (qAnc H x) k1.toInt) : ∀ (q7 : Nat → Option Nat) (H : QT) (n : Int) (c : Nat), FAMq κ.2.2.2.2 q7 H n → q7 c = some k0 → (c : Int) < n → (none = (none : Option Nat) → qFldL H (qAnc H c) k1.toInt = none) ∧ (∀ x, none = some x → ∃ m, qFldL H (qAnc H c) k1.toInt = some m ∧ m < 30 ∧ FDq κ.2.2.2.2 H x m) := by
  intro q7 H n c F h hn
  obtain ⟨x, z2, z3⟩ := hi2y q7 H n c F h hn
  exact ⟨fun _ => z3.trans (qFldL_nil z2.no9), fun x e => (by cases e)⟩
-- inv2@2 @2
theorem vX1_nearestField_3 (sa : Nat → Nat) (κ : KS) (k0 : Nat) (k1 : Int32) (b2 : Nat) (x5 : Option Nat) (ht0 : oT κ.2.2.2.2 k0 = 3) (hPV : PV sa κ.2.2.2.2) (hi2y : ∀ (q7 : Nat → Option Nat) (H : QT) (n : Int) (c : Nat), FAMq κ.2.2.2.2 q7 H n → q7 c = some k0 → (c : Int) < n → ∃ x : Int, FPq q7 n x (some b2) ∧ qFldL H (qAnc H c) k1.toInt = qFldL H (qAnc H x) k1.toInt) (hr3y : ∀ (q7 : Nat → Option Nat) (H : QT) (n : Int) (c : Nat), FAMq κ.2.2.2.2 q7 H n → q7 c = some b2 → (c : Int) < n → (none = (none : Option Nat) → qOwn H c k1.toInt = none) ∧ (∀ x, none = some x → ∃ k, qOwn H c k1.toInt = some k ∧ FDq κ.2.2.2.2 H x (6 * c + k))) (hr3_1_0 : (none : Option Nat) = none → ¬ ON κ.2.2.2.2 b2 (oI κ.2.2.2.2 8 b2).toInt k1) (hr3_1_1 : ∀ f9 : Nat, (none : Option Nat) = some f9 → ON κ.2.2.2.2 b2 (oI κ.2.2.2.2 8 b2).toInt k1) (ex5 : oR κ.2.2.2.2 6 b2 = x5) (mx5 : cto κ.2.2.2.2 x5 < oC κ.2.2.2.2 b2) : ∀ (q7 : Nat → Option Nat) (H : QT) (n : Int) (c : Nat), FAMq κ.2.2.2.2 q7 H n → q7 c = some k0 → (c : Int) < n → ∃ x : Int, FPq q7 n x x5 ∧ qFldL H (qAnc H c) k1.toInt = qFldL H (qAnc H x) k1.toInt := by
  intro q7 H n c F h hn
  obtain ⟨x, z2, z3⟩ := hi2y q7 H n c F h hn
  obtain ⟨g1, g2, g3, _, _, g6⟩ := z2.up9 F rfl ex5
  have w := (hr3y q7 H n x.toNat F g6 (by omega)).1 rfl
  refine ⟨_, g1, z3.trans ?_⟩
  rw [qFldL_own9 F.2.1 F.1 g2 g3, w] <;> rfl
-- meas@2 @2
theorem vX1_nearestField_4 (κ : KS) (k1 : Int32) (b2 : Nat) (x5 : Option Nat) (hr3_1_0 : (none : Option Nat) = none → ¬ ON κ.2.2.2.2 b2 (oI κ.2.2.2.2 8 b2).toInt k1) (hr3_1_1 : ∀ f9 : Nat, (none : Option Nat) = some f9 → ON κ.2.2.2.2 b2 (oI κ.2.2.2.2 8 b2).toInt k1) (mx5 : cto κ.2.2.2.2 x5 < oC κ.2.2.2.2 b2) : (cto κ.2.2.2.2 x5) < (cto κ.2.2.2.2 (some b2)) := by
  show cto _ _ < oC _ _
  assumption
-- post2 @17
theorem vX1_nearestField_5 (sa : Nat → Nat) (κ : KS) (k0 : Nat) (k1 : Int32) (b2 : Nat) (b4 : Nat) (ht0 : oT κ.2.2.2.2 k0 = 3) (hPV : PV sa κ.2.2.2.2) (hi2y : ∀ (q7 : Nat → Option Nat) (H : QT) (n : Int) (c : Nat), FAMq κ.2.2.2.2 q7 H n → q7 c = some k0 → (c : Int) < n → ∃ x : Int, FPq q7 n x (some b2) ∧ qFldL H (qAnc H c) k1.toInt = qFldL H (qAnc H x) k1.toInt) (hr3y : ∀ (q7 : Nat → Option Nat) (H : QT) (n : Int) (c : Nat), FAMq κ.2.2.2.2 q7 H n → q7 c = some b2 → (c : Int) < n → ((some b4) = (none : Option Nat) → qOwn H c k1.toInt = none) ∧ (∀ x, (some b4) = some x → ∃ k, qOwn H c k1.toInt = some k ∧ FDq κ.2.2.2.2 H x (6 * c + k))) (hr3_1_0 : ((some b4) : Option Nat) = none → ¬ ON κ.2.2.2.2 b2 (oI κ.2.2.2.2 8 b2).toInt k1) (hr3_1_1 : ∀ f9 : Nat, ((some b4) : Option Nat) = some f9 → ON κ.2.2.2.2 b2 (oI κ.2.2.2.2 8 b2).toInt k1) : ∀ (q7 : Nat → Option Nat) (H : QT) (n : Int) (c : Nat), FAMq κ.2.2.2.2 q7 H n → q7 c = some k0 → (c : Int) < n → ((some b4) = (none : Option Nat) → qFldL H (qAnc H c) k1.toInt = none) ∧ (∀ x, (some b4) = some x → ∃ m, qFldL H (qAnc H c) k1.toInt = some m ∧ m < 30 ∧ FDq κ.2.2.2.2 H x m) := by
  intro q7 H n c F h hn
  obtain ⟨x, z2, z3⟩ := hi2y q7 H n c F h hn
  obtain ⟨g1, g2, g3, _, _, g6⟩ := z2.up9 F rfl rfl
  refine ⟨fun e => (by cases e), fun y e => ?_⟩
  obtain ⟨k, w1, w2⟩ := (hr3y q7 H n x.toNat F g6 (by omega)).2 _ e
  have w3 := (qFst_b _ _ w1).1
  have w4 := F.1
  have w5 := (F.f9 g6 (by omega)).2.2.2.2.2.1
  exact ⟨6 * x.toNat + k, z3.trans (by rw [qFldL_own9 F.2.1 F.1 g2 g3, w1] <;> rfl), by omega, w2⟩
set_option maxHeartbeats 4000000 in
set_option maxRecDepth 100000 in
theorem NX1_nearestField (l : Launch) (D : va_G) (cy : Nat → ClassId) (ad : Nat → Nat) (A : Nat → Prop) (sz0 : Nat) (sa : Nat → Nat)  (κ : KS) (sz sl : Nat) (hAF : ∀ q, A q → Fr sz0 q) (hAn : ∀ q : Nat, sz ≤ q → A q) (k0 : Nat) (k1 : Int32) (ht0 : oT κ.2.2.2.2 k0 = 3) (hPV : PV sa κ.2.2.2.2) : Met l yX1_nearestField (Cond.code yX1_nearestField cX1_nearestField 4 (some (.object "PhraseDesk$Field")) :: GWc) ({ frames := 1, cells := 0, slots := 0, locals := 23 }) (PcC D cy ad A sz0 sa [.ref k0, .int k1] κ sz sl) (va_Qq (fun (r : Option Nat) (u : Unit) => ((NT κ.2.2.2.2 4 r)) ∧ (∀ (q7 : Nat → Option Nat) (H : QT) (n : Int) (c : Nat), FAMq κ.2.2.2.2 q7 H n → q7 c = some k0 → (c : Int) < n → (r = (none : Option Nat) → qFldL H (qAnc H c) k1.toInt = none) ∧ (∀ x, r = some x → ∃ m, qFldL H (qAnc H c) k1.toInt = some m ∧ m < 30 ∧ FDq κ.2.2.2.2 H x m))) (fun (u : Unit) (t : State) => Bx D cy ad A sz sl κ (0) (0) t) A) (0) (0) A := by
  refine CM_of (loc0 := [(0, .ref k0), (1, .int k1)]) (own := RX1) (nm := "nearestField") (by decide) rfl rfl rfl (Nat.le_of_ble_eq_true rfl) hAF hAn ?_
  intro p e s m below meth c ls hsz hsl C hP hS hl
  refine lv_aload_n C.x C.b dX1_nearestField_0 rfl (lv_at hl 0 rfl) ?_
  refine lv_astore_n (lv' := [(2, .ref k0), (0, .ref k0), (1, .int k1)]) C.x C.b dX1_nearestField_1 rfl hl (by decide) rfl (fun ls hl => ?_)
  have lp2 : ∀ (n : Nat) (y1 : Option Nat) (H : Heap) (locs : List Loc) (ls : Array Slot), (cto κ.2.2.2.2 y1) < n → (NT κ.2.2.2.2 3 y1) → ((True) ∧ (∀ (q7 : Nat → Option Nat) (H : QT) (n : Int) (c : Nat), FAMq κ.2.2.2.2 q7 H n → q7 c = some k0 → (c : Int) < n → ∃ x : Int, FPq q7 n x y1 ∧ qFldL H (qAnc H c) k1.toInt = qFldL H (qAnc H x) k1.toInt)) → CH D cy ad A κ H → va_S A s.heap H locs → lv_has ls 4 [(2, va_rf y1), (0, .ref k0), (1, .int k1)] → W p l e (headSpec (Cond.code yX1_nearestField cX1_nearestField 4 (some (.object "PhraseDesk$Field")) :: GWc) ({ frames := 1, cells := 0, slots := 0, locals := 23 })).room s m #[.ref k0, .int k1] below meth c H locs (0) (0) (MQ below (va_Qq (fun (r : Option Nat) (u : Unit) => ((NT κ.2.2.2.2 4 r)) ∧ (∀ (q7 : Nat → Option Nat) (H : QT) (n : Int) (c : Nat), FAMq κ.2.2.2.2 q7 H n → q7 c = some k0 → (c : Int) < n → (r = (none : Option Nat) → qFldL H (qAnc H c) k1.toInt = none) ∧ (∀ x, r = some x → ∃ m, qFldL H (qAnc H c) k1.toInt = some m ∧ m < 30 ∧ FDq κ.2.2.2.2 H x m))) (fun (u : Unit) (t : State) => Bx D cy ad A sz sl κ (0) (0) t) A) #[.ref k0, .int k1] s (0) (0) A) (F0 m 2 ls []) := by
    intro n
    induction n with
    | zero => intro y1 H locs ls hn; exact absurd hn (Nat.not_lt_zero _)
    | succ n2 ih2 =>
      intro y1 H locs ls hn2 hf2_0 hi2 hP hS hl
      obtain ⟨hi2, hi2y⟩ := hi2
      refine lq_aload_n C.x C.b dX1_nearestField_2 rfl (lv_at hl 0 rfl) ?_
      cases y1 with
      | none =>
        refine lv_ifnullN (tgt := 26) C.x C.b dX1_nearestField_3 (by decide) ?_
        refine lv_null C.x C.b dX1_nearestField_26 ?_
        exact c_retq (v := none) (Or.inl ⟨_, rfl⟩) C hsz hsl () ⟨nt_n, (vX1_nearestField_2 sa κ k0 k1 ht0 hPV hi2y)⟩ hP hS ⟨(Nat.le_of_ble_eq_true rfl), (Nat.le_of_ble_eq_true rfl)⟩ ⟨(Nat.le_of_ble_eq_true rfl), (Nat.le_of_ble_eq_true rfl)⟩ dX1_nearestField_27
      | some b2 =>
        have hb2 : oT κ.2.2.2.2 b2 = 3 := hf2_0 b2 rfl
        refine lv_ifnull C.x C.b dX1_nearestField_3 ?_
        refine lv_aload_n C.x C.b dX1_nearestField_6 rfl (lv_at hl 0 rfl) ?_
        refine lv_iload_n C.x C.b dX1_nearestField_7 rfl (lv_at hl 2 rfl) ?_
        refine c_callVq (n := 1) (As := [.int k1]) (rest := []) C hP hS hl.1 (NX1_ownField l D cy ad A sz0 sa κ H.size (SLT H) C.f (fun q h => C.a q (Nat.le_trans hS.1 h)) b2 k1 hb2 hPV) ⟨cw_402, cw_399, by decide +kernel⟩ ⟨cw_403, cw_404, cw_405⟩ rfl (hP.recvP (t := 3) (ci := 3) C.K (t20 (a := b2) (t := 3) hb2) (by decide) rfl rfl) rfl rfl (lv_room (Nat.le_of_ble_eq_true rfl)) ⟨Nat.le_of_ble_eq_true rfl, Nat.le_of_ble_eq_true rfl⟩ ⟨(Nat.le_of_ble_eq_true rfl), (Nat.le_of_ble_eq_true rfl)⟩ dX1_nearestField_8 (fun r3 u H locs hr3 hP hS => ?_)
        obtain ⟨hr3, hr3y⟩ := hr3
        have hr3y : ∀ (q7 : Nat → Option Nat) (H : QT) (n : Int) (c : Nat), FAMq κ.2.2.2.2 q7 H n → q7 c = some b2 → (c : Int) < n → (r3 = (none : Option Nat) → qOwn H c k1.toInt = none) ∧ (∀ x, r3 = some x → ∃ k, qOwn H c k1.toInt = some k ∧ FDq κ.2.2.2.2 H x (6 * c + k)) := hr3y
        have hr3 : (NT κ.2.2.2.2 4 r3) ∧ (((r3 : Option Nat) = none → ¬ ON κ.2.2.2.2 b2 (oI κ.2.2.2.2 8 b2).toInt k1) ∧ (∀ f9 : Nat, (r3 : Option Nat) = some f9 → ON κ.2.2.2.2 b2 (oI κ.2.2.2.2 8 b2).toInt k1)) := hr3
        obtain ⟨hr3_0, hr3_1⟩ := hr3
        obtain ⟨hr3_1_0, hr3_1_1⟩ := hr3_1
        refine lq_astore_n (lv' := [(3, va_rf r3), (2, .ref b2), (0, .ref k0), (1, .int k1)]) C.x C.b dX1_nearestField_11 rfl hl (by decide) (by cases r3 <;> rfl) (fun ls hl => ?_)
        refine lq_aload_n C.x C.b dX1_nearestField_12 rfl (lv_at hl 0 rfl) ?_
        cases r3 with
        | none =>
          refine lv_ifnullN (tgt := 18) C.x C.b dX1_nearestField_13 (by decide) ?_
          refine lv_aload_n C.x C.b dX1_nearestField_18 rfl (lv_at hl 1 rfl) ?_
          obtain ⟨x5, ex5⟩ : ∃ z, oR κ.2.2.2.2 6 b2 = z := ⟨_, rfl⟩
          refine pg_X1_2 (v := x5) C hP (t20 (a := b2) (t := 3) hb2) ex5 cw_380 dX1_nearestField_19 ?_
          have tx5 : NT κ.2.2.2.2 3 x5 := by rw [← ex5]; exact (hPV.t3 hb2).1.1
          have mx5 : cto κ.2.2.2.2 x5 < oC κ.2.2.2.2 b2 := by rw [← ex5]; exact (hPV.t3 hb2).1.2
          refine lq_astore_n (lv' := [(2, va_rf x5), (3, .null), (0, .ref k0), (1, .int k1)]) C.x C.b dX1_nearestField_22 rfl hl (by decide) (by cases x5 <;> rfl) (fun ls hl => ?_)
          refine lv_goto (tgt := 2) C.x C.b dX1_nearestField_23 (by decide) ?_
          refine W.widen (k := 0) (n := 0) (Nat.le_of_ble_eq_true rfl) (Nat.le_of_ble_eq_true rfl) ?_
          exact ih2 x5 _ _ _ (Nat.lt_of_lt_of_le (vX1_nearestField_4 κ k1 b2 x5 hr3_1_0 hr3_1_1 mx5) (Nat.le_of_lt_succ hn2)) tx5 ⟨trivial, (vX1_nearestField_3 sa κ k0 k1 b2 x5 ht0 hPV hi2y hr3y hr3_1_0 hr3_1_1 ex5 mx5)⟩ hP hS (lv_sub hl [0, 2, 3] rfl)
        | some b4 =>
          have hb4 : oT κ.2.2.2.2 b4 = 4 := hr3_0 b4 rfl
          refine lv_ifnull C.x C.b dX1_nearestField_13 ?_
          refine lv_aload_n C.x C.b dX1_nearestField_16 rfl (lv_at hl 0 rfl) ?_
          exact c_retq (v := (some b4)) (Or.inl ⟨_, rfl⟩) C hsz hsl () ⟨(nt_s hb4), (vX1_nearestField_5 sa κ k0 k1 b2 b4 ht0 hPV hi2y hr3y hr3_1_0 hr3_1_1)⟩ hP hS ⟨(Nat.le_of_ble_eq_true rfl), (Nat.le_of_ble_eq_true rfl)⟩ ⟨(Nat.le_of_ble_eq_true rfl), (Nat.le_of_ble_eq_true rfl)⟩ dX1_nearestField_17
  refine W.widen (k := 0) (n := 0) (Nat.le_of_ble_eq_true rfl) (Nat.le_of_ble_eq_true rfl) ?_
  exact lp2 ((cto κ.2.2.2.2 (some k0)) + 1) (some k0) _ _ _ (Nat.lt_succ_self _) (nt_s ht0) ⟨trivial, (vX1_nearestField_1 sa κ k0 k1 ht0 hPV)⟩ hP hS (lv_sub hl [0, 1, 2] rfl)

-- post2 @33
theorem vX9_valueOf_1 (sa : Nat → Nat) (κ : KS) (k0 : Nat) (k1 : Int32) (x1 : Nat) (ht0 : oT κ.2.2.2.2 k0 = 6) (hPV : PV sa κ.2.2.2.2) (ex1 : oR κ.2.2.2.2 9 k0 = some x1) (hx1 : oT κ.2.2.2.2 x1 = 3) (hr2y : ∀ (q7 : Nat → Option Nat) (H : QT) (n : Int) (c : Nat), FAMq κ.2.2.2.2 q7 H n → q7 c = some x1 → (c : Int) < n → (none = (none : Option Nat) → qFldL H (qAnc H c) k1.toInt = none) ∧ (∀ x, none = some x → ∃ m, qFldL H (qAnc H c) k1.toInt = some m ∧ m < 30 ∧ FDq κ.2.2.2.2 H x m)) : ∀ (q7 q8 : Nat → Option Nat) (H : QT) (n : Int) (c a : Nat) (g : Nat → QV), FAMq κ.2.2.2.2 q7 H n → (∃ f, oR κ.2.2.2.2 9 k0 = some f ∧ q7 c = some f) → (c : Int) < n → oR κ.2.2.2.2 10 k0 = some a → AVq κ.2.2.2.2 sa q7 q8 a g → (none = (none : Option Nat) → qFldL H (qAnc H c) k1.toInt = none) ∧ (∀ x, none = some x → ∃ m, qFldL H (qAnc H c) k1.toInt = some m ∧ m < 30 ∧ VALq κ.2.2.2.2 sa q7 q8 x (g m)) := by
  intro q7 q8 H n c a g F h hn ha hv
  obtain ⟨f, h1, h2⟩ := h
  rw [ex1] at h1
  obtain rfl := Option.some.inj h1
  have N := hr2y q7 H n c F h2 hn
  exact ⟨fun _ => N.1 rfl, fun x e => (by cases e)⟩
-- post2 @33
theorem vX9_valueOf_2 (sa : Nat → Nat) (κ : KS) (k0 : Nat) (k1 : Int32) (x1 : Nat) (b3 : Nat) (x4 : Int32) (ht0 : oT κ.2.2.2.2 k0 = 6) (hPV : PV sa κ.2.2.2.2) (ex1 : oR κ.2.2.2.2 9 k0 = some x1) (hx1 : oT κ.2.2.2.2 x1 = 3) (hr2y : ∀ (q7 : Nat → Option Nat) (H : QT) (n : Int) (c : Nat), FAMq κ.2.2.2.2 q7 H n → q7 c = some x1 → (c : Int) < n → ((some b3) = (none : Option Nat) → qFldL H (qAnc H c) k1.toInt = none) ∧ (∀ x, (some b3) = some x → ∃ m, qFldL H (qAnc H c) k1.toInt = some m ∧ m < 30 ∧ FDq κ.2.2.2.2 H x m)) (ex4 : oI κ.2.2.2.2 12 b3 = x4) (c5 : x4.toInt < 0) : ∀ (q7 q8 : Nat → Option Nat) (H : QT) (n : Int) (c a : Nat) (g : Nat → QV), FAMq κ.2.2.2.2 q7 H n → (∃ f, oR κ.2.2.2.2 9 k0 = some f ∧ q7 c = some f) → (c : Int) < n → oR κ.2.2.2.2 10 k0 = some a → AVq κ.2.2.2.2 sa q7 q8 a g → (none = (none : Option Nat) → qFldL H (qAnc H c) k1.toInt = none) ∧ (∀ x, none = some x → ∃ m, qFldL H (qAnc H c) k1.toInt = some m ∧ m < 30 ∧ VALq κ.2.2.2.2 sa q7 q8 x (g m)) := by
  intro q7 q8 H n c a g F h hn ha hv
  obtain ⟨f, h1, h2⟩ := h
  rw [ex1] at h1
  obtain rfl := Option.some.inj h1
  have N := hr2y q7 H n c F h2 hn
  obtain ⟨m, m1, m2, m3, m4, m5⟩ := N.2 _ rfl
  rw [ex4] at m5
  exfalso; omega
-- in@42 @42
theorem vX9_valueOf_3 (κ : KS) (b3 : Nat) (x4 : Int32) (ex4 : oI κ.2.2.2.2 12 b3 = x4) (c5 : 0 ≤ x4.toInt) (c8 : x4.toInt < 30) : vp_in x4 30 := by
  exact vp_in_iff.mpr ⟨by omega, by omega⟩
-- post2 @43
theorem vX9_valueOf_4 (sa : Nat → Nat) (κ : KS) (k0 : Nat) (k1 : Int32) (x1 : Nat) (b3 : Nat) (x4 : Int32) (x6 : Nat) (x9 : Option Nat) (ht0 : oT κ.2.2.2.2 k0 = 6) (hPV : PV sa κ.2.2.2.2) (ex1 : oR κ.2.2.2.2 9 k0 = some x1) (hx1 : oT κ.2.2.2.2 x1 = 3) (hr2y : ∀ (q7 : Nat → Option Nat) (H : QT) (n : Int) (c : Nat), FAMq κ.2.2.2.2 q7 H n → q7 c = some x1 → (c : Int) < n → ((some b3) = (none : Option Nat) → qFldL H (qAnc H c) k1.toInt = none) ∧ (∀ x, (some b3) = some x → ∃ m, qFldL H (qAnc H c) k1.toInt = some m ∧ m < 30 ∧ FDq κ.2.2.2.2 H x m)) (ex4 : oI κ.2.2.2.2 12 b3 = x4) (c5 : 0 ≤ x4.toInt) (ex6 : oR κ.2.2.2.2 10 k0 = some x6) (hx6 : oT κ.2.2.2.2 x6 = 9) (c8 : x4.toInt < 30) (ex9 : x9 = oA κ.2.2.2.2 x6 x4.toNatClampNeg) : ∀ (q7 q8 : Nat → Option Nat) (H : QT) (n : Int) (c a : Nat) (g : Nat → QV), FAMq κ.2.2.2.2 q7 H n → (∃ f, oR κ.2.2.2.2 9 k0 = some f ∧ q7 c = some f) → (c : Int) < n → oR κ.2.2.2.2 10 k0 = some a → AVq κ.2.2.2.2 sa q7 q8 a g → (x9 = (none : Option Nat) → qFldL H (qAnc H c) k1.toInt = none) ∧ (∀ x, x9 = some x → ∃ m, qFldL H (qAnc H c) k1.toInt = some m ∧ m < 30 ∧ VALq κ.2.2.2.2 sa q7 q8 x (g m)) := by
  intro q7 q8 H n c a g F h hn ha hv
  obtain ⟨f, h1, h2⟩ := h
  rw [ex1] at h1
  obtain rfl := Option.some.inj h1
  have N := hr2y q7 H n c F h2 hn
  obtain ⟨m, m1, m2, m3, m4, m5⟩ := N.2 _ rfl
  rw [ex4] at m5
  rw [ex6] at ha
  obtain rfl := Option.some.inj ha
  obtain ⟨b, b1, b2⟩ := hv.2 m m2
  have em : x4.toNatClampNeg = m := by rw [clampN]; omega
  rw [em, b1] at ex9
  refine ⟨fun e => (by rw [e] at ex9; cases ex9), fun x e => ?_⟩
  rw [e] at ex9
  obtain rfl := Option.some.inj ex9
  exact ⟨m, m1, m2, b2⟩
-- post2 @33
theorem vX9_valueOf_5 (sa : Nat → Nat) (κ : KS) (k0 : Nat) (k1 : Int32) (x1 : Nat) (b3 : Nat) (x4 : Int32) (x6 : Nat) (ht0 : oT κ.2.2.2.2 k0 = 6) (hPV : PV sa κ.2.2.2.2) (ex1 : oR κ.2.2.2.2 9 k0 = some x1) (hx1 : oT κ.2.2.2.2 x1 = 3) (hr2y : ∀ (q7 : Nat → Option Nat) (H : QT) (n : Int) (c : Nat), FAMq κ.2.2.2.2 q7 H n → q7 c = some x1 → (c : Int) < n → ((some b3) = (none : Option Nat) → qFldL H (qAnc H c) k1.toInt = none) ∧ (∀ x, (some b3) = some x → ∃ m, qFldL H (qAnc H c) k1.toInt = some m ∧ m < 30 ∧ FDq κ.2.2.2.2 H x m)) (ex4 : oI κ.2.2.2.2 12 b3 = x4) (c5 : 0 ≤ x4.toInt) (ex6 : oR κ.2.2.2.2 10 k0 = some x6) (hx6 : oT κ.2.2.2.2 x6 = 9) (c8 : 30 ≤ x4.toInt) : ∀ (q7 q8 : Nat → Option Nat) (H : QT) (n : Int) (c a : Nat) (g : Nat → QV), FAMq κ.2.2.2.2 q7 H n → (∃ f, oR κ.2.2.2.2 9 k0 = some f ∧ q7 c = some f) → (c : Int) < n → oR κ.2.2.2.2 10 k0 = some a → AVq κ.2.2.2.2 sa q7 q8 a g → (none = (none : Option Nat) → qFldL H (qAnc H c) k1.toInt = none) ∧ (∀ x, none = some x → ∃ m, qFldL H (qAnc H c) k1.toInt = some m ∧ m < 30 ∧ VALq κ.2.2.2.2 sa q7 q8 x (g m)) := by
  intro q7 q8 H n c a g F h hn ha hv
  obtain ⟨f, h1, h2⟩ := h
  rw [ex1] at h1
  obtain rfl := Option.some.inj h1
  have N := hr2y q7 H n c F h2 hn
  obtain ⟨m, m1, m2, m3, m4, m5⟩ := N.2 _ rfl
  rw [ex4] at m5
  exfalso; omega
set_option maxHeartbeats 4000000 in
set_option maxRecDepth 100000 in
theorem NX9_valueOf (l : Launch) (D : va_G) (cy : Nat → ClassId) (ad : Nat → Nat) (A : Nat → Prop) (sz0 : Nat) (sa : Nat → Nat)  (κ : KS) (sz sl : Nat) (hAF : ∀ q, A q → Fr sz0 q) (hAn : ∀ q : Nat, sz ≤ q → A q) (k0 : Nat) (k1 : Int32) (ht0 : oT κ.2.2.2.2 k0 = 6) (hPV : PV sa κ.2.2.2.2) : Met l yX9_valueOf (Cond.code yX9_valueOf cX9_valueOf 3 (some (.object "PhraseDesk$Value")) :: GWc) ({ frames := 2, cells := 0, slots := 0, locals := 46 }) (PcC D cy ad A sz0 sa [.ref k0, .int k1] κ sz sl) (va_Qq (fun (r : Option Nat) (u : Unit) => ((NT κ.2.2.2.2 1 r)) ∧ (∀ (q7 q8 : Nat → Option Nat) (H : QT) (n : Int) (c a : Nat) (g : Nat → QV), FAMq κ.2.2.2.2 q7 H n → (∃ f, oR κ.2.2.2.2 9 k0 = some f ∧ q7 c = some f) → (c : Int) < n → oR κ.2.2.2.2 10 k0 = some a → AVq κ.2.2.2.2 sa q7 q8 a g → (r = (none : Option Nat) → qFldL H (qAnc H c) k1.toInt = none) ∧ (∀ x, r = some x → ∃ m, qFldL H (qAnc H c) k1.toInt = some m ∧ m < 30 ∧ VALq κ.2.2.2.2 sa q7 q8 x (g m)))) (fun (u : Unit) (t : State) => Bx D cy ad A sz sl κ (0) (0) t) A) (0) (0) A := by
  refine CM_of (loc0 := [(0, .ref k0), (1, .int k1)]) (own := RX9) (nm := "valueOf") (by decide) rfl rfl rfl (Nat.le_of_ble_eq_true rfl) hAF hAn ?_
  intro p e s m below meth c ls hsz hsl C hP hS hl
  refine lv_aload_n C.x C.b dX9_valueOf_0 rfl (lv_at hl 0 rfl) ?_
  obtain ⟨x1, ex1, hx1⟩ := (hPV.t6 ht0).1
  refine pg_X9_1 (v := some x1) C hP (t20 (a := k0) (t := 6) ht0) ex1 cw_728 dX9_valueOf_1 ?_
  refine lv_iload_n C.x C.b dX9_valueOf_4 rfl (lv_at hl 1 rfl) ?_
  refine c_callVq (n := 1) (As := [.int k1]) (rest := []) C hP hS hl.1 (NX1_nearestField l D cy ad A sz0 sa κ s.heap.size (SLT s.heap) C.f (fun q h => C.a q (Nat.le_trans hS.1 h)) x1 k1 hx1 hPV) ⟨cw_731, cw_401, by decide +kernel⟩ ⟨cw_732, cw_733, cw_405⟩ rfl (hP.recvP (t := 3) (ci := 3) C.K (t20 (a := x1) (t := 3) hx1) (by decide) rfl rfl) rfl rfl (lv_room (Nat.le_of_ble_eq_true rfl)) ⟨Nat.le_of_ble_eq_true rfl, Nat.le_of_ble_eq_true rfl⟩ ⟨(Nat.le_of_ble_eq_true rfl), (Nat.le_of_ble_eq_true rfl)⟩ dX9_valueOf_5 (fun r2 u H locs hr2 hP hS => ?_)
  obtain ⟨hr2, hr2y⟩ := hr2
  have hr2y : ∀ (q7 : Nat → Option Nat) (H : QT) (n : Int) (c : Nat), FAMq κ.2.2.2.2 q7 H n → q7 c = some x1 → (c : Int) < n → (r2 = (none : Option Nat) → qFldL H (qAnc H c) k1.toInt = none) ∧ (∀ x, r2 = some x → ∃ m, qFldL H (qAnc H c) k1.toInt = some m ∧ m < 30 ∧ FDq κ.2.2.2.2 H x m) := hr2y
  have hr2 : (NT κ.2.2.2.2 4 r2) := hr2
  refine lq_astore_n (lv' := [(2, va_rf r2), (0, .ref k0), (1, .int k1)]) C.x C.b dX9_valueOf_8 rfl hl (by decide) (by cases r2 <;> rfl) (fun ls hl => ?_)
  refine lq_aload_n C.x C.b dX9_valueOf_9 rfl (lv_at hl 0 rfl) ?_
  cases r2 with
  | none =>
    refine lv_ifnullN (tgt := 32) C.x C.b dX9_valueOf_10 (by decide) ?_
    refine lv_null C.x C.b dX9_valueOf_32 ?_
    exact c_retq (v := none) (Or.inl ⟨_, rfl⟩) C hsz hsl () ⟨nt_n, (vX9_valueOf_1 sa κ k0 k1 x1 ht0 hPV ex1 hx1 hr2y)⟩ hP hS ⟨(Nat.le_of_ble_eq_true rfl), (Nat.le_of_ble_eq_true rfl)⟩ ⟨(Nat.le_of_ble_eq_true rfl), (Nat.le_of_ble_eq_true rfl)⟩ dX9_valueOf_33
  | some b3 =>
    have hb3 : oT κ.2.2.2.2 b3 = 4 := hr2 b3 rfl
    refine lv_ifnull C.x C.b dX9_valueOf_10 ?_
    refine lv_aload_n C.x C.b dX9_valueOf_13 rfl (lv_at hl 0 rfl) ?_
    obtain ⟨x4, ex4⟩ : ∃ z, oI κ.2.2.2.2 12 b3 = z := ⟨_, rfl⟩
    refine pg_X2_2 (v := x4) C hP (t20 (a := b3) (t := 4) hb3) ex4 cw_729 dX9_valueOf_14 ?_
    refine lv_if_lt (tgt := 32) C.x C.b dX9_valueOf_17 (by decide) (fun c5 => ?_) (fun c5 => ?_)
    · have c5 : x4.toInt < 0 := by have h := z_lt c5; rw [show (0 : Int32).toInt = 0 from by decide +kernel] at h; exact h
      refine lv_null C.x C.b dX9_valueOf_32 ?_
      exact c_retq (v := none) (Or.inl ⟨_, rfl⟩) C hsz hsl () ⟨nt_n, (vX9_valueOf_2 sa κ k0 k1 x1 b3 x4 ht0 hPV ex1 hx1 hr2y ex4 c5)⟩ hP hS ⟨(Nat.le_of_ble_eq_true rfl), (Nat.le_of_ble_eq_true rfl)⟩ ⟨(Nat.le_of_ble_eq_true rfl), (Nat.le_of_ble_eq_true rfl)⟩ dX9_valueOf_33
    · have c5 : 0 ≤ x4.toInt := by have h := z_nlt c5; rw [show (0 : Int32).toInt = 0 from by decide +kernel] at h; exact h
      refine lv_aload_n C.x C.b dX9_valueOf_20 rfl (lv_at hl 0 rfl) ?_
      refine pg_X2_2 (v := x4) C hP (t20 (a := b3) (t := 4) hb3) ex4 cw_729 dX9_valueOf_21 ?_
      refine lv_aload_n C.x C.b dX9_valueOf_24 rfl (lv_at hl 1 rfl) ?_
      obtain ⟨x6, ex6, hx6⟩ := (hPV.t6 ht0).2
      refine pg_X9_2 (v := some x6) C hP (t20 (a := k0) (t := 6) ht0) ex6 cw_730 dX9_valueOf_25 ?_
      refine pl_9 C hP (t20 (a := x6) (t := 9) hx6) dX9_valueOf_28 ?_
      refine lv_icmp_lt (tgt := 34) C.x C.b dX9_valueOf_29 (by decide) (fun c8 => ?_) (fun c8 => ?_)
      · have c8 : x4.toInt < 30 := by have h := z_lt c8; rw [show (30 : Int32).toInt = 30 from by decide +kernel] at h; exact h
        refine lv_aload_n C.x C.b dX9_valueOf_34 rfl (lv_at hl 1 rfl) ?_
        refine pg_X9_2 (v := (some x6)) C hP (t20 (a := k0) (t := 6) ht0) ex6 cw_730 dX9_valueOf_35 ?_
        refine lv_aload_n C.x C.b dX9_valueOf_38 rfl (lv_at hl 0 rfl) ?_
        refine pg_X2_2 (v := x4) C hP (t20 (a := b3) (t := 4) hb3) ex4 cw_729 dX9_valueOf_39 ?_
        refine pa_9 C hP (t20 (a := x6) (t := 9) hx6) rfl (vX9_valueOf_3 κ b3 x4 ex4 c5 c8) dX9_valueOf_42 (fun x9 ex9 => ?_)
        have tx9 : NT κ.2.2.2.2 1 x9 := by rw [ex9]; exact hPV.t9 hx6 _
        exact c_retq (v := x9) (Or.inl ⟨_, rfl⟩) C hsz hsl () ⟨tx9, (vX9_valueOf_4 sa κ k0 k1 x1 b3 x4 x6 x9 ht0 hPV ex1 hx1 hr2y ex4 c5 ex6 hx6 c8 ex9)⟩ hP hS ⟨(Nat.le_of_ble_eq_true rfl), (Nat.le_of_ble_eq_true rfl)⟩ ⟨(Nat.le_of_ble_eq_true rfl), (Nat.le_of_ble_eq_true rfl)⟩ dX9_valueOf_43
      · have c8 : 30 ≤ x4.toInt := by have h := z_nlt c8; rw [show (30 : Int32).toInt = 30 from by decide +kernel] at h; exact h
        refine lv_null C.x C.b dX9_valueOf_32 ?_
        exact c_retq (v := none) (Or.inl ⟨_, rfl⟩) C hsz hsl () ⟨nt_n, (vX9_valueOf_5 sa κ k0 k1 x1 b3 x4 x6 ht0 hPV ex1 hx1 hr2y ex4 c5 ex6 hx6 c8)⟩ hP hS ⟨(Nat.le_of_ble_eq_true rfl), (Nat.le_of_ble_eq_true rfl)⟩ ⟨(Nat.le_of_ble_eq_true rfl), (Nat.le_of_ble_eq_true rfl)⟩ dX9_valueOf_33

-- post2 @29
theorem vX9_hold_1 (sa : Nat → Nat) (κ : KS) (k0 : Nat) (k1 : Nat) (k2 : Nat) (x1 : Int32) (ht0 : oT κ.2.2.2.2 k0 = 6) (ht1 : oT κ.2.2.2.2 k1 = 4) (ht2 : oT κ.2.2.2.2 k2 = 1) (hPV : PV sa κ.2.2.2.2) (ex1 : oI κ.2.2.2.2 12 k1 = x1) (c2 : x1.toInt < 0) : ∀ (H : QT) (a m : Nat), oR κ.2.2.2.2 10 k0 = some a → FDq κ.2.2.2.2 H k1 m → m < 30 → κ.2.2.2.2 = sA κ.2.2.2.2 a (va_up (oA κ.2.2.2.2 a) m (some k2)) := by
  intro H a m ha hf hm
  have m5 := hf.2.2
  rw [ex1] at m5
  exfalso; omega
-- post2 @29
theorem vX9_hold_2 (sa : Nat → Nat) (κ : KS) (k0 : Nat) (k1 : Nat) (k2 : Nat) (x1 : Int32) (x3 : Nat) (ht0 : oT κ.2.2.2.2 k0 = 6) (ht1 : oT κ.2.2.2.2 k1 = 4) (ht2 : oT κ.2.2.2.2 k2 = 1) (hPV : PV sa κ.2.2.2.2) (ex1 : oI κ.2.2.2.2 12 k1 = x1) (c2 : 0 ≤ x1.toInt) (ex3 : oR κ.2.2.2.2 10 k0 = some x3) (hx3 : oT κ.2.2.2.2 x3 = 9) (c5 : 30 ≤ x1.toInt) : ∀ (H : QT) (a m : Nat), oR κ.2.2.2.2 10 k0 = some a → FDq κ.2.2.2.2 H k1 m → m < 30 → κ.2.2.2.2 = sA κ.2.2.2.2 a (va_up (oA κ.2.2.2.2 a) m (some k2)) := by
  intro H a m ha hf hm
  have m5 := hf.2.2
  rw [ex1] at m5
  exfalso; omega
-- in@28 @28
theorem vX9_hold_3 (κ : KS) (k1 : Nat) (x1 : Int32) (ex1 : oI κ.2.2.2.2 12 k1 = x1) (c2 : 0 ≤ x1.toInt) (c5 : x1.toInt < 30) : vp_in x1 30 := by
  exact vp_in_iff.mpr ⟨by omega, by omega⟩
-- post2 @29
theorem vX9_hold_4 (sa : Nat → Nat) (κ : KS) (k0 : Nat) (k1 : Nat) (k2 : Nat) (x1 : Int32) (x3 : Nat) (ht0 : oT κ.2.2.2.2 k0 = 6) (ht1 : oT κ.2.2.2.2 k1 = 4) (ht2 : oT κ.2.2.2.2 k2 = 1) (hPV : PV sa κ.2.2.2.2) (ex1 : oI κ.2.2.2.2 12 k1 = x1) (c2 : 0 ≤ x1.toInt) (ex3 : oR κ.2.2.2.2 10 k0 = some x3) (hx3 : oT κ.2.2.2.2 x3 = 9) (c5 : x1.toInt < 30) (exz6 : EX κ.2.2.2.2 (sA κ.2.2.2.2 x3 (va_up (oA κ.2.2.2.2 x3) x1.toNatClampNeg (some k2)))) : ∀ (H : QT) (a m : Nat), oR κ.2.2.2.2 10 k0 = some a → FDq κ.2.2.2.2 H k1 m → m < 30 → (sA κ.2.2.2.2 x3 (va_up (oA κ.2.2.2.2 x3) x1.toNatClampNeg (some k2))) = sA κ.2.2.2.2 a (va_up (oA κ.2.2.2.2 a) m (some k2)) := by
  intro H a m ha hf hm
  have m5 := hf.2.2
  rw [ex1] at m5
  rw [ex3] at ha
  obtain rfl := Option.some.inj ha
  rw [show x1.toNatClampNeg = m by rw [clampN]; omega]
set_option maxHeartbeats 4000000 in
set_option maxRecDepth 100000 in
theorem NX9_hold (l : Launch) (D : va_G) (cy : Nat → ClassId) (ad : Nat → Nat) (A : Nat → Prop) (sz0 : Nat) (sa : Nat → Nat)  (κ : KS) (sz sl : Nat) (hAF : ∀ q, A q → Fr sz0 q) (hAn : ∀ q : Nat, sz ≤ q → A q) (k0 : Nat) (k1 : Nat) (k2 : Nat) (ht0 : oT κ.2.2.2.2 k0 = 6) (ht1 : oT κ.2.2.2.2 k1 = 4) (ht2 : oT κ.2.2.2.2 k2 = 1) (hPV : PV sa κ.2.2.2.2) : Met l yX9_hold (Cond.code yX9_hold cX9_hold 3 none :: GWc) ({ frames := 0, cells := 0, slots := 0, locals := 0 }) (PcC D cy ad A sz0 sa [.ref k0, .ref k1, .ref k2] κ sz sl) (va_Qv (fun (u : PL) => ((EX κ.2.2.2.2 u) ∧ (PV sa u) ∧ (KPx False κ.2.2.2.2 u)) ∧ (∀ (H : QT) (a m : Nat), oR κ.2.2.2.2 10 k0 = some a → FDq κ.2.2.2.2 H k1 m → m < 30 → u = sA κ.2.2.2.2 a (va_up (oA κ.2.2.2.2 a) m (some k2)))) (fun (u : PL) (t : State) => Bx D cy ad A sz sl (tP κ u) (0) (0) t) A) (0) (0) A := by
  refine CM_of (loc0 := [(0, .ref k0), (1, .ref k1), (2, .ref k2)]) (own := RX9) (nm := "hold") (by decide) rfl rfl rfl (Nat.le_of_ble_eq_true rfl) hAF hAn ?_
  intro p e s m below meth c ls hsz hsl C hP hS hl
  refine lv_aload_n C.x C.b dX9_hold_0 rfl (lv_at hl 1 rfl) ?_
  obtain ⟨x1, ex1⟩ : ∃ z, oI κ.2.2.2.2 12 k1 = z := ⟨_, rfl⟩
  refine pg_X2_2 (v := x1) C hP (t20 (a := k1) (t := 4) ht1) ex1 cw_729 dX9_hold_1 ?_
  refine lv_if_lt (tgt := 29) C.x C.b dX9_hold_4 (by decide) (fun c2 => ?_) (fun c2 => ?_)
  · have c2 : x1.toInt < 0 := by have h := z_lt c2; rw [show (0 : Int32).toInt = 0 from by decide +kernel] at h; exact h
    have hP : CH D cy ad A (tP κ κ.2.2.2.2) s.heap := CH.cong hP rfl rfl rfl rfl rfl rfl rfl rfl rfl rfl rfl rfl rfl rfl rfl rfl rfl rfl rfl rfl rfl rfl rfl rfl rfl rfl rfl
    exact c_retv C hsz hsl κ.2.2.2.2 ⟨⟨EX.rf, hPV, KPx.rf⟩, (vX9_hold_1 sa κ k0 k1 k2 x1 ht0 ht1 ht2 hPV ex1 c2)⟩ hP hS ⟨(Nat.le_of_ble_eq_true rfl), (Nat.le_of_ble_eq_true rfl)⟩ ⟨(Nat.le_of_ble_eq_true rfl), (Nat.le_of_ble_eq_true rfl)⟩ dX9_hold_29
  · have c2 : 0 ≤ x1.toInt := by have h := z_nlt c2; rw [show (0 : Int32).toInt = 0 from by decide +kernel] at h; exact h
    refine lv_aload_n C.x C.b dX9_hold_7 rfl (lv_at hl 1 rfl) ?_
    refine pg_X2_2 (v := x1) C hP (t20 (a := k1) (t := 4) ht1) ex1 cw_729 dX9_hold_8 ?_
    refine lv_aload_n C.x C.b dX9_hold_11 rfl (lv_at hl 0 rfl) ?_
    obtain ⟨x3, ex3, hx3⟩ := (hPV.t6 ht0).2
    refine pg_X9_2 (v := some x3) C hP (t20 (a := k0) (t := 6) ht0) ex3 cw_730 dX9_hold_12 ?_
    refine pl_9 C hP (t20 (a := x3) (t := 9) hx3) dX9_hold_15 ?_
    refine lv_icmp_ge (tgt := 29) C.x C.b dX9_hold_16 (by decide) (fun c5 => ?_) (fun c5 => ?_)
    · have c5 : 30 ≤ x1.toInt := by have h := z_le c5; rw [show (30 : Int32).toInt = 30 from by decide +kernel] at h; exact h
      have hP : CH D cy ad A (tP κ κ.2.2.2.2) s.heap := CH.cong hP rfl rfl rfl rfl rfl rfl rfl rfl rfl rfl rfl rfl rfl rfl rfl rfl rfl rfl rfl rfl rfl rfl rfl rfl rfl rfl rfl
      exact c_retv C hsz hsl κ.2.2.2.2 ⟨⟨EX.rf, hPV, KPx.rf⟩, (vX9_hold_2 sa κ k0 k1 k2 x1 x3 ht0 ht1 ht2 hPV ex1 c2 ex3 hx3 c5)⟩ hP hS ⟨(Nat.le_of_ble_eq_true rfl), (Nat.le_of_ble_eq_true rfl)⟩ ⟨(Nat.le_of_ble_eq_true rfl), (Nat.le_of_ble_eq_true rfl)⟩ dX9_hold_29
    · have c5 : x1.toInt < 30 := by have h := z_nle c5; rw [show (30 : Int32).toInt = 30 from by decide +kernel] at h; exact h
      refine lv_aload_n C.x C.b dX9_hold_19 rfl (lv_at hl 0 rfl) ?_
      refine pg_X9_2 (v := (some x3)) C hP (t20 (a := k0) (t := 6) ht0) ex3 cw_730 dX9_hold_20 ?_
      refine lv_aload_n C.x C.b dX9_hold_23 rfl (lv_at hl 1 rfl) ?_
      refine pg_X2_2 (v := x1) C hP (t20 (a := k1) (t := 4) ht1) ex1 cw_729 dX9_hold_24 ?_
      refine lv_aload_n C.x C.b dX9_hold_27 rfl (lv_at hl 2 rfl) ?_
      refine pw_9 C hP hS (t20 (a := x3) (t := 9) hx3) rfl (t20 (a := k2) (t := 1) ht2) (vX9_hold_3 κ k1 x1 ex1 c2 c5) dX9_hold_28 (fun H locs hP hS => ?_)
      have exz6 : EX κ.2.2.2.2 (sA κ.2.2.2.2 x3 (va_up (oA κ.2.2.2.2 x3) x1.toNatClampNeg (some k2))) := (EX.stA hx3)
      have kpz6 : KPx False κ.2.2.2.2 (sA κ.2.2.2.2 x3 (va_up (oA κ.2.2.2.2 x3) x1.toNatClampNeg (some k2))) := KPx.rf.stA9
      have pvz6 : PV sa (sA κ.2.2.2.2 x3 (va_up (oA κ.2.2.2.2 x3) x1.toNatClampNeg (some k2))) := (hPV.stA hx3 (nt_up (hPV.t9 hx3) (nt_s ht2)))
      exact c_retv C hsz hsl (sA κ.2.2.2.2 x3 (va_up (oA κ.2.2.2.2 x3) x1.toNatClampNeg (some k2))) ⟨⟨exz6, pvz6, kpz6⟩, (vX9_hold_4 sa κ k0 k1 k2 x1 x3 ht0 ht1 ht2 hPV ex1 c2 ex3 hx3 c5 exz6)⟩ hP hS ⟨(Nat.le_of_ble_eq_true rfl), (Nat.le_of_ble_eq_true rfl)⟩ ⟨(Nat.le_of_ble_eq_true rfl), (Nat.le_of_ble_eq_true rfl)⟩ dX9_hold_29
