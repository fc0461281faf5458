set_option maxHeartbeats 4000000 in
set_option maxRecDepth 100000 in
theorem NX10_init (l : Launch) (D : va_G) (cy : Nat → ClassId) (ad : Nat → Nat) (A : Nat → Prop) (sz0 : Nat) (sa : Nat → Nat)  (κ : KS) (sz sl : Nat) (hAF : ∀ q, A q → Fr sz0 q) (hAn : ∀ q : Nat, sz ≤ q → A q) (k0 : Nat) (k1 : Int32) (k2 : Int32) (k3 : UInt64) (k4 : Nat) (k5 : Option Nat) (ht0 : oT κ.2.2.2.2 k0 = 21) (ht4 : SOK κ.2.2.2.2 sa k4) (ht5 : NT κ.2.2.2.2 6 k5) (hPV : PV sa κ.2.2.2.2) (hpre : FN k3) : Met l yX10_init (Cond.code yX10_init cX10_init 7 none :: GWc) ({ frames := 1, cells := 0, slots := 0, locals := 20 }) (PcC D cy ad A sz0 sa [.ref k0, .int k1, .int k2, .double k3, .ref k4, va_rf k5] κ sz sl) (va_Qv (fun (u : PL) => ((EXP (fun a => ¬ a = k0) κ.2.2.2.2 u) ∧ (PV sa u) ∧ (oT u k0 = 1) ∧ (KPx True κ.2.2.2.2 u)) ∧ (oI u 0 k0 = k1 ∧ oI u 1 k0 = k2 ∧ oD u k0 = k3 ∧ oR u 0 k0 = some k4 ∧ oR u 1 k0 = k5)) (fun (u : PL) (t : State) => Bx D cy ad A sz sl (tP κ u) (0) (0) t) A) (0) (0) A := by
  refine CM_of (loc0 := [(0, .ref k0), (1, .int k1), (2, .int k2), (3, .double k3), (5, .ref k4), (6, va_rf k5)]) (own := RX10) (nm := "<init>") (by decide) rfl rfl (by cases k5 <;> rfl) (by cases k5 <;> exact Nat.le_of_ble_eq_true rfl) hAF hAn ?_
  intro p e s m below meth c ls hsz hsl C hP hS hl
  have kz0 : KZ κ.2.2.2.2 sa := KZ.mk9 C hP
  refine lv_aload_n C.x C.b dX10_init_0 rfl (lv_at hl 0 rfl) ?_
  refine W.objInit C.x C.b C.o (C.w _ cw_88) (C.w _ cw_2) (C.w _ cw_3) rfl (by rw [C.ml]; exact hl.1) rfl dX10_init_1 (Nat.le_of_ble_eq_true rfl) (Nat.le_of_ble_eq_true rfl) ?_
  refine W.eq (g2 := F0 m 4 ls []) rfl ?_
  refine lv_aload_n C.x C.b dX10_init_4 rfl (lv_at hl 0 rfl) ?_
  refine lv_iload_n C.x C.b dX10_init_5 rfl (lv_at hl 1 rfl) ?_
  refine pp_X10_0 C rfl rfl hP hS (t20 (a := k0) (t := 21) ht0) cw_42 dX10_init_6 (fun H locs hP hS => ?_)
  have pvz1 : PV sa (sI κ.2.2.2.2 0 k0 k1) := hPV.rI (raw_le ht0 (by decide))
  have xpz1 : EXP (fun a => ¬ a = k0) κ.2.2.2.2 (sI κ.2.2.2.2 0 k0 k1) := XP.rf.trans XP.xI
  have kpz1 : KPx True κ.2.2.2.2 (sI κ.2.2.2.2 0 k0 k1) := KPx.rf.rI9 (raw_le ht0 (by decide))
  refine lv_aload_n C.x C.b dX10_init_9 rfl (lv_at hl 0 rfl) ?_
  refine lv_iload_n C.x C.b dX10_init_10 rfl (lv_at hl 2 rfl) ?_
  refine pp_X10_1 C rfl rfl hP hS (t20 (a := k0) (t := 21) ht0) cw_89 dX10_init_11 (fun H locs hP hS => ?_)
  have pvz2 : PV sa (sI (sI κ.2.2.2.2 0 k0 k1) 1 k0 k2) := pvz1.rI (raw_le ht0 (by decide))
  have xpz2 : EXP (fun a => ¬ a = k0) κ.2.2.2.2 (sI (sI κ.2.2.2.2 0 k0 k1) 1 k0 k2) := xpz1.trans XP.xI
  have kpz2 : KPx True κ.2.2.2.2 (sI (sI κ.2.2.2.2 0 k0 k1) 1 k0 k2) := kpz1.rI9 (raw_le ht0 (by decide))
  refine lv_aload_n C.x C.b dX10_init_14 rfl (lv_at hl 0 rfl) ?_
  refine lv_dload_n C.x C.b dX10_init_15 rfl (lv_at hl 3 rfl) ?_
  refine pp_X10_2 C rfl rfl hP hS (t20 (a := k0) (t := 21) ht0) cw_90 dX10_init_16 (fun H locs hP hS => ?_)
  have pvz3 : PV sa (sD (sI (sI κ.2.2.2.2 0 k0 k1) 1 k0 k2) k0 k3) := pvz2.rD (raw_le ht0 (by decide))
  have xpz3 : EXP (fun a => ¬ a = k0) κ.2.2.2.2 (sD (sI (sI κ.2.2.2.2 0 k0 k1) 1 k0 k2) k0 k3) := xpz2.trans XP.xD
  have kpz3 : KPx True κ.2.2.2.2 (sD (sI (sI κ.2.2.2.2 0 k0 k1) 1 k0 k2) k0 k3) := kpz2.rD9 (raw_le ht0 (by decide))
  refine lv_aload_n C.x C.b dX10_init_19 rfl (lv_at hl 0 rfl) ?_
  refine lv_aload C.x C.b dX10_init_20 (lv_at hl 4 rfl) ?_
  refine pp_X10_3 (v := (some k4)) C rfl rfl hP hS (t20 (a := k0) (t := 21) ht0) cw_91 dX10_init_22 (fun H locs hP hS => ?_)
  have pvz4 : PV sa (sR (sD (sI (sI κ.2.2.2.2 0 k0 k1) 1 k0 k2) k0 k3) 0 k0 (some k4)) := pvz3.rR (raw_le ht0 (by decide))
  have xpz4 : EXP (fun a => ¬ a = k0) κ.2.2.2.2 (sR (sD (sI (sI κ.2.2.2.2 0 k0 k1) 1 k0 k2) k0 k3) 0 k0 (some k4)) := xpz3.trans XP.xR
  have kpz4 : KPx True κ.2.2.2.2 (sR (sD (sI (sI κ.2.2.2.2 0 k0 k1) 1 k0 k2) k0 k3) 0 k0 (some k4)) := kpz3.rR9 (raw_le ht0 (by decide))
  refine lv_aload_n C.x C.b dX10_init_25 rfl (lv_at hl 0 rfl) ?_
  refine lq_aload C.x C.b dX10_init_26 (lv_at hl 5 rfl) ?_
  refine pp_X10_4 (v := k5) C rfl rfl hP hS (t20 (a := k0) (t := 21) ht0) cw_47 dX10_init_28 (fun H locs hP hS => ?_)
  have pvz5 : PV sa (sR (sR (sD (sI (sI κ.2.2.2.2 0 k0 k1) 1 k0 k2) k0 k3) 0 k0 (some k4)) 1 k0 k5) := pvz4.rR (raw_le ht0 (by decide))
  have xpz5 : EXP (fun a => ¬ a = k0) κ.2.2.2.2 (sR (sR (sD (sI (sI κ.2.2.2.2 0 k0 k1) 1 k0 k2) k0 k3) 0 k0 (some k4)) 1 k0 k5) := xpz4.trans XP.xR
  have kpz5 : KPx True κ.2.2.2.2 (sR (sR (sD (sI (sI κ.2.2.2.2 0 k0 k1) 1 k0 k2) k0 k3) 0 k0 (some k4)) 1 k0 k5) := kpz4.rR9 (raw_le ht0 (by decide))
  have hP := CH.fin (t := 1) (n := 0) hP (show oT (sR (sR (sD (sI (sI κ.2.2.2.2 0 k0 k1) 1 k0 k2) k0 k3) 0 k0 (some k4)) 1 k0 k5) k0 = 20 + 1 from ht0) (by decide)
  have pvF : PV sa (sC (sT (sR (sR (sD (sI (sI κ.2.2.2.2 0 k0 k1) 1 k0 k2) k0 k3) 0 k0 (some k4)) 1 k0 k5) k0 1) k0 (0)) := fin_1 pvz5 ht0 ⟨k4, by simp [oR, oI, oD, sR, sI, sD, va_up, upd, vf_upd], ht4⟩ (by rw [show oR (sR (sR (sD (sI (sI κ.2.2.2.2 0 k0 k1) 1 k0 k2) k0 k3) 0 k0 (some k4)) 1 k0 k5) 1 k0 = k5 from by simp [oR, oI, oD, sR, sI, sD, va_up, upd, vf_upd]]; exact ht5) (by rw [show oD (sR (sR (sD (sI (sI κ.2.2.2.2 0 k0 k1) 1 k0 k2) k0 k3) 0 k0 (some k4)) 1 k0 k5) k0 = k3 from by simp [oR, oI, oD, sR, sI, sD, va_up, upd, vf_upd]]; exact hpre)
  have xpF : EXP (fun a => ¬ a = k0) κ.2.2.2.2 (sC (sT (sR (sR (sD (sI (sI κ.2.2.2.2 0 k0 k1) 1 k0 k2) k0 k3) 0 k0 (some k4)) 1 k0 k5) k0 1) k0 (0)) := xpz5.trans XP.xC
  have kpF : KPx True κ.2.2.2.2 (sC (sT (sR (sR (sD (sI (sI κ.2.2.2.2 0 k0 k1) 1 k0 k2) k0 k3) 0 k0 (some k4)) 1 k0 k5) k0 1) k0 (0)) := kpz5.fin9 (raw_le ht0 (by decide))
  have hP : CH D cy ad A (tP (tP (tP (tP (tP (tP κ (sI κ.2.2.2.2 0 k0 k1)) (sI (sI κ.2.2.2.2 0 k0 k1) 1 k0 k2)) (sD (sI (sI κ.2.2.2.2 0 k0 k1) 1 k0 k2) k0 k3)) (sR (sD (sI (sI κ.2.2.2.2 0 k0 k1) 1 k0 k2) k0 k3) 0 k0 (some k4))) (sR (sR (sD (sI (sI κ.2.2.2.2 0 k0 k1) 1 k0 k2) k0 k3) 0 k0 (some k4)) 1 k0 k5)) (sC (sT (sR (sR (sD (sI (sI κ.2.2.2.2 0 k0 k1) 1 k0 k2) k0 k3) 0 k0 (some k4)) 1 k0 k5) k0 1) k0 (0))) H := hP
  have hP : CH D cy ad A (tP κ (sC (sT (sR (sR (sD (sI (sI κ.2.2.2.2 0 k0 k1) 1 k0 k2) k0 k3) 0 k0 (some k4)) 1 k0 k5) k0 1) k0 (0))) H := CH.cong hP rfl rfl rfl rfl rfl rfl rfl rfl rfl rfl rfl rfl rfl rfl rfl rfl rfl rfl rfl rfl rfl rfl rfl rfl rfl rfl rfl
  exact c_retv C hsz hsl (sC (sT (sR (sR (sD (sI (sI κ.2.2.2.2 0 k0 k1) 1 k0 k2) k0 k3) 0 k0 (some k4)) 1 k0 k5) k0 1) k0 (0)) ⟨⟨xpF, pvF, fin_T, kpF⟩, ⟨show oI (sR (sR (sD (sI (sI κ.2.2.2.2 0 k0 k1) 1 k0 k2) k0 k3) 0 k0 (some k4)) 1 k0 k5) 0 k0 = k1 from (by simp [oR, oI, oD, sR, sI, sD, va_up, upd, vf_upd]), show oI (sR (sR (sD (sI (sI κ.2.2.2.2 0 k0 k1) 1 k0 k2) k0 k3) 0 k0 (some k4)) 1 k0 k5) 1 k0 = k2 from (by simp [oR, oI, oD, sR, sI, sD, va_up, upd, vf_upd]), show oD (sR (sR (sD (sI (sI κ.2.2.2.2 0 k0 k1) 1 k0 k2) k0 k3) 0 k0 (some k4)) 1 k0 k5) k0 = k3 from (by simp [oR, oI, oD, sR, sI, sD, va_up, upd, vf_upd]), show oR (sR (sR (sD (sI (sI κ.2.2.2.2 0 k0 k1) 1 k0 k2) k0 k3) 0 k0 (some k4)) 1 k0 k5) 0 k0 = some k4 from (by simp [oR, oI, oD, sR, sI, sD, va_up, upd, vf_upd]), show oR (sR (sR (sD (sI (sI κ.2.2.2.2 0 k0 k1) 1 k0 k2) k0 k3) 0 k0 (some k4)) 1 k0 k5) 1 k0 = k5 from (by simp [oR, oI, oD, sR, sI, sD, va_up, upd, vf_upd])⟩⟩ hP hS ⟨(Nat.le_of_ble_eq_true rfl), (Nat.le_of_ble_eq_true rfl)⟩ ⟨(Nat.le_of_ble_eq_true rfl), (Nat.le_of_ble_eq_true rfl)⟩ dX10_init_31

-- pre:X10_init@10 @10
theorem vX10_ofNull_1   : FN FP.dconst0 := by
  first | assumption | exact fp_k0 | exact fp_i2d _ | (subst_vars; exact fp_i2d _) | exact (fp_FN_iff _).mpr (by decide +kernel)
-- post2 @13
theorem vX10_ofNull_2 (sa : Nat → Nat) (κ : KS) (q1 : Nat) (P4 : PL) (hPV : PV sa κ.2.2.2.2) (exz2 : EX κ.2.2.2.2 (newP κ.2.2.2.2 q1 21)) (h0q1 : oT κ.2.2.2.2 q1 = 0) (exz5 : EX κ.2.2.2.2 P4) (hr3_2 : oT P4 q1 = 1) (hr3_3 : KPx True (newP κ.2.2.2.2 q1 21) P4) (hr3y_0 : oI P4 0 q1 = (0 : Int32)) (hr3y_1 : oI P4 1 q1 = (0 : Int32)) (hr3y_2 : oD P4 q1 = FP.dconst0) (hr3y_3 : oR P4 0 q1 = some (sa 0)) (hr3y_4 : oR P4 1 q1 = none) : ∀ q7 q8 : Nat → Option Nat, VALq P4 sa q7 q8 q1 qNull := by
  have q0 : (0 : Int32).toInt = 0 := by decide +kernel
  intro q7 q8
  exact VALq.mk9 hr3_2 (Or.inl rfl) (show (0 : Int) < 8 by decide) (by rw [hr3y_0]; exact (by decide : (0 : Int32).toInt = (0 : Int))) (by rw [hr3y_1]; decide) (by rw [hr3y_2]; rfl) hr3y_3 TXq.e9 hr3y_4
set_option maxHeartbeats 4000000 in
set_option maxRecDepth 100000 in
theorem NX10_ofNull (l : Launch) (D : va_G) (cy : Nat → ClassId) (ad : Nat → Nat) (A : Nat → Prop) (sz0 : Nat) (sa : Nat → Nat)  (κ : KS) (sz sl : Nat) (hAF : ∀ q, A q → Fr sz0 q) (hAn : ∀ q : Nat, sz ≤ q → A q)  (hPV : PV sa κ.2.2.2.2) : Met l yX10_ofNull (Cond.code yX10_ofNull cX10_ofNull 0 (some (.object "PhraseDesk$Value")) :: GWc) ({ frames := 2, cells := 1, slots := 5, locals := 46 }) (PcC D cy ad A sz0 sa [] κ sz sl) (va_Qq (fun (r : Option Nat) (u : PL) => ((EX κ.2.2.2.2 u) ∧ (PV sa u) ∧ (KPx True κ.2.2.2.2 u) ∧ (NN u 1 r)) ∧ (∀ q7 q8 : Nat → Option Nat, VALq u sa q7 q8 (r.getD 0) qNull)) (fun (u : PL) (t : State) => Bx D cy ad A sz sl (tP κ u) (1) (5) t) A) (1) (5) A := by
  refine CM_of (loc0 := []) (own := RX10) (nm := "ofNull") (by decide) rfl rfl rfl (Nat.le_of_ble_eq_true rfl) hAF hAn ?_
  intro p e s m below meth c ls hsz hsl C hP hS hl
  refine cn_X10 C hP hS cw_83 cw_84 cw_40 ⟨(Nat.le_of_ble_eq_true rfl), (Nat.le_of_ble_eq_true rfl)⟩ dX10_ofNull_0 (fun q1 H h0q1 hP hS => ?_)
  have exz2 : EX κ.2.2.2.2 (newP κ.2.2.2.2 q1 21) := (EX.newP h0q1)
  have kpz2 : KPx True κ.2.2.2.2 (newP κ.2.2.2.2 q1 21) := KPx.rf.newP9 hPV h0q1
  have pvz2 : PV sa (newP κ.2.2.2.2 q1 21) := (hPV.raw h0q1 (by decide))
  refine lv_dup C.x C.b dX10_ofNull_3 rfl ?_
  refine lv_iconst (v := 0) C.x C.b dX10_ofNull_4 (by decide +kernel) ?_
  refine lv_iconst (v := 0) C.x C.b dX10_ofNull_5 (by decide +kernel) ?_
  refine lv_dconst0 C.x C.b dX10_ofNull_6 ?_
  refine va_ldcS C.x C.b C.o C.en.2.2.2.2.1 dX10_ofNull_7 ?_
  refine lv_null C.x C.b dX10_ofNull_9 ?_
  refine c_callIv (C2 := "") (n := 5) (As := [.int 0, .int 0, .double FP.dconst0, .ref (sa 0), .null]) (rest := [.ref q1]) C hP hS hl.1 (NX10_init l D cy ad A sz0 sa (tP κ (newP κ.2.2.2.2 q1 21)) H.size (SLT H) C.f (fun q h => C.a q (Nat.le_trans hS.1 h)) q1 (0 : Int32) (0 : Int32) FP.dconst0 (sa 0) none (by show oT (newP κ.2.2.2.2 q1 21) q1 = 21; rw [newP_T, if_pos rfl]) (SOK.any (P := (newP κ.2.2.2.2 q1 21)) (sa := sa) (c := (sa 0)) (by unfold KC; simp)) nt_n pvz2 (vX10_ofNull_1  )) ⟨cw_85, cw_87, by decide +kernel⟩ ⟨cw_86, cw_40⟩ rfl rfl rfl (lv_room (Nat.le_of_ble_eq_true rfl)) ⟨Nat.le_of_ble_eq_true rfl, Nat.le_of_ble_eq_true rfl⟩ ⟨(Nat.le_of_ble_eq_true rfl), (Nat.le_of_ble_eq_true rfl)⟩ dX10_ofNull_10 (fun u H locs hr3 hP hS => ?_)
  obtain ⟨P4, rfl⟩ : ∃ z, z = u := ⟨_, rfl⟩
  have hP : CH D cy ad A (tP (tP κ (newP κ.2.2.2.2 q1 21)) P4) H := hP
  obtain ⟨hr3, hr3y⟩ := hr3
  have hr3y : oI P4 0 q1 = (0 : Int32) ∧ oI P4 1 q1 = (0 : Int32) ∧ oD P4 q1 = FP.dconst0 ∧ oR P4 0 q1 = some (sa 0) ∧ oR P4 1 q1 = none := hr3y
  have hr3 : (EXP (fun a => ¬ a = q1) (newP κ.2.2.2.2 q1 21) P4) ∧ (PV sa P4) ∧ (oT P4 q1 = 1) ∧ (KPx True (newP κ.2.2.2.2 q1 21) P4) := hr3
  obtain ⟨hr3_0, hr3_1, hr3_2, hr3_3⟩ := hr3
  have exz5 : EX κ.2.2.2.2 P4 := EX.cons exz2 h0q1 hr3_0
  have kpz6 : KPx True κ.2.2.2.2 P4 := kpz2.trans hr3_3
  obtain ⟨hr3y_0, hr3y_1, hr3y_2, hr3y_3, hr3y_4⟩ := hr3y
  have hP : CH D cy ad A (tP κ P4) H := CH.cong hP rfl rfl rfl rfl rfl rfl rfl rfl rfl rfl rfl rfl rfl rfl rfl rfl rfl rfl rfl rfl rfl rfl rfl rfl rfl rfl rfl
  exact c_retq (v := (some q1)) (Or.inl ⟨_, rfl⟩) C hsz hsl P4 ⟨⟨exz5, hr3_1, kpz6, ⟨q1, rfl, hr3_2⟩⟩, (vX10_ofNull_2 sa κ q1 P4 hPV exz2 h0q1 exz5 hr3_2 hr3_3 hr3y_0 hr3y_1 hr3y_2 hr3y_3 hr3y_4)⟩ hP hS ⟨(Nat.le_of_ble_eq_true rfl), (Nat.le_of_ble_eq_true rfl)⟩ ⟨(Nat.le_of_ble_eq_true rfl), (Nat.le_of_ble_eq_true rfl)⟩ dX10_ofNull_13

-- pre:X10_init@18 @18
theorem vX10_ofBool_1   : FN FP.dconst0 := by
  first | assumption | exact fp_k0 | exact fp_i2d _ | (subst_vars; exact fp_i2d _) | exact (fp_FN_iff _).mpr (by decide +kernel)
-- post2 @21
theorem vX10_ofBool_2 (sa : Nat → Nat) (κ : KS) (k0 : Int32) (q1 : Nat) (P5 : PL) (hPV : PV sa κ.2.2.2.2) (exz2 : EX κ.2.2.2.2 (newP κ.2.2.2.2 q1 21)) (h0q1 : oT κ.2.2.2.2 q1 = 0) (c3 : k0.toInt = 0) (exz6 : EX κ.2.2.2.2 P5) (hr4_2 : oT P5 q1 = 1) (hr4_3 : KPx True (newP κ.2.2.2.2 q1 21) P5) (hr4y_0 : oI P5 0 q1 = (1 : Int32)) (hr4y_1 : oI P5 1 q1 = (0 : Int32)) (hr4y_2 : oD P5 q1 = FP.dconst0) (hr4y_3 : oR P5 0 q1 = some (sa 0)) (hr4y_4 : oR P5 1 q1 = none) : ∀ q7 q8 : Nat → Option Nat, VALq P5 sa q7 q8 q1 (qBool (decide (¬ k0.toInt = 0))) := by
  have q0 : (0 : Int32).toInt = 0 := by decide +kernel
  have qq1 : (1 : Int32).toInt = 1 := by decide +kernel
  intro q7 q8
  rw [show decide (¬ k0.toInt = 0) = false from decide_eq_false (by omega)]
  exact VALq.mk9 hr4_2 (Or.inr (Or.inl ⟨_, rfl⟩)) (show (1 : Int) < 8 by decide) (by rw [hr4y_0]; exact (by decide : (1 : Int32).toInt = (1 : Int))) (by rw [hr4y_1]; decide) (by rw [hr4y_2]; rfl) hr4y_3 TXq.e9 hr4y_4
-- post2 @21
theorem vX10_ofBool_3 (sa : Nat → Nat) (κ : KS) (k0 : Int32) (q1 : Nat) (P9 : PL) (hPV : PV sa κ.2.2.2.2) (exz2 : EX κ.2.2.2.2 (newP κ.2.2.2.2 q1 21)) (h0q1 : oT κ.2.2.2.2 q1 = 0) (c3 : ¬ k0.toInt = 0) (exz10 : EX κ.2.2.2.2 P9) (hr8_2 : oT P9 q1 = 1) (hr8_3 : KPx True (newP κ.2.2.2.2 q1 21) P9) (hr8y_0 : oI P9 0 q1 = (1 : Int32)) (hr8y_1 : oI P9 1 q1 = (1 : Int32)) (hr8y_2 : oD P9 q1 = FP.dconst0) (hr8y_3 : oR P9 0 q1 = some (sa 0)) (hr8y_4 : oR P9 1 q1 = none) : ∀ q7 q8 : Nat → Option Nat, VALq P9 sa q7 q8 q1 (qBool (decide (¬ k0.toInt = 0))) := by
  have qq1 : (1 : Int32).toInt = 1 := by decide +kernel
  intro q7 q8
  rw [show decide (¬ k0.toInt = 0) = true from decide_eq_true (by omega)]
  exact VALq.mk9 hr8_2 (Or.inr (Or.inl ⟨_, rfl⟩)) (show (1 : Int) < 8 by decide) (by rw [hr8y_0]; exact (by decide : (1 : Int32).toInt = (1 : Int))) (by rw [hr8y_1]; decide) (by rw [hr8y_2]; rfl) hr8y_3 TXq.e9 hr8y_4
set_option maxHeartbeats 4000000 in
set_option maxRecDepth 100000 in
theorem NX10_ofBool (l : Launch) (D : va_G) (cy : Nat → ClassId) (ad : Nat → Nat) (A : Nat → Prop) (sz0 : Nat) (sa : Nat → Nat)  (κ : KS) (sz sl : Nat) (hAF : ∀ q, A q → Fr sz0 q) (hAn : ∀ q : Nat, sz ≤ q → A q) (k0 : Int32) (hPV : PV sa κ.2.2.2.2) : Met l yX10_ofBool (Cond.code yX10_ofBool cX10_ofBool 1 (some (.object "PhraseDesk$Value")) :: GWc) ({ frames := 2, cells := 1, slots := 5, locals := 46 }) (PcC D cy ad A sz0 sa [.int k0] κ sz sl) (va_Qq (fun (r : Option Nat) (u : PL) => ((EX κ.2.2.2.2 u) ∧ (PV sa u) ∧ (KPx True κ.2.2.2.2 u) ∧ (NN u 1 r)) ∧ (∀ q7 q8 : Nat → Option Nat, VALq u sa q7 q8 (r.getD 0) (qBool (decide (¬ k0.toInt = 0))))) (fun (u : PL) (t : State) => Bx D cy ad A sz sl (tP κ u) (1) (5) t) A) (1) (5) A := by
  refine CM_of (loc0 := [(0, .int k0)]) (own := RX10) (nm := "ofBool") (by decide) rfl rfl rfl (Nat.le_of_ble_eq_true rfl) hAF hAn ?_
  intro p e s m below meth c ls hsz hsl C hP hS hl
  refine cn_X10 C hP hS cw_83 cw_84 cw_40 ⟨(Nat.le_of_ble_eq_true rfl), (Nat.le_of_ble_eq_true rfl)⟩ dX10_ofBool_0 (fun q1 H h0q1 hP hS => ?_)
  have exz2 : EX κ.2.2.2.2 (newP κ.2.2.2.2 q1 21) := (EX.newP h0q1)
  have kpz2 : KPx True κ.2.2.2.2 (newP κ.2.2.2.2 q1 21) := KPx.rf.newP9 hPV h0q1
  have pvz2 : PV sa (newP κ.2.2.2.2 q1 21) := (hPV.raw h0q1 (by decide))
  refine lv_dup C.x C.b dX10_ofBool_3 rfl ?_
  refine lv_iconst (v := 1) C.x C.b dX10_ofBool_4 (by decide +kernel) ?_
  refine lv_iload_n C.x C.b dX10_ofBool_5 rfl (lv_at hl 0 rfl) ?_
  refine lv_if_eq (tgt := 13) C.x C.b dX10_ofBool_6 (by decide) (fun c3 => ?_) (fun c3 => ?_)
  · have c3 : k0.toInt = 0 := by have h := z_eq c3; rw [show (0 : Int32).toInt = 0 from by decide +kernel] at h; exact h
    refine lv_iconst (v := 0) C.x C.b dX10_ofBool_13 (by decide +kernel) ?_
    refine lv_dconst0 C.x C.b dX10_ofBool_14 ?_
    refine va_ldcS C.x C.b C.o C.en.2.2.2.2.1 dX10_ofBool_15 ?_
    refine lv_null C.x C.b dX10_ofBool_17 ?_
    refine c_callIv (C2 := "") (n := 5) (As := [.int 1, .int 0, .double FP.dconst0, .ref (sa 0), .null]) (rest := [.ref q1]) C hP hS hl.1 (NX10_init l D cy ad A sz0 sa (tP κ (newP κ.2.2.2.2 q1 21)) H.size (SLT H) C.f (fun q h => C.a q (Nat.le_trans hS.1 h)) q1 (1 : Int32) (0 : Int32) FP.dconst0 (sa 0) none (by show oT (newP κ.2.2.2.2 q1 21) q1 = 21; rw [newP_T, if_pos rfl]) (SOK.any (P := (newP κ.2.2.2.2 q1 21)) (sa := sa) (c := (sa 0)) (by unfold KC; simp)) nt_n pvz2 (vX10_ofBool_1  )) ⟨cw_85, cw_87, by decide +kernel⟩ ⟨cw_86, cw_40⟩ rfl rfl rfl (lv_room (Nat.le_of_ble_eq_true rfl)) ⟨Nat.le_of_ble_eq_true rfl, Nat.le_of_ble_eq_true rfl⟩ ⟨(Nat.le_of_ble_eq_true rfl), (Nat.le_of_ble_eq_true rfl)⟩ dX10_ofBool_18 (fun u H locs hr4 hP hS => ?_)
    obtain ⟨P5, rfl⟩ : ∃ z, z = u := ⟨_, rfl⟩
    have hP : CH D cy ad A (tP (tP κ (newP κ.2.2.2.2 q1 21)) P5) H := hP
    obtain ⟨hr4, hr4y⟩ := hr4
    have hr4y : oI P5 0 q1 = (1 : Int32) ∧ oI P5 1 q1 = (0 : Int32) ∧ oD P5 q1 = FP.dconst0 ∧ oR P5 0 q1 = some (sa 0) ∧ oR P5 1 q1 = none := hr4y
    have hr4 : (EXP (fun a => ¬ a = q1) (newP κ.2.2.2.2 q1 21) P5) ∧ (PV sa P5) ∧ (oT P5 q1 = 1) ∧ (KPx True (newP κ.2.2.2.2 q1 21) P5) := hr4
    obtain ⟨hr4_0, hr4_1, hr4_2, hr4_3⟩ := hr4
    have exz6 : EX κ.2.2.2.2 P5 := EX.cons exz2 h0q1 hr4_0
    have kpz7 : KPx True κ.2.2.2.2 P5 := kpz2.trans hr4_3
    obtain ⟨hr4y_0, hr4y_1, hr4y_2, hr4y_3, hr4y_4⟩ := hr4y
    have hP : CH D cy ad A (tP κ P5) H := CH.cong hP rfl rfl rfl rfl rfl rfl rfl rfl rfl rfl rfl rfl rfl rfl rfl rfl rfl rfl rfl rfl rfl rfl rfl rfl rfl rfl rfl
    exact c_retq (v := (some q1)) (Or.inl ⟨_, rfl⟩) C hsz hsl P5 ⟨⟨exz6, hr4_1, kpz7, ⟨q1, rfl, hr4_2⟩⟩, (vX10_ofBool_2 sa κ k0 q1 P5 hPV exz2 h0q1 c3 exz6 hr4_2 hr4_3 hr4y_0 hr4y_1 hr4y_2 hr4y_3 hr4y_4)⟩ hP hS ⟨(Nat.le_of_ble_eq_true rfl), (Nat.le_of_ble_eq_true rfl)⟩ ⟨(Nat.le_of_ble_eq_true rfl), (Nat.le_of_ble_eq_true rfl)⟩ dX10_ofBool_21
  · have c3 : ¬ k0.toInt = 0 := by have h := z_ne c3; rw [show (0 : Int32).toInt = 0 from by decide +kernel] at h; exact h
    refine lv_iconst (v := 1) C.x C.b dX10_ofBool_9 (by decide +kernel) ?_
    refine lv_goto (tgt := 14) C.x C.b dX10_ofBool_10 (by decide) ?_
    refine lv_dconst0 C.x C.b dX10_ofBool_14 ?_
    refine va_ldcS C.x C.b C.o C.en.2.2.2.2.1 dX10_ofBool_15 ?_
    refine lv_null C.x C.b dX10_ofBool_17 ?_
    refine c_callIv (C2 := "") (n := 5) (As := [.int 1, .int 1, .double FP.dconst0, .ref (sa 0), .null]) (rest := [.ref q1]) C hP hS hl.1 (NX10_init l D cy ad A sz0 sa (tP κ (newP κ.2.2.2.2 q1 21)) H.size (SLT H) C.f (fun q h => C.a q (Nat.le_trans hS.1 h)) q1 (1 : Int32) (1 : Int32) FP.dconst0 (sa 0) none (by show oT (newP κ.2.2.2.2 q1 21) q1 = 21; rw [newP_T, if_pos rfl]) (SOK.any (P := (newP κ.2.2.2.2 q1 21)) (sa := sa) (c := (sa 0)) (by unfold KC; simp)) nt_n pvz2 (vX10_ofBool_1  )) ⟨cw_85, cw_87, by decide +kernel⟩ ⟨cw_86, cw_40⟩ rfl rfl rfl (lv_room (Nat.le_of_ble_eq_true rfl)) ⟨Nat.le_of_ble_eq_true rfl, Nat.le_of_ble_eq_true rfl⟩ ⟨(Nat.le_of_ble_eq_true rfl), (Nat.le_of_ble_eq_true rfl)⟩ dX10_ofBool_18 (fun u H locs hr8 hP hS => ?_)
    obtain ⟨P9, rfl⟩ : ∃ z, z = u := ⟨_, rfl⟩
    have hP : CH D cy ad A (tP (tP κ (newP κ.2.2.2.2 q1 21)) P9) H := hP
    obtain ⟨hr8, hr8y⟩ := hr8
    have hr8y : oI P9 0 q1 = (1 : Int32) ∧ oI P9 1 q1 = (1 : Int32) ∧ oD P9 q1 = FP.dconst0 ∧ oR P9 0 q1 = some (sa 0) ∧ oR P9 1 q1 = none := hr8y
    have hr8 : (EXP (fun a => ¬ a = q1) (newP κ.2.2.2.2 q1 21) P9) ∧ (PV sa P9) ∧ (oT P9 q1 = 1) ∧ (KPx True (newP κ.2.2.2.2 q1 21) P9) := hr8
    obtain ⟨hr8_0, hr8_1, hr8_2, hr8_3⟩ := hr8
    have exz10 : EX κ.2.2.2.2 P9 := EX.cons exz2 h0q1 hr8_0
    have kpz11 : KPx True κ.2.2.2.2 P9 := kpz2.trans hr8_3
    obtain ⟨hr8y_0, hr8y_1, hr8y_2, hr8y_3, hr8y_4⟩ := hr8y
    have hP : CH D cy ad A (tP κ P9) H := CH.cong hP rfl rfl rfl rfl rfl rfl rfl rfl rfl rfl rfl rfl rfl rfl rfl rfl rfl rfl rfl rfl rfl rfl rfl rfl rfl rfl rfl
    exact c_retq (v := (some q1)) (Or.inl ⟨_, rfl⟩) C hsz hsl P9 ⟨⟨exz10, hr8_1, kpz11, ⟨q1, rfl, hr8_2⟩⟩, (vX10_ofBool_3 sa κ k0 q1 P9 hPV exz2 h0q1 c3 exz10 hr8_2 hr8_3 hr8y_0 hr8y_1 hr8y_2 hr8y_3 hr8y_4)⟩ hP hS ⟨(Nat.le_of_ble_eq_true rfl), (Nat.le_of_ble_eq_true rfl)⟩ ⟨(Nat.le_of_ble_eq_true rfl), (Nat.le_of_ble_eq_true rfl)⟩ dX10_ofBool_21

-- pre:X10_init@11 @11
theorem vX10_ofInt_1 (k0 : Int32) (x3 : UInt64) (ex3 : x3 = FP.i2d k0) (fx3 : FN x3) : FN x3 := by
  first | assumption | exact fp_k0 | exact fp_i2d _ | (subst_vars; exact fp_i2d _) | exact (fp_FN_iff _).mpr (by decide +kernel)
-- post2 @14
theorem vX10_ofInt_2 (sa : Nat → Nat) (κ : KS) (k0 : Int32) (q1 : Nat) (x3 : UInt64) (P5 : PL) (hPV : PV sa κ.2.2.2.2) (exz2 : EX κ.2.2.2.2 (newP κ.2.2.2.2 q1 21)) (h0q1 : oT κ.2.2.2.2 q1 = 0) (ex3 : x3 = FP.i2d k0) (fx3 : FN x3) (exz6 : EX κ.2.2.2.2 P5) (hr4_2 : oT P5 q1 = 1) (hr4_3 : KPx True (newP κ.2.2.2.2 q1 21) P5) (hr4y_0 : oI P5 0 q1 = (2 : Int32)) (hr4y_1 : oI P5 1 q1 = k0) (hr4y_2 : oD P5 q1 = x3) (hr4y_3 : oR P5 0 q1 = some (sa 0)) (hr4y_4 : oR P5 1 q1 = none) : ∀ q7 q8 : Nat → Option Nat, VALq P5 sa q7 q8 q1 (qInt k0) := by
  have q2 : (2 : Int32).toInt = 2 := by decide +kernel
  intro q7 q8
  exact VALq.mk9 hr4_2 (Or.inr (Or.inr (Or.inl ⟨_, rfl⟩))) (show (2 : Int) < 8 by decide) (by rw [hr4y_0]; exact (by decide : (2 : Int32).toInt = (2 : Int))) (by rw [hr4y_1]; rfl) (by rw [hr4y_2, ex3]; show _ = FP.i2d (Int32.ofInt k0.toInt); rw [Int32.ofInt_toInt]) hr4y_3 TXq.e9 hr4y_4
set_option maxHeartbeats 4000000 in
set_option maxRecDepth 100000 in
theorem NX10_ofInt (l : Launch) (D : va_G) (cy : Nat → ClassId) (ad : Nat → Nat) (A : Nat → Prop) (sz0 : Nat) (sa : Nat → Nat)  (κ : KS) (sz sl : Nat) (hAF : ∀ q, A q → Fr sz0 q) (hAn : ∀ q : Nat, sz ≤ q → A q) (k0 : Int32) (hPV : PV sa κ.2.2.2.2) : Met l yX10_ofInt (Cond.code yX10_ofInt cX10_ofInt 1 (some (.object "PhraseDesk$Value")) :: GWc) ({ frames := 2, cells := 1, slots := 5, locals := 46 }) (PcC D cy ad A sz0 sa [.int k0] κ sz sl) (va_Qq (fun (r : Option Nat) (u : PL) => ((EX κ.2.2.2.2 u) ∧ (PV sa u) ∧ (KPx True κ.2.2.2.2 u) ∧ (NN u 1 r)) ∧ (∀ q7 q8 : Nat → Option Nat, VALq u sa q7 q8 (r.getD 0) (qInt k0))) (fun (u : PL) (t : State) => Bx D cy ad A sz sl (tP κ u) (1) (5) t) A) (1) (5) A := by
  refine CM_of (loc0 := [(0, .int k0)]) (own := RX10) (nm := "ofInt") (by decide) rfl rfl rfl (Nat.le_of_ble_eq_true rfl) hAF hAn ?_
  intro p e s m below meth c ls hsz hsl C hP hS hl
  refine cn_X10 C hP hS cw_83 cw_84 cw_40 ⟨(Nat.le_of_ble_eq_true rfl), (Nat.le_of_ble_eq_true rfl)⟩ dX10_ofInt_0 (fun q1 H h0q1 hP hS => ?_)
  have exz2 : EX κ.2.2.2.2 (newP κ.2.2.2.2 q1 21) := (EX.newP h0q1)
  have kpz2 : KPx True κ.2.2.2.2 (newP κ.2.2.2.2 q1 21) := KPx.rf.newP9 hPV h0q1
  have pvz2 : PV sa (newP κ.2.2.2.2 q1 21) := (hPV.raw h0q1 (by decide))
  refine lv_dup C.x C.b dX10_ofInt_3 rfl ?_
  refine lv_iconst (v := 2) C.x C.b dX10_ofInt_4 (by decide +kernel) ?_
  refine lv_iload_n C.x C.b dX10_ofInt_5 rfl (lv_at hl 0 rfl) ?_
  refine lv_iload_n C.x C.b dX10_ofInt_6 rfl (lv_at hl 0 rfl) ?_
  refine lv_i2d C.x C.b dX10_ofInt_7 ?_
  refine lv_topd (fun x3 ex3 => ?_)
  have fx3 : FN x3 := by rw [ex3]; exact fp_i2d _
  refine va_ldcS C.x C.b C.o C.en.2.2.2.2.1 dX10_ofInt_8 ?_
  refine lv_null C.x C.b dX10_ofInt_10 ?_
  refine c_callIv (C2 := "") (n := 5) (As := [.int 2, .int k0, .double x3, .ref (sa 0), .null]) (rest := [.ref q1]) C hP hS hl.1 (NX10_init l D cy ad A sz0 sa (tP κ (newP κ.2.2.2.2 q1 21)) H.size (SLT H) C.f (fun q h => C.a q (Nat.le_trans hS.1 h)) q1 (2 : Int32) k0 x3 (sa 0) none (by show oT (newP κ.2.2.2.2 q1 21) q1 = 21; rw [newP_T, if_pos rfl]) (SOK.any (P := (newP κ.2.2.2.2 q1 21)) (sa := sa) (c := (sa 0)) (by unfold KC; simp)) nt_n pvz2 (vX10_ofInt_1 k0 x3 ex3 fx3)) ⟨cw_85, cw_87, by decide +kernel⟩ ⟨cw_86, cw_40⟩ rfl rfl rfl (lv_room (Nat.le_of_ble_eq_true rfl)) ⟨Nat.le_of_ble_eq_true rfl, Nat.le_of_ble_eq_true rfl⟩ ⟨(Nat.le_of_ble_eq_true rfl), (Nat.le_of_ble_eq_true rfl)⟩ dX10_ofInt_11 (fun u H locs hr4 hP hS => ?_)
  obtain ⟨P5, rfl⟩ : ∃ z, z = u := ⟨_, rfl⟩
  have hP : CH D cy ad A (tP (tP κ (newP κ.2.2.2.2 q1 21)) P5) H := hP
  obtain ⟨hr4, hr4y⟩ := hr4
  have hr4y : oI P5 0 q1 = (2 : Int32) ∧ oI P5 1 q1 = k0 ∧ oD P5 q1 = x3 ∧ oR P5 0 q1 = some (sa 0) ∧ oR P5 1 q1 = none := hr4y
  have hr4 : (EXP (fun a => ¬ a = q1) (newP κ.2.2.2.2 q1 21) P5) ∧ (PV sa P5) ∧ (oT P5 q1 = 1) ∧ (KPx True (newP κ.2.2.2.2 q1 21) P5) := hr4
  obtain ⟨hr4_0, hr4_1, hr4_2, hr4_3⟩ := hr4
  have exz6 : EX κ.2.2.2.2 P5 := EX.cons exz2 h0q1 hr4_0
  have kpz7 : KPx True κ.2.2.2.2 P5 := kpz2.trans hr4_3
  obtain ⟨hr4y_0, hr4y_1, hr4y_2, hr4y_3, hr4y_4⟩ := hr4y
  have hP : CH D cy ad A (tP κ P5) H := CH.cong hP rfl rfl rfl rfl rfl rfl rfl rfl rfl rfl rfl rfl rfl rfl rfl rfl rfl rfl rfl rfl rfl rfl rfl rfl rfl rfl rfl
  exact c_retq (v := (some q1)) (Or.inl ⟨_, rfl⟩) C hsz hsl P5 ⟨⟨exz6, hr4_1, kpz7, ⟨q1, rfl, hr4_2⟩⟩, (vX10_ofInt_2 sa κ k0 q1 x3 P5 hPV exz2 h0q1 ex3 fx3 exz6 hr4_2 hr4_3 hr4y_0 hr4y_1 hr4y_2 hr4y_3 hr4y_4)⟩ hP hS ⟨(Nat.le_of_ble_eq_true rfl), (Nat.le_of_ble_eq_true rfl)⟩ ⟨(Nat.le_of_ble_eq_true rfl), (Nat.le_of_ble_eq_true rfl)⟩ dX10_ofInt_14

-- pre:X10_init@11 @11
theorem vX10_ofReal_1 (k0 : UInt64) (x3 : Int32) (hpre : FN k0) (ex3 : x3 = FP.d2i k0) : FN k0 := by
  first | assumption | exact fp_k0 | exact fp_i2d _ | (subst_vars; exact fp_i2d _) | exact (fp_FN_iff _).mpr (by decide +kernel)
-- post2 @14
theorem vX10_ofReal_2 (sa : Nat → Nat) (κ : KS) (k0 : UInt64) (q1 : Nat) (x3 : Int32) (P5 : PL) (hPV : PV sa κ.2.2.2.2) (hpre : FN k0) (exz2 : EX κ.2.2.2.2 (newP κ.2.2.2.2 q1 21)) (h0q1 : oT κ.2.2.2.2 q1 = 0) (ex3 : x3 = FP.d2i k0) (exz6 : EX κ.2.2.2.2 P5) (hr4_2 : oT P5 q1 = 1) (hr4_3 : KPx True (newP κ.2.2.2.2 q1 21) P5) (hr4y_0 : oI P5 0 q1 = (3 : Int32)) (hr4y_1 : oI P5 1 q1 = x3) (hr4y_2 : oD P5 q1 = k0) (hr4y_3 : oR P5 0 q1 = some (sa 0)) (hr4y_4 : oR P5 1 q1 = none) : ∀ q7 q8 : Nat → Option Nat, VALq P5 sa q7 q8 q1 (qReal k0) := by
  have q3 : (3 : Int32).toInt = 3 := by decide +kernel
  intro q7 q8
  exact VALq.mk9 hr4_2 (Or.inr (Or.inr (Or.inr (Or.inl ⟨_, hpre, rfl⟩)))) (show (3 : Int) < 8 by decide) (by rw [hr4y_0]; exact (by decide : (3 : Int32).toInt = (3 : Int))) (by rw [hr4y_1, ex3]; rfl) (hr4y_2) hr4y_3 TXq.e9 hr4y_4
set_option maxHeartbeats 4000000 in
set_option maxRecDepth 100000 in
theorem NX10_ofReal (l : Launch) (D : va_G) (cy : Nat → ClassId) (ad : Nat → Nat) (A : Nat → Prop) (sz0 : Nat) (sa : Nat → Nat)  (κ : KS) (sz sl : Nat) (hAF : ∀ q, A q → Fr sz0 q) (hAn : ∀ q : Nat, sz ≤ q → A q) (k0 : UInt64) (hPV : PV sa κ.2.2.2.2) (hpre : FN k0) : Met l yX10_ofReal (Cond.code yX10_ofReal cX10_ofReal 2 (some (.object "PhraseDesk$Value")) :: GWc) ({ frames := 2, cells := 1, slots := 5, locals := 46 }) (PcC D cy ad A sz0 sa [.double k0] κ sz sl) (va_Qq (fun (r : Option Nat) (u : PL) => ((EX κ.2.2.2.2 u) ∧ (PV sa u) ∧ (KPx True κ.2.2.2.2 u) ∧ (NN u 1 r)) ∧ (∀ q7 q8 : Nat → Option Nat, VALq u sa q7 q8 (r.getD 0) (qReal k0))) (fun (u : PL) (t : State) => Bx D cy ad A sz sl (tP κ u) (1) (5) t) A) (1) (5) A := by
  refine CM_of (loc0 := [(0, .double k0)]) (own := RX10) (nm := "ofReal") (by decide) rfl rfl rfl (Nat.le_of_ble_eq_true rfl) hAF hAn ?_
  intro p e s m below meth c ls hsz hsl C hP hS hl
  refine cn_X10 C hP hS cw_83 cw_84 cw_40 ⟨(Nat.le_of_ble_eq_true rfl), (Nat.le_of_ble_eq_true rfl)⟩ dX10_ofReal_0 (fun q1 H h0q1 hP hS => ?_)
  have exz2 : EX κ.2.2.2.2 (newP κ.2.2.2.2 q1 21) := (EX.newP h0q1)
  have kpz2 : KPx True κ.2.2.2.2 (newP κ.2.2.2.2 q1 21) := KPx.rf.newP9 hPV h0q1
  have pvz2 : PV sa (newP κ.2.2.2.2 q1 21) := (hPV.raw h0q1 (by decide))
  refine lv_dup C.x C.b dX10_ofReal_3 rfl ?_
  refine lv_iconst (v := 3) C.x C.b dX10_ofReal_4 (by decide +kernel) ?_
  refine lv_dload_n C.x C.b dX10_ofReal_5 rfl (lv_at hl 0 rfl) ?_
  refine lv_d2i C.x C.b dX10_ofReal_6 ?_
  refine lv_topi (fun x3 ex3 => ?_)
  refine lv_dload_n C.x C.b dX10_ofReal_7 rfl (lv_at hl 0 rfl) ?_
  refine va_ldcS C.x C.b C.o C.en.2.2.2.2.1 dX10_ofReal_8 ?_
  refine lv_null C.x C.b dX10_ofReal_10 ?_
  refine c_callIv (C2 := "") (n := 5) (As := [.int 3, .int x3, .double k0, .ref (sa 0), .null]) (rest := [.ref q1]) C hP hS hl.1 (NX10_init l D cy ad A sz0 sa (tP κ (newP κ.2.2.2.2 q1 21)) H.size (SLT H) C.f (fun q h => C.a q (Nat.le_trans hS.1 h)) q1 (3 : Int32) x3 k0 (sa 0) none (by show oT (newP κ.2.2.2.2 q1 21) q1 = 21; rw [newP_T, if_pos rfl]) (SOK.any (P := (newP κ.2.2.2.2 q1 21)) (sa := sa) (c := (sa 0)) (by unfold KC; simp)) nt_n pvz2 (vX10_ofReal_1 k0 x3 hpre ex3)) ⟨cw_85, cw_87, by decide +kernel⟩ ⟨cw_86, cw_40⟩ rfl rfl rfl (lv_room (Nat.le_of_ble_eq_true rfl)) ⟨Nat.le_of_ble_eq_true rfl, Nat.le_of_ble_eq_true rfl⟩ ⟨(Nat.le_of_ble_eq_true rfl), (Nat.le_of_ble_eq_true rfl)⟩ dX10_ofReal_11 (fun u H locs hr4 hP hS => ?_)
  obtain ⟨P5, rfl⟩ : ∃ z, z = u := ⟨_, rfl⟩
  have hP : CH D cy ad A (tP (tP κ (newP κ.2.2.2.2 q1 21)) P5) H := hP
  obtain ⟨hr4, hr4y⟩ := hr4
  have hr4y : oI P5 0 q1 = (3 : Int32) ∧ oI P5 1 q1 = x3 ∧ oD P5 q1 = k0 ∧ oR P5 0 q1 = some (sa 0) ∧ oR P5 1 q1 = none := hr4y
  have hr4 : (EXP (fun a => ¬ a = q1) (newP κ.2.2.2.2 q1 21) P5) ∧ (PV sa P5) ∧ (oT P5 q1 = 1) ∧ (KPx True (newP κ.2.2.2.2 q1 21) P5) := hr4
  obtain ⟨hr4_0, hr4_1, hr4_2, hr4_3⟩ := hr4
  have exz6 : EX κ.2.2.2.2 P5 := EX.cons exz2 h0q1 hr4_0
  have kpz7 : KPx True κ.2.2.2.2 P5 := kpz2.trans hr4_3
  obtain ⟨hr4y_0, hr4y_1, hr4y_2, hr4y_3, hr4y_4⟩ := hr4y
  have hP : CH D cy ad A (tP κ P5) H := CH.cong hP rfl rfl rfl rfl rfl rfl rfl rfl rfl rfl rfl rfl rfl rfl rfl rfl rfl rfl rfl rfl rfl rfl rfl rfl rfl rfl rfl
  exact c_retq (v := (some q1)) (Or.inl ⟨_, rfl⟩) C hsz hsl P5 ⟨⟨exz6, hr4_1, kpz7, ⟨q1, rfl, hr4_2⟩⟩, (vX10_ofReal_2 sa κ k0 q1 x3 P5 hPV hpre exz2 h0q1 ex3 exz6 hr4_2 hr4_3 hr4y_0 hr4y_1 hr4y_2 hr4y_3 hr4y_4)⟩ hP hS ⟨(Nat.le_of_ble_eq_true rfl), (Nat.le_of_ble_eq_true rfl)⟩ ⟨(Nat.le_of_ble_eq_true rfl), (Nat.le_of_ble_eq_true rfl)⟩ dX10_ofReal_14

-- retz @21
theorem vX10_isNumber_1   : 0 ≤ (1 : Int32).toInt ∧ (1 : Int32).toInt ≤ 1 := by
  have q1 : (1 : Int32).toInt = 1 := by decide +kernel
  refine ⟨?_, ?_⟩ <;> first | assumption | omega | (subst_vars; omega) | trivial
-- post2 @21
theorem vX10_isNumber_2 (sa : Nat → Nat) (κ : KS) (k0 : Nat) (x1 : Int32) (ht0 : oT κ.2.2.2.2 k0 = 1) (hPV : PV sa κ.2.2.2.2) (ex1 : oI κ.2.2.2.2 0 k0 = x1) (c2 : x1.toInt = 2) : ∀ (q7 q8 : Nat → Option Nat) (v : QV), VALq κ.2.2.2.2 sa q7 q8 k0 v → ((1 : Int32).toInt = 0 → ¬ (v.1 = 2 ∨ v.1 = 3)) ∧ (¬ (1 : Int32).toInt = 0 → v.1 = 2 ∨ v.1 = 3) := by
  have q1 : (1 : Int32).toInt = 1 := by decide +kernel
  intro q7 q8 v h
  have k := h.k9
  rw [ex1] at k
  exact ⟨fun z => by omega, fun z => by omega⟩
-- retz @21
theorem vX10_isNumber_3   : 0 ≤ (0 : Int32).toInt ∧ (0 : Int32).toInt ≤ 1 := by
  have q0 : (0 : Int32).toInt = 0 := by decide +kernel
  refine ⟨?_, ?_⟩ <;> first | assumption | omega | (subst_vars; omega) | trivial
-- post2 @21
theorem vX10_isNumber_4 (sa : Nat → Nat) (κ : KS) (k0 : Nat) (x1 : Int32) (ht0 : oT κ.2.2.2.2 k0 = 1) (hPV : PV sa κ.2.2.2.2) (ex1 : oI κ.2.2.2.2 0 k0 = x1) (c2 : ¬ x1.toInt = 2) (c3 : ¬ x1.toInt = 3) : ∀ (q7 q8 : Nat → Option Nat) (v : QV), VALq κ.2.2.2.2 sa q7 q8 k0 v → ((0 : Int32).toInt = 0 → ¬ (v.1 = 2 ∨ v.1 = 3)) ∧ (¬ (0 : Int32).toInt = 0 → v.1 = 2 ∨ v.1 = 3) := by
  have q0 : (0 : Int32).toInt = 0 := by decide +kernel
  intro q7 q8 v h
  have k := h.k9
  rw [ex1] at k
  exact ⟨fun z => by omega, fun z => by omega⟩
-- post2 @21
theorem vX10_isNumber_5 (sa : Nat → Nat) (κ : KS) (k0 : Nat) (x1 : Int32) (ht0 : oT κ.2.2.2.2 k0 = 1) (hPV : PV sa κ.2.2.2.2) (ex1 : oI κ.2.2.2.2 0 k0 = x1) (c2 : ¬ x1.toInt = 2) (c3 : x1.toInt = 3) : ∀ (q7 q8 : Nat → Option Nat) (v : QV), VALq κ.2.2.2.2 sa q7 q8 k0 v → ((1 : Int32).toInt = 0 → ¬ (v.1 = 2 ∨ v.1 = 3)) ∧ (¬ (1 : Int32).toInt = 0 → v.1 = 2 ∨ v.1 = 3) := by
  have q1 : (1 : Int32).toInt = 1 := by decide +kernel
  intro q7 q8 v h
  have k := h.k9
  rw [ex1] at k
  exact ⟨fun z => by omega, fun z => by omega⟩
set_option maxHeartbeats 4000000 in
set_option maxRecDepth 100000 in
theorem NX10_isNumber (l : Launch) (D : va_G) (cy : Nat → ClassId) (ad : Nat → Nat) (A : Nat → Prop) (sz0 : Nat) (sa : Nat → Nat)  (κ : KS) (sz sl : Nat) (hAF : ∀ q, A q → Fr sz0 q) (hAn : ∀ q : Nat, sz ≤ q → A q) (k0 : Nat) (ht0 : oT κ.2.2.2.2 k0 = 1) (hPV : PV sa κ.2.2.2.2) : Met l yX10_isNumber (Cond.code yX10_isNumber cX10_isNumber 1 (some .boolean) :: GWc) ({ frames := 0, cells := 0, slots := 0, locals := 0 }) (PcC D cy ad A sz0 sa [.ref k0] κ sz sl) (va_Qi (fun (r : Int32) (u : Unit) => ((0 ≤ r.toInt ∧ r.toInt ≤ 1)) ∧ (∀ (q7 q8 : Nat → Option Nat) (v : QV), VALq κ.2.2.2.2 sa q7 q8 k0 v → (r.toInt = 0 → ¬ (v.1 = 2 ∨ v.1 = 3)) ∧ (¬ r.toInt = 0 → v.1 = 2 ∨ v.1 = 3))) (fun (u : Unit) (t : State) => Bx D cy ad A sz sl κ (0) (0) t) A) (0) (0) A := by
  refine CM_of (loc0 := [(0, .ref k0)]) (own := RX10) (nm := "isNumber") (by decide) rfl rfl rfl (Nat.le_of_ble_eq_true rfl) hAF hAn ?_
  intro p e s m below meth c ls hsz hsl C hP hS hl
  refine lv_aload_n C.x C.b dX10_isNumber_0 rfl (lv_at hl 0 rfl) ?_
  obtain ⟨x1, ex1⟩ : ∃ z, oI κ.2.2.2.2 0 k0 = z := ⟨_, rfl⟩
  refine pg_X10_0 (v := x1) C hP (t20 (a := k0) (t := 1) ht0) ex1 cw_42 dX10_isNumber_1 ?_
  refine lv_iconst (v := 2) C.x C.b dX10_isNumber_4 (by decide +kernel) ?_
  refine lv_icmp_eq (tgt := 16) C.x C.b dX10_isNumber_5 (by decide) (fun c2 => ?_) (fun c2 => ?_)
  · have c2 : x1.toInt = 2 := by have h := z_eq c2; rw [show (2 : Int32).toInt = 2 from by decide +kernel] at h; exact h
    refine lv_iconst (v := 1) C.x C.b dX10_isNumber_16 (by decide +kernel) ?_
    refine lv_goto (tgt := 21) C.x C.b dX10_isNumber_17 (by decide) ?_
    exact c_retz (ty := .boolean) (hv := rfl) C hsz hsl () ⟨(vX10_isNumber_1  ), (vX10_isNumber_2 sa κ k0 x1 ht0 hPV ex1 c2)⟩ hP hS ⟨(Nat.le_of_ble_eq_true rfl), (Nat.le_of_ble_eq_true rfl)⟩ ⟨(Nat.le_of_ble_eq_true rfl), (Nat.le_of_ble_eq_true rfl)⟩ dX10_isNumber_21
  · have c2 : ¬ x1.toInt = 2 := by have h := z_ne c2; rw [show (2 : Int32).toInt = 2 from by decide +kernel] at h; exact h
    refine lv_aload_n C.x C.b dX10_isNumber_8 rfl (lv_at hl 0 rfl) ?_
    refine pg_X10_0 (v := x1) C hP (t20 (a := k0) (t := 1) ht0) ex1 cw_42 dX10_isNumber_9 ?_
    refine lv_iconst (v := 3) C.x C.b dX10_isNumber_12 (by decide +kernel) ?_
    refine lv_icmp_ne (tgt := 20) C.x C.b dX10_isNumber_13 (by decide) (fun c3 => ?_) (fun c3 => ?_)
    · have c3 : ¬ x1.toInt = 3 := by have h := z_ne c3; rw [show (3 : Int32).toInt = 3 from by decide +kernel] at h; exact h
      refine lv_iconst (v := 0) C.x C.b dX10_isNumber_20 (by decide +kernel) ?_
      exact c_retz (ty := .boolean) (hv := rfl) C hsz hsl () ⟨(vX10_isNumber_3  ), (vX10_isNumber_4 sa κ k0 x1 ht0 hPV ex1 c2 c3)⟩ hP hS ⟨(Nat.le_of_ble_eq_true rfl), (Nat.le_of_ble_eq_true rfl)⟩ ⟨(Nat.le_of_ble_eq_true rfl), (Nat.le_of_ble_eq_true rfl)⟩ dX10_isNumber_21
    · have c3 : x1.toInt = 3 := by have h := z_eq c3; rw [show (3 : Int32).toInt = 3 from by decide +kernel] at h; exact h
      refine lv_iconst (v := 1) C.x C.b dX10_isNumber_16 (by decide +kernel) ?_
      refine lv_goto (tgt := 21) C.x C.b dX10_isNumber_17 (by decide) ?_
      exact c_retz (ty := .boolean) (hv := rfl) C hsz hsl () ⟨(vX10_isNumber_1  ), (vX10_isNumber_5 sa κ k0 x1 ht0 hPV ex1 c2 c3)⟩ hP hS ⟨(Nat.le_of_ble_eq_true rfl), (Nat.le_of_ble_eq_true rfl)⟩ ⟨(Nat.le_of_ble_eq_true rfl), (Nat.le_of_ble_eq_true rfl)⟩ dX10_isNumber_21

-- retz @21
theorem vX10_isTrue_1   : 0 ≤ (0 : Int32).toInt ∧ (0 : Int32).toInt ≤ 1 := by
  have q0 : (0 : Int32).toInt = 0 := by decide +kernel
  refine ⟨?_, ?_⟩ <;> first | assumption | omega | (subst_vars; omega) | trivial
-- post2 @21
theorem vX10_isTrue_2 (sa : Nat → Nat) (κ : KS) (k0 : Nat) (x1 : Int32) (ht0 : oT κ.2.2.2.2 k0 = 1) (hPV : PV sa κ.2.2.2.2) (ex1 : oI κ.2.2.2.2 0 k0 = x1) (c2 : ¬ x1.toInt = 1) : ∀ (q7 q8 : Nat → Option Nat) (v : QV), VALq κ.2.2.2.2 sa q7 q8 k0 v → ((0 : Int32).toInt = 0 → ¬ (v.1 = 1 ∧ v.2.1 = 1)) ∧ (¬ (0 : Int32).toInt = 0 → v.1 = 1 ∧ v.2.1 = 1) := by
  have q0 : (0 : Int32).toInt = 0 := by decide +kernel
  intro q7 q8 v h
  have k := h.k9
  rw [ex1] at k
  exact ⟨fun z => by omega, fun z => by omega⟩
-- post2 @21
theorem vX10_isTrue_3 (sa : Nat → Nat) (κ : KS) (k0 : Nat) (x1 : Int32) (x3 : Int32) (ht0 : oT κ.2.2.2.2 k0 = 1) (hPV : PV sa κ.2.2.2.2) (ex1 : oI κ.2.2.2.2 0 k0 = x1) (c2 : x1.toInt = 1) (ex3 : oI κ.2.2.2.2 1 k0 = x3) (c4 : ¬ x3.toInt = 1) : ∀ (q7 q8 : Nat → Option Nat) (v : QV), VALq κ.2.2.2.2 sa q7 q8 k0 v → ((0 : Int32).toInt = 0 → ¬ (v.1 = 1 ∧ v.2.1 = 1)) ∧ (¬ (0 : Int32).toInt = 0 → v.1 = 1 ∧ v.2.1 = 1) := by
  have q0 : (0 : Int32).toInt = 0 := by decide +kernel
  intro q7 q8 v h
  have k := h.k9
  rw [ex1] at k
  have m : v.1 = 1 → _ := fun e => h.n9 (by omega) (by omega)
  rw [ex3] at m
  exact ⟨fun z => by omega, fun z => by omega⟩
-- retz @21
theorem vX10_isTrue_4   : 0 ≤ (1 : Int32).toInt ∧ (1 : Int32).toInt ≤ 1 := by
  have q1 : (1 : Int32).toInt = 1 := by decide +kernel
  refine ⟨?_, ?_⟩ <;> first | assumption | omega | (subst_vars; omega) | trivial
-- post2 @21
theorem vX10_isTrue_5 (sa : Nat → Nat) (κ : KS) (k0 : Nat) (x1 : Int32) (x3 : Int32) (ht0 : oT κ.2.2.2.2 k0 = 1) (hPV : PV sa κ.2.2.2.2) (ex1 : oI κ.2.2.2.2 0 k0 = x1) (c2 : x1.toInt = 1) (ex3 : oI κ.2.2.2.2 1 k0 = x3) (c4 : x3.toInt = 1) : ∀ (q7 q8 : Nat → Option Nat) (v : QV), VALq κ.2.2.2.2 sa q7 q8 k0 v → ((1 : Int32).toInt = 0 → ¬ (v.1 = 1 ∧ v.2.1 = 1)) ∧ (¬ (1 : Int32).toInt = 0 → v.1 = 1 ∧ v.2.1 = 1) := by
  have q1 : (1 : Int32).toInt = 1 := by decide +kernel
  intro q7 q8 v h
  have k := h.k9
  rw [ex1] at k
  have m : v.1 = 1 → _ := fun e => h.n9 (by omega) (by omega)
  rw [ex3] at m
  exact ⟨fun z => by omega, fun z => by omega⟩
set_option maxHeartbeats 4000000 in
set_option maxRecDepth 100000 in
theorem NX10_isTrue (l : Launch) (D : va_G) (cy : Nat → ClassId) (ad : Nat → Nat) (A : Nat → Prop) (sz0 : Nat) (sa : Nat → Nat)  (κ : KS) (sz sl : Nat) (hAF : ∀ q, A q → Fr sz0 q) (hAn : ∀ q : Nat, sz ≤ q → A q) (k0 : Nat) (ht0 : oT κ.2.2.2.2 k0 = 1) (hPV : PV sa κ.2.2.2.2) : Met l yX10_isTrue (Cond.code yX10_isTrue cX10_isTrue 1 (some .boolean) :: GWc) ({ frames := 0, cells := 0, slots := 0, locals := 0 }) (PcC D cy ad A sz0 sa [.ref k0] κ sz sl) (va_Qi (fun (r : Int32) (u : Unit) => ((0 ≤ r.toInt ∧ r.toInt ≤ 1)) ∧ (∀ (q7 q8 : Nat → Option Nat) (v : QV), VALq κ.2.2.2.2 sa q7 q8 k0 v → (r.toInt = 0 → ¬ (v.1 = 1 ∧ v.2.1 = 1)) ∧ (¬ r.toInt = 0 → v.1 = 1 ∧ v.2.1 = 1))) (fun (u : Unit) (t : State) => Bx D cy ad A sz sl κ (0) (0) t) A) (0) (0) A := by
  refine CM_of (loc0 := [(0, .ref k0)]) (own := RX10) (nm := "isTrue") (by decide) rfl rfl rfl (Nat.le_of_ble_eq_true rfl) hAF hAn ?_
  intro p e s m below meth c ls hsz hsl C hP hS hl
  refine lv_aload_n C.x C.b dX10_isTrue_0 rfl (lv_at hl 0 rfl) ?_
  obtain ⟨x1, ex1⟩ : ∃ z, oI κ.2.2.2.2 0 k0 = z := ⟨_, rfl⟩
  refine pg_X10_0 (v := x1) C hP (t20 (a := k0) (t := 1) ht0) ex1 cw_42 dX10_isTrue_1 ?_
  refine lv_iconst (v := 1) C.x C.b dX10_isTrue_4 (by decide +kernel) ?_
  refine lv_icmp_ne (tgt := 20) C.x C.b dX10_isTrue_5 (by decide) (fun c2 => ?_) (fun c2 => ?_)
  · have c2 : ¬ x1.toInt = 1 := by have h := z_ne c2; rw [show (1 : Int32).toInt = 1 from by decide +kernel] at h; exact h
    refine lv_iconst (v := 0) C.x C.b dX10_isTrue_20 (by decide +kernel) ?_
    exact c_retz (ty := .boolean) (hv := rfl) C hsz hsl () ⟨(vX10_isTrue_1  ), (vX10_isTrue_2 sa κ k0 x1 ht0 hPV ex1 c2)⟩ hP hS ⟨(Nat.le_of_ble_eq_true rfl), (Nat.le_of_ble_eq_true rfl)⟩ ⟨(Nat.le_of_ble_eq_true rfl), (Nat.le_of_ble_eq_true rfl)⟩ dX10_isTrue_21
  · have c2 : x1.toInt = 1 := by have h := z_eq c2; rw [show (1 : Int32).toInt = 1 from by decide +kernel] at h; exact h
    refine lv_aload_n C.x C.b dX10_isTrue_8 rfl (lv_at hl 0 rfl) ?_
    obtain ⟨x3, ex3⟩ : ∃ z, oI κ.2.2.2.2 1 k0 = z := ⟨_, rfl⟩
    refine pg_X10_1 (v := x3) C hP (t20 (a := k0) (t := 1) ht0) ex3 cw_89 dX10_isTrue_9 ?_
    refine lv_iconst (v := 1) C.x C.b dX10_isTrue_12 (by decide +kernel) ?_
    refine lv_icmp_ne (tgt := 20) C.x C.b dX10_isTrue_13 (by decide) (fun c4 => ?_) (fun c4 => ?_)
    · have c4 : ¬ x3.toInt = 1 := by have h := z_ne c4; rw [show (1 : Int32).toInt = 1 from by decide +kernel] at h; exact h
      refine lv_iconst (v := 0) C.x C.b dX10_isTrue_20 (by decide +kernel) ?_
      exact c_retz (ty := .boolean) (hv := rfl) C hsz hsl () ⟨(vX10_isTrue_1  ), (vX10_isTrue_3 sa κ k0 x1 x3 ht0 hPV ex1 c2 ex3 c4)⟩ hP hS ⟨(Nat.le_of_ble_eq_true rfl), (Nat.le_of_ble_eq_true rfl)⟩ ⟨(Nat.le_of_ble_eq_true rfl), (Nat.le_of_ble_eq_true rfl)⟩ dX10_isTrue_21
    · have c4 : x3.toInt = 1 := by have h := z_eq c4; rw [show (1 : Int32).toInt = 1 from by decide +kernel] at h; exact h
      refine lv_iconst (v := 1) C.x C.b dX10_isTrue_16 (by decide +kernel) ?_
      refine lv_goto (tgt := 21) C.x C.b dX10_isTrue_17 (by decide) ?_
      exact c_retz (ty := .boolean) (hv := rfl) C hsz hsl () ⟨(vX10_isTrue_4  ), (vX10_isTrue_5 sa κ k0 x1 x3 ht0 hPV ex1 c2 ex3 c4)⟩ hP hS ⟨(Nat.le_of_ble_eq_true rfl), (Nat.le_of_ble_eq_true rfl)⟩ ⟨(Nat.le_of_ble_eq_true rfl), (Nat.le_of_ble_eq_true rfl)⟩ dX10_isTrue_21

-- init2@21 @21
theorem vX10_stepsUpTo_1 (sa : Nat → Nat) (κ : KS) (k0 : Nat) (k1 : Int32) (ht0 : oT κ.2.2.2.2 k0 = 1) (hPV : PV sa κ.2.2.2.2) (ex1 : oR κ.2.2.2.2 1 k0 = none) : ∀ (q7 q8 : Nat → Option Nat) (H : QT) (n : Int) (v : QV), FAMq κ.2.2.2.2 q7 H n → VALq κ.2.2.2.2 sa q7 q8 k0 v → (v.1 < 8 ∧ (none : Option Nat) = none) ∨ (8 ≤ v.1 ∧ ∃ x : Int, FPq q7 n x none ∧ QST H (v.1 - 8) (k1.toInt - 8) x (0 : Int32).toInt ∧ (0 : Int32).toInt + x ≤ 4) := by
  have q0 : (0 : Int32).toInt = 0 := by decide +kernel
  intro q7 q8 H n v F h
  exact Or.inl ⟨h.no9 ex1, rfl⟩
-- post2 @47
theorem vX10_stepsUpTo_2 (sa : Nat → Nat) (κ : KS) (k0 : Nat) (k1 : Int32) (y3 : Int32) (ht0 : oT κ.2.2.2.2 k0 = 1) (hPV : PV sa κ.2.2.2.2) (ex1 : oR κ.2.2.2.2 1 k0 = none) (hi21y : ∀ (q7 q8 : Nat → Option Nat) (H : QT) (n : Int) (v : QV), FAMq κ.2.2.2.2 q7 H n → VALq κ.2.2.2.2 sa q7 q8 k0 v → (v.1 < 8 ∧ (none : Option Nat) = none) ∨ (8 ≤ v.1 ∧ ∃ x : Int, FPq q7 n x none ∧ QST H (v.1 - 8) (k1.toInt - 8) x y3.toInt ∧ y3.toInt + x ≤ 4)) : ∀ (q7 q8 : Nat → Option Nat) (H : QT) (n : Int) (v : QV), FAMq κ.2.2.2.2 q7 H n → VALq κ.2.2.2.2 sa q7 q8 k0 v → (8 ≤ v.1 → (-1 : Int32).toInt = qSteps (qAnc H (v.1 - 8)) (k1.toInt - 8)) ∧ (v.1 < 8 → (-1 : Int32).toInt = -1) := by
  have qm1 : (-1 : Int32).toInt = (-1) := by decide +kernel
  intro q7 q8 H n v F h
  rcases hi21y q7 q8 H n v F h with ⟨z1, z2⟩ | ⟨z1, x, z2, z3, z4⟩
  · exact ⟨fun q => by omega, fun _ => by decide⟩
  · exact ⟨fun _ => (z3.no z2.no9).symm, fun q => by omega⟩
-- inv2@21 @21
theorem vX10_stepsUpTo_3 (sa : Nat → Nat) (κ : KS) (k0 : Nat) (k1 : Int32) (y3 : Int32) (b5 : Nat) (x6 : Int32) (x8 : Int32) (x9 : Option Nat) (ht0 : oT κ.2.2.2.2 k0 = 1) (hPV : PV sa κ.2.2.2.2) (ex1 : oR κ.2.2.2.2 1 k0 = none) (hi21y : ∀ (q7 q8 : Nat → Option Nat) (H : QT) (n : Int) (v : QV), FAMq κ.2.2.2.2 q7 H n → VALq κ.2.2.2.2 sa q7 q8 k0 v → (v.1 < 8 ∧ ((some b5) : Option Nat) = none) ∨ (8 ≤ v.1 ∧ ∃ x : Int, FPq q7 n x (some b5) ∧ QST H (v.1 - 8) (k1.toInt - 8) x y3.toInt ∧ y3.toInt + x ≤ 4)) (ex6 : oI κ.2.2.2.2 7 b5 = x6) (c7 : ¬ x6.toInt = k1.toInt) (ex8 : x8 = y3 + (1 : Int32)) (ex9 : oR κ.2.2.2.2 6 b5 = x9) (mx9 : cto κ.2.2.2.2 x9 < oC κ.2.2.2.2 b5) : ∀ (q7 q8 : Nat → Option Nat) (H : QT) (n : Int) (v : QV), FAMq κ.2.2.2.2 q7 H n → VALq κ.2.2.2.2 sa q7 q8 k0 v → (v.1 < 8 ∧ (x9 : Option Nat) = none) ∨ (8 ≤ v.1 ∧ ∃ x : Int, FPq q7 n x x9 ∧ QST H (v.1 - 8) (k1.toInt - 8) x x8.toInt ∧ x8.toInt + x ≤ 4) := by
  have q1 : (1 : Int32).toInt = 1 := by decide +kernel
  intro q7 q8 H n v F h
  rcases hi21y q7 q8 H n v F h with ⟨z1, z2⟩ | ⟨z1, x, z2, z3, z4⟩
  · cases z2
  · obtain ⟨g1, g2, g3, g4, g5, g6⟩ := z2.up9 F rfl ex9
    rw [ex6] at g4
    have w1 : (1 : Int32).toInt = 1 := by decide
    have w2 := z3.1
    have w3 := (F.2.1 x.toNat (by omega)).2
    have ea : x8.toInt = y3.toInt + 1 := by rw [ex8, z_add (by omega) (by omega), w1]
    exact Or.inr ⟨z1, _, g1, z3.step F.2.1 F.1 g2 g3 (by omega) rfl ea, by omega⟩
-- meas@21 @21
theorem vX10_stepsUpTo_4 (κ : KS) (k1 : Int32) (b5 : Nat) (x6 : Int32) (x9 : Option Nat) (ex6 : oI κ.2.2.2.2 7 b5 = x6) (c7 : ¬ x6.toInt = k1.toInt) (mx9 : cto κ.2.2.2.2 x9 < oC κ.2.2.2.2 b5) : (cto κ.2.2.2.2 x9) < (cto κ.2.2.2.2 (some b5)) := by
  show cto _ _ < oC _ _
  assumption
-- post2 @34
theorem vX10_stepsUpTo_5 (sa : Nat → Nat) (κ : KS) (k0 : Nat) (k1 : Int32) (y3 : Int32) (b5 : Nat) (x6 : Int32) (ht0 : oT κ.2.2.2.2 k0 = 1) (hPV : PV sa κ.2.2.2.2) (ex1 : oR κ.2.2.2.2 1 k0 = none) (hi21y : ∀ (q7 q8 : Nat → Option Nat) (H : QT) (n : Int) (v : QV), FAMq κ.2.2.2.2 q7 H n → VALq κ.2.2.2.2 sa q7 q8 k0 v → (v.1 < 8 ∧ ((some b5) : Option Nat) = none) ∨ (8 ≤ v.1 ∧ ∃ x : Int, FPq q7 n x (some b5) ∧ QST H (v.1 - 8) (k1.toInt - 8) x y3.toInt ∧ y3.toInt + x ≤ 4)) (ex6 : oI κ.2.2.2.2 7 b5 = x6) (c7 : x6.toInt = k1.toInt) : ∀ (q7 q8 : Nat → Option Nat) (H : QT) (n : Int) (v : QV), FAMq κ.2.2.2.2 q7 H n → VALq κ.2.2.2.2 sa q7 q8 k0 v → (8 ≤ v.1 → y3.toInt = qSteps (qAnc H (v.1 - 8)) (k1.toInt - 8)) ∧ (v.1 < 8 → y3.toInt = -1) := by
  intro q7 q8 H n v F h
  rcases hi21y q7 q8 H n v F h with ⟨z1, z2⟩ | ⟨z1, x, z2, z3, z4⟩
  · cases z2
  · obtain ⟨g1, g2, g3, g4, g5, g6⟩ := z2.up9 F rfl rfl
    rw [ex6] at g4
    exact ⟨fun _ => (z3.yes F.2.1 F.1 g2 g3 (by omega)).symm, fun q => by omega⟩
-- init2@21 @21
theorem vX10_stepsUpTo_6 (sa : Nat → Nat) (κ : KS) (k0 : Nat) (k1 : Int32) (b2 : Nat) (x10 : Nat) (ht0 : oT κ.2.2.2.2 k0 = 1) (hPV : PV sa κ.2.2.2.2) (ex1 : oR κ.2.2.2.2 1 k0 = (some b2)) (ex10 : oR κ.2.2.2.2 9 b2 = some x10) (hx10 : oT κ.2.2.2.2 x10 = 3) : ∀ (q7 q8 : Nat → Option Nat) (H : QT) (n : Int) (v : QV), FAMq κ.2.2.2.2 q7 H n → VALq κ.2.2.2.2 sa q7 q8 k0 v → (v.1 < 8 ∧ ((some x10) : Option Nat) = none) ∨ (8 ≤ v.1 ∧ ∃ x : Int, FPq q7 n x (some x10) ∧ QST H (v.1 - 8) (k1.toInt - 8) x (0 : Int32).toInt ∧ (0 : Int32).toInt + x ≤ 4) := by
  have q0 : (0 : Int32).toInt = 0 := by decide +kernel
  intro q7 q8 H n v F h
  obtain ⟨z1, z2⟩ := h.f9 F ex1 ex10
  have z3 := h.l9 F z1
  have z4 := F.1
  exact Or.inr ⟨z1, _, z2, QST.start, by show (0 : Int) + _ ≤ 4; omega⟩
-- post2 @47
theorem vX10_stepsUpTo_7 (sa : Nat → Nat) (κ : KS) (k0 : Nat) (k1 : Int32) (b2 : Nat) (x10 : Nat) (y11 : Int32) (ht0 : oT κ.2.2.2.2 k0 = 1) (hPV : PV sa κ.2.2.2.2) (ex1 : oR κ.2.2.2.2 1 k0 = (some b2)) (ex10 : oR κ.2.2.2.2 9 b2 = some x10) (hx10 : oT κ.2.2.2.2 x10 = 3) (hi21y : ∀ (q7 q8 : Nat → Option Nat) (H : QT) (n : Int) (v : QV), FAMq κ.2.2.2.2 q7 H n → VALq κ.2.2.2.2 sa q7 q8 k0 v → (v.1 < 8 ∧ (none : Option Nat) = none) ∨ (8 ≤ v.1 ∧ ∃ x : Int, FPq q7 n x none ∧ QST H (v.1 - 8) (k1.toInt - 8) x y11.toInt ∧ y11.toInt + x ≤ 4)) : ∀ (q7 q8 : Nat → Option Nat) (H : QT) (n : Int) (v : QV), FAMq κ.2.2.2.2 q7 H n → VALq κ.2.2.2.2 sa q7 q8 k0 v → (8 ≤ v.1 → (-1 : Int32).toInt = qSteps (qAnc H (v.1 - 8)) (k1.toInt - 8)) ∧ (v.1 < 8 → (-1 : Int32).toInt = -1) := by
  have qm1 : (-1 : Int32).toInt = (-1) := by decide +kernel
  intro q7 q8 H n v F h
  rcases hi21y q7 q8 H n v F h with ⟨z1, z2⟩ | ⟨z1, x, z2, z3, z4⟩
  · exact ⟨fun q => by omega, fun _ => by decide⟩
  · exact ⟨fun _ => (z3.no z2.no9).symm, fun q => by omega⟩
-- inv2@21 @21
theorem vX10_stepsUpTo_8 (sa : Nat → Nat) (κ : KS) (k0 : Nat) (k1 : Int32) (b2 : Nat) (x10 : Nat) (y11 : Int32) (b13 : Nat) (x14 : Int32) (x16 : Int32) (x17 : Option Nat) (ht0 : oT κ.2.2.2.2 k0 = 1) (hPV : PV sa κ.2.2.2.2) (ex1 : oR κ.2.2.2.2 1 k0 = (some b2)) (ex10 : oR κ.2.2.2.2 9 b2 = some x10) (hx10 : oT κ.2.2.2.2 x10 = 3) (hi21y : ∀ (q7 q8 : Nat → Option Nat) (H : QT) (n : Int) (v : QV), FAMq κ.2.2.2.2 q7 H n → VALq κ.2.2.2.2 sa q7 q8 k0 v → (v.1 < 8 ∧ ((some b13) : Option Nat) = none) ∨ (8 ≤ v.1 ∧ ∃ x : Int, FPq q7 n x (some b13) ∧ QST H (v.1 - 8) (k1.toInt - 8) x y11.toInt ∧ y11.toInt + x ≤ 4)) (ex14 : oI κ.2.2.2.2 7 b13 = x14) (c15 : ¬ x14.toInt = k1.toInt) (ex16 : x16 = y11 + (1 : Int32)) (ex17 : oR κ.2.2.2.2 6 b13 = x17) (mx17 : cto κ.2.2.2.2 x17 < oC κ.2.2.2.2 b13) : ∀ (q7 q8 : Nat → Option Nat) (H : QT) (n : Int) (v : QV), FAMq κ.2.2.2.2 q7 H n → VALq κ.2.2.2.2 sa q7 q8 k0 v → (v.1 < 8 ∧ (x17 : Option Nat) = none) ∨ (8 ≤ v.1 ∧ ∃ x : Int, FPq q7 n x x17 ∧ QST H (v.1 - 8) (k1.toInt - 8) x x16.toInt ∧ x16.toInt + x ≤ 4) := by
  have q1 : (1 : Int32).toInt = 1 := by decide +kernel
  intro q7 q8 H n v F h
  rcases hi21y q7 q8 H n v F h with ⟨z1, z2⟩ | ⟨z1, x, z2, z3, z4⟩
  · cases z2
  · obtain ⟨g1, g2, g3, g4, g5, g6⟩ := z2.up9 F rfl ex17
    rw [ex14] at g4
    have w1 : (1 : Int32).toInt = 1 := by decide
    have w2 := z3.1
    have w3 := (F.2.1 x.toNat (by omega)).2
    have ea : x16.toInt = y11.toInt + 1 := by rw [ex16, z_add (by omega) (by omega), w1]
    exact Or.inr ⟨z1, _, g1, z3.step F.2.1 F.1 g2 g3 (by omega) rfl ea, by omega⟩
-- meas@21 @21
theorem vX10_stepsUpTo_9 (κ : KS) (k1 : Int32) (b13 : Nat) (x14 : Int32) (x17 : Option Nat) (ex14 : oI κ.2.2.2.2 7 b13 = x14) (c15 : ¬ x14.toInt = k1.toInt) (mx17 : cto κ.2.2.2.2 x17 < oC κ.2.2.2.2 b13) : (cto κ.2.2.2.2 x17) < (cto κ.2.2.2.2 (some b13)) := by
  show cto _ _ < oC _ _
  assumption
-- post2 @34
theorem vX10_stepsUpTo_10 (sa : Nat → Nat) (κ : KS) (k0 : Nat) (k1 : Int32) (b2 : Nat) (x10 : Nat) (y11 : Int32) (b13 : Nat) (x14 : Int32) (ht0 : oT κ.2.2.2.2 k0 = 1) (hPV : PV sa κ.2.2.2.2) (ex1 : oR κ.2.2.2.2 1 k0 = (some b2)) (ex10 : oR κ.2.2.2.2 9 b2 = some x10) (hx10 : oT κ.2.2.2.2 x10 = 3) (hi21y : ∀ (q7 q8 : Nat → Option Nat) (H : QT) (n : Int) (v : QV), FAMq κ.2.2.2.2 q7 H n → VALq κ.2.2.2.2 sa q7 q8 k0 v → (v.1 < 8 ∧ ((some b13) : Option Nat) = none) ∨ (8 ≤ v.1 ∧ ∃ x : Int, FPq q7 n x (some b13) ∧ QST H (v.1 - 8) (k1.toInt - 8) x y11.toInt ∧ y11.toInt + x ≤ 4)) (ex14 : oI κ.2.2.2.2 7 b13 = x14) (c15 : x14.toInt = k1.toInt) : ∀ (q7 q8 : Nat → Option Nat) (H : QT) (n : Int) (v : QV), FAMq κ.2.2.2.2 q7 H n → VALq κ.2.2.2.2 sa q7 q8 k0 v → (8 ≤ v.1 → y11.toInt = qSteps (qAnc H (v.1 - 8)) (k1.toInt - 8)) ∧ (v.1 < 8 → y11.toInt = -1) := by
  intro q7 q8 H n v F h
  rcases hi21y q7 q8 H n v F h with ⟨z1, z2⟩ | ⟨z1, x, z2, z3, z4⟩
  · cases z2
  · obtain ⟨g1, g2, g3, g4, g5, g6⟩ := z2.up9 F rfl rfl
    rw [ex14] at g4
    exact ⟨fun _ => (z3.yes F.2.1 F.1 g2 g3 (by omega)).symm, fun q => by omega⟩
set_option maxHeartbeats 4000000 in
set_option maxRecDepth 100000 in
theorem NX10_stepsUpTo (l : Launch) (D : va_G) (cy : Nat → ClassId) (ad : Nat → Nat) (A : Nat → Prop) (sz0 : Nat) (sa : Nat → Nat)  (κ : KS) (sz sl : Nat) (hAF : ∀ q, A q → Fr sz0 q) (hAn : ∀ q : Nat, sz ≤ q → A q) (k0 : Nat) (k1 : Int32) (ht0 : oT κ.2.2.2.2 k0 = 1) (hPV : PV sa κ.2.2.2.2) : Met l yX10_stepsUpTo (Cond.code yX10_stepsUpTo cX10_stepsUpTo 4 (some .int) :: GWc) ({ frames := 0, cells := 0, slots := 0, locals := 0 }) (PcC D cy ad A sz0 sa [.ref k0, .int k1] κ sz sl) (va_Qi (fun (r : Int32) (u : Unit) => (True) ∧ (∀ (q7 q8 : Nat → Option Nat) (H : QT) (n : Int) (v : QV), FAMq κ.2.2.2.2 q7 H n → VALq κ.2.2.2.2 sa q7 q8 k0 v → (8 ≤ v.1 → r.toInt = qSteps (qAnc H (v.1 - 8)) (k1.toInt - 8)) ∧ (v.1 < 8 → r.toInt = -1))) (fun (u : Unit) (t : State) => Bx D cy ad A sz sl κ (0) (0) t) A) (0) (0) A := by
  refine CM_of (loc0 := [(0, .ref k0), (1, .int k1)]) (own := RX10) (nm := "stepsUpTo") (by decide) rfl rfl rfl (Nat.le_of_ble_eq_true rfl) hAF hAn ?_
  intro p e s m below meth c ls hsz hsl C hP hS hl
  refine lv_iconst (v := 0) C.x C.b dX10_stepsUpTo_0 (by decide +kernel) ?_
  refine lv_istore_n (lv' := [(2, .int 0), (0, .ref k0), (1, .int k1)]) C.x C.b dX10_stepsUpTo_1 rfl hl (by decide) rfl (fun ls hl => ?_)
  refine lv_aload_n C.x C.b dX10_stepsUpTo_2 rfl (lv_at hl 1 rfl) ?_
  obtain ⟨x1, ex1⟩ : ∃ z, oR κ.2.2.2.2 1 k0 = z := ⟨_, rfl⟩
  refine pg_X10_4 (v := x1) C hP (t20 (a := k0) (t := 1) ht0) ex1 cw_47 dX10_stepsUpTo_3 ?_
  have tx1 : NT κ.2.2.2.2 6 x1 := by rw [← ex1]; exact (hPV.t1 ht0).2.1
  cases x1 with
  | none =>
    refine lv_ifnonnullN C.x C.b dX10_stepsUpTo_6 ?_
    refine lv_null C.x C.b dX10_stepsUpTo_9 ?_
    refine lv_goto (tgt := 20) C.x C.b dX10_stepsUpTo_10 (by decide) ?_
    refine lv_astore_nN (lv' := [(3, .null), (2, .int 0), (0, .ref k0), (1, .int k1)]) C.x C.b dX10_stepsUpTo_20 rfl hl (by decide) rfl (fun ls hl => ?_)
    have lp21 : ∀ (n : Nat) (y3 : Int32) (y4 : Option Nat) (H : Heap) (locs : List Loc) (ls : Array Slot), (cto κ.2.2.2.2 y4) < n → (NT κ.2.2.2.2 3 y4) → ((True) ∧ (∀ (q7 q8 : Nat → Option Nat) (H : QT) (n : Int) (v : QV), FAMq κ.2.2.2.2 q7 H n → VALq κ.2.2.2.2 sa q7 q8 k0 v → (v.1 < 8 ∧ (y4 : Option Nat) = none) ∨ (8 ≤ v.1 ∧ ∃ x : Int, FPq q7 n x y4 ∧ QST H (v.1 - 8) (k1.toInt - 8) x y3.toInt ∧ y3.toInt + x ≤ 4))) → CH D cy ad A κ H → va_S A s.heap H locs → lv_has ls 4 [(3, va_rf y4), (2, .int y3), (0, .ref k0), (1, .int k1)] → W p l e (headSpec (Cond.code yX10_stepsUpTo cX10_stepsUpTo 4 (some .int) :: GWc) ({ frames := 0, cells := 0, slots := 0, locals := 0 })).room s m #[.ref k0, .int k1] below meth c H locs (0) (0) (MQ below (va_Qi (fun (r : Int32) (u : Unit) => (True) ∧ (∀ (q7 q8 : Nat → Option Nat) (H : QT) (n : Int) (v : QV), FAMq κ.2.2.2.2 q7 H n → VALq κ.2.2.2.2 sa q7 q8 k0 v → (8 ≤ v.1 → r.toInt = qSteps (qAnc H (v.1 - 8)) (k1.toInt - 8)) ∧ (v.1 < 8 → r.toInt = -1))) (fun (u : Unit) (t : State) => Bx D cy ad A sz sl κ (0) (0) t) A) #[.ref k0, .int k1] s (0) (0) A) (F0 m 21 ls []) := by
      intro n
      induction n with
      | zero => intro y3 y4 H locs ls hn; exact absurd hn (Nat.not_lt_zero _)
      | succ n21 ih21 =>
        intro y3 y4 H locs ls hn21 hf21_0 hi21 hP hS hl
        obtain ⟨hi21, hi21y⟩ := hi21
        refine lq_aload_n C.x C.b dX10_stepsUpTo_21 rfl (lv_at hl 0 rfl) ?_
        cases y4 with
        | none =>
          refine lv_ifnullN (tgt := 46) C.x C.b dX10_stepsUpTo_22 (by decide) ?_
          refine lv_iconst (v := (-1)) C.x C.b dX10_stepsUpTo_46 (by decide +kernel) ?_
          exact c_reti C hsz hsl () ⟨trivial, (vX10_stepsUpTo_2 sa κ k0 k1 y3 ht0 hPV ex1 hi21y)⟩ hP hS ⟨(Nat.le_of_ble_eq_true rfl), (Nat.le_of_ble_eq_true rfl)⟩ ⟨(Nat.le_of_ble_eq_true rfl), (Nat.le_of_ble_eq_true rfl)⟩ dX10_stepsUpTo_47
        | some b5 =>
          have hb5 : oT κ.2.2.2.2 b5 = 3 := hf21_0 b5 rfl
          refine lv_ifnull C.x C.b dX10_stepsUpTo_22 ?_
          refine lv_aload_n C.x C.b dX10_stepsUpTo_25 rfl (lv_at hl 0 rfl) ?_
          obtain ⟨x6, ex6⟩ : ∃ z, oI κ.2.2.2.2 7 b5 = z := ⟨_, rfl⟩
          refine pg_X1_1 (v := x6) C hP (t20 (a := b5) (t := 3) hb5) ex6 cw_49 dX10_stepsUpTo_26 ?_
          refine lv_iload_n C.x C.b dX10_stepsUpTo_29 rfl (lv_at hl 3 rfl) ?_
          refine lv_icmp_ne (tgt := 35) C.x C.b dX10_stepsUpTo_30 (by decide) (fun c7 => ?_) (fun c7 => ?_)
          · have c7 : ¬ x6.toInt = k1.toInt := by have h := z_ne c7; exact h
            obtain ⟨x8, ex8⟩ : ∃ y : Int32, y = y3 + (1 : Int32) := ⟨_, rfl⟩
            refine lv_iinc (v := x8) (lv' := [(2, .int x8), (3, .ref b5), (0, .ref k0), (1, .int k1)]) C.x C.b dX10_stepsUpTo_35 hl (k := 1) rfl (by rw [ex8]; rfl) (by decide) rfl (fun ls hl => ?_)
            refine lv_aload_n C.x C.b dX10_stepsUpTo_38 rfl (lv_at hl 1 rfl) ?_
            obtain ⟨x9, ex9⟩ : ∃ z, oR κ.2.2.2.2 6 b5 = z := ⟨_, rfl⟩
            refine pg_X1_2 (v := x9) C hP (t20 (a := b5) (t := 3) hb5) ex9 cw_50 dX10_stepsUpTo_39 ?_
            have tx9 : NT κ.2.2.2.2 3 x9 := by rw [← ex9]; exact (hPV.t3 hb5).1.1
            have mx9 : cto κ.2.2.2.2 x9 < oC κ.2.2.2.2 b5 := by rw [← ex9]; exact (hPV.t3 hb5).1.2
            refine lq_astore_n (lv' := [(3, va_rf x9), (2, .int x8), (0, .ref k0), (1, .int k1)]) C.x C.b dX10_stepsUpTo_42 rfl hl (by decide) (by cases x9 <;> rfl) (fun ls hl => ?_)
            refine lv_goto (tgt := 21) C.x C.b dX10_stepsUpTo_43 (by decide) ?_
            refine W.widen (k := 0) (n := 0) (Nat.le_of_ble_eq_true rfl) (Nat.le_of_ble_eq_true rfl) ?_
            exact ih21 x8 x9 _ _ _ (Nat.lt_of_lt_of_le (vX10_stepsUpTo_4 κ k1 b5 x6 x9 ex6 c7 mx9) (Nat.le_of_lt_succ hn21)) tx9 ⟨trivial, (vX10_stepsUpTo_3 sa κ k0 k1 y3 b5 x6 x8 x9 ht0 hPV ex1 hi21y ex6 c7 ex8 ex9 mx9)⟩ hP hS (lv_sub hl [0, 1, 2, 3] rfl)
          · have c7 : x6.toInt = k1.toInt := by have h := z_eq c7; exact h
            refine lv_iload_n C.x C.b dX10_stepsUpTo_33 rfl (lv_at hl 1 rfl) ?_
            exact c_reti C hsz hsl () ⟨trivial, (vX10_stepsUpTo_5 sa κ k0 k1 y3 b5 x6 ht0 hPV ex1 hi21y ex6 c7)⟩ hP hS ⟨(Nat.le_of_ble_eq_true rfl), (Nat.le_of_ble_eq_true rfl)⟩ ⟨(Nat.le_of_ble_eq_true rfl), (Nat.le_of_ble_eq_true rfl)⟩ dX10_stepsUpTo_34
    refine W.widen (k := 0) (n := 0) (Nat.le_of_ble_eq_true rfl) (Nat.le_of_ble_eq_true rfl) ?_
    exact lp21 ((cto κ.2.2.2.2 none) + 1) (0 : Int32) none _ _ _ (Nat.lt_succ_self _) nt_n ⟨trivial, (vX10_stepsUpTo_1 sa κ k0 k1 ht0 hPV ex1)⟩ hP hS (lv_sub hl [0, 1, 2, 3] rfl)
  | some b2 =>
    have hb2 : oT κ.2.2.2.2 b2 = 6 := tx1 b2 rfl
    refine lv_ifnonnull (tgt := 13) C.x C.b dX10_stepsUpTo_6 (by decide) ?_
    refine lv_aload_n C.x C.b dX10_stepsUpTo_13 rfl (lv_at hl 1 rfl) ?_
    refine pg_X10_4 (v := (some b2)) C hP (t20 (a := k0) (t := 1) ht0) ex1 cw_47 dX10_stepsUpTo_14 ?_
    obtain ⟨x10, ex10, hx10⟩ := (hPV.t6 hb2).1
    refine pg_X9_1 (v := some x10) C hP (t20 (a := b2) (t := 6) hb2) ex10 cw_48 dX10_stepsUpTo_17 ?_
    refine lv_astore_n (lv' := [(3, .ref x10), (2, .int 0), (0, .ref k0), (1, .int k1)]) C.x C.b dX10_stepsUpTo_20 rfl hl (by decide) rfl (fun ls hl => ?_)
    have lp21 : ∀ (n : Nat) (y11 : Int32) (y12 : Option Nat) (H : Heap) (locs : List Loc) (ls : Array Slot), (cto κ.2.2.2.2 y12) < n → (NT κ.2.2.2.2 3 y12) → ((True) ∧ (∀ (q7 q8 : Nat → Option Nat) (H : QT) (n : Int) (v : QV), FAMq κ.2.2.2.2 q7 H n → VALq κ.2.2.2.2 sa q7 q8 k0 v → (v.1 < 8 ∧ (y12 : Option Nat) = none) ∨ (8 ≤ v.1 ∧ ∃ x : Int, FPq q7 n x y12 ∧ QST H (v.1 - 8) (k1.toInt - 8) x y11.toInt ∧ y11.toInt + x ≤ 4))) → CH D cy ad A κ H → va_S A s.heap H locs → lv_has ls 4 [(3, va_rf y12), (2, .int y11), (0, .ref k0), (1, .int k1)] → W p l e (headSpec (Cond.code yX10_stepsUpTo cX10_stepsUpTo 4 (some .int) :: GWc) ({ frames := 0, cells := 0, slots := 0, locals := 0 })).room s m #[.ref k0, .int k1] below meth c H locs (0) (0) (MQ below (va_Qi (fun (r : Int32) (u : Unit) => (True) ∧ (∀ (q7 q8 : Nat → Option Nat) (H : QT) (n : Int) (v : QV), FAMq κ.2.2.2.2 q7 H n → VALq κ.2.2.2.2 sa q7 q8 k0 v → (8 ≤ v.1 → r.toInt = qSteps (qAnc H (v.1 - 8)) (k1.toInt - 8)) ∧ (v.1 < 8 → r.toInt = -1))) (fun (u : Unit) (t : State) => Bx D cy ad A sz sl κ (0) (0) t) A) #[.ref k0, .int k1] s (0) (0) A) (F0 m 21 ls []) := by
      intro n
      induction n with
      | zero => intro y11 y12 H locs ls hn; exact absurd hn (Nat.not_lt_zero _)
      | succ n21 ih21 =>
        intro y11 y12 H locs ls hn21 hf21_0 hi21 hP hS hl
        obtain ⟨hi21, hi21y⟩ := hi21
        refine lq_aload_n C.x C.b dX10_stepsUpTo_21 rfl (lv_at hl 0 rfl) ?_
        cases y12 with
        | none =>
          refine lv_ifnullN (tgt := 46) C.x C.b dX10_stepsUpTo_22 (by decide) ?_
          refine lv_iconst (v := (-1)) C.x C.b dX10_stepsUpTo_46 (by decide +kernel) ?_
          exact c_reti C hsz hsl () ⟨trivial, (vX10_stepsUpTo_7 sa κ k0 k1 b2 x10 y11 ht0 hPV ex1 ex10 hx10 hi21y)⟩ hP hS ⟨(Nat.le_of_ble_eq_true rfl), (Nat.le_of_ble_eq_true rfl)⟩ ⟨(Nat.le_of_ble_eq_true rfl), (Nat.le_of_ble_eq_true rfl)⟩ dX10_stepsUpTo_47
        | some b13 =>
          have hb13 : oT κ.2.2.2.2 b13 = 3 := hf21_0 b13 rfl
          refine lv_ifnull C.x C.b dX10_stepsUpTo_22 ?_
          refine lv_aload_n C.x C.b dX10_stepsUpTo_25 rfl (lv_at hl 0 rfl) ?_
          obtain ⟨x14, ex14⟩ : ∃ z, oI κ.2.2.2.2 7 b13 = z := ⟨_, rfl⟩
          refine pg_X1_1 (v := x14) C hP (t20 (a := b13) (t := 3) hb13) ex14 cw_49 dX10_stepsUpTo_26 ?_
          refine lv_iload_n C.x C.b dX10_stepsUpTo_29 rfl (lv_at hl 3 rfl) ?_
          refine lv_icmp_ne (tgt := 35) C.x C.b dX10_stepsUpTo_30 (by decide) (fun c15 => ?_) (fun c15 => ?_)
          · have c15 : ¬ x14.toInt = k1.toInt := by have h := z_ne c15; exact h
            obtain ⟨x16, ex16⟩ : ∃ y : Int32, y = y11 + (1 : Int32) := ⟨_, rfl⟩
            refine lv_iinc (v := x16) (lv' := [(2, .int x16), (3, .ref b13), (0, .ref k0), (1, .int k1)]) C.x C.b dX10_stepsUpTo_35 hl (k := 1) rfl (by rw [ex16]; rfl) (by decide) rfl (fun ls hl => ?_)
            refine lv_aload_n C.x C.b dX10_stepsUpTo_38 rfl (lv_at hl 1 rfl) ?_
            obtain ⟨x17, ex17⟩ : ∃ z, oR κ.2.2.2.2 6 b13 = z := ⟨_, rfl⟩
            refine pg_X1_2 (v := x17) C hP (t20 (a := b13) (t := 3) hb13) ex17 cw_50 dX10_stepsUpTo_39 ?_
            have tx17 : NT κ.2.2.2.2 3 x17 := by rw [← ex17]; exact (hPV.t3 hb13).1.1
            have mx17 : cto κ.2.2.2.2 x17 < oC κ.2.2.2.2 b13 := by rw [← ex17]; exact (hPV.t3 hb13).1.2
            refine lq_astore_n (lv' := [(3, va_rf x17), (2, .int x16), (0, .ref k0), (1, .int k1)]) C.x C.b dX10_stepsUpTo_42 rfl hl (by decide) (by cases x17 <;> rfl) (fun ls hl => ?_)
            refine lv_goto (tgt := 21) C.x C.b dX10_stepsUpTo_43 (by decide) ?_
            refine W.widen (k := 0) (n := 0) (Nat.le_of_ble_eq_true rfl) (Nat.le_of_ble_eq_true rfl) ?_
            exact ih21 x16 x17 _ _ _ (Nat.lt_of_lt_of_le (vX10_stepsUpTo_9 κ k1 b13 x14 x17 ex14 c15 mx17) (Nat.le_of_lt_succ hn21)) tx17 ⟨trivial, (vX10_stepsUpTo_8 sa κ k0 k1 b2 x10 y11 b13 x14 x16 x17 ht0 hPV ex1 ex10 hx10 hi21y ex14 c15 ex16 ex17 mx17)⟩ hP hS (lv_sub hl [0, 1, 2, 3] rfl)
          · have c15 : x14.toInt = k1.toInt := by have h := z_eq c15; exact h
            refine lv_iload_n C.x C.b dX10_stepsUpTo_33 rfl (lv_at hl 1 rfl) ?_
            exact c_reti C hsz hsl () ⟨trivial, (vX10_stepsUpTo_10 sa κ k0 k1 b2 x10 y11 b13 x14 ht0 hPV ex1 ex10 hx10 hi21y ex14 c15)⟩ hP hS ⟨(Nat.le_of_ble_eq_true rfl), (Nat.le_of_ble_eq_true rfl)⟩ ⟨(Nat.le_of_ble_eq_true rfl), (Nat.le_of_ble_eq_true rfl)⟩ dX10_stepsUpTo_34
    refine W.widen (k := 0) (n := 0) (Nat.le_of_ble_eq_true rfl) (Nat.le_of_ble_eq_true rfl) ?_
    exact lp21 ((cto κ.2.2.2.2 (some x10)) + 1) (0 : Int32) (some x10) _ _ _ (Nat.lt_succ_self _) (nt_s hx10) ⟨trivial, (vX10_stepsUpTo_6 sa κ k0 k1 b2 x10 ht0 hPV ex1 ex10 hx10)⟩ hP hS (lv_sub hl [0, 1, 2, 3] rfl)

-- retz @14
theorem vX10_fits_1   : 0 ≤ (1 : Int32).toInt ∧ (1 : Int32).toInt ≤ 1 := by
  have q1 : (1 : Int32).toInt = 1 := by decide +kernel
  refine ⟨?_, ?_⟩ <;> first | assumption | omega | (subst_vars; omega) | trivial
-- post2 @14
theorem vX10_fits_2 (sa : Nat → Nat) (κ : KS) (k0 : Nat) (k1 : Int32) (ht0 : oT κ.2.2.2.2 k0 = 1) (hPV : PV sa κ.2.2.2.2) (c1 : k1.toInt = 5) : ∀ (q7 q8 : Nat → Option Nat) (H : QT) (n : Int) (v : QV), FAMq κ.2.2.2.2 q7 H n → VALq κ.2.2.2.2 sa q7 q8 k0 v → ((1 : Int32).toInt = 0 → qFits H v k1.toInt = false) ∧ (¬ (1 : Int32).toInt = 0 → qFits H v k1.toInt = true) := by
  have q1 : (1 : Int32).toInt = 1 := by decide +kernel
  intro q7 q8 H n v F h
  have q9 := h.q9
  refine ⟨fun z => ?_, fun z => ?_⟩
  · first | (exfalso; omega) | (unfold qFits; exact decide_eq_false (by omega))
  · first | (exfalso; omega) | (unfold qFits; exact decide_eq_true (by omega))
-- retz @53
theorem vX10_fits_3   : 0 ≤ (0 : Int32).toInt ∧ (0 : Int32).toInt ≤ 1 := by
  have q0 : (0 : Int32).toInt = 0 := by decide +kernel
  refine ⟨?_, ?_⟩ <;> first | assumption | omega | (subst_vars; omega) | trivial
-- post2 @53
theorem vX10_fits_4 (sa : Nat → Nat) (κ : KS) (k0 : Nat) (k1 : Int32) (x2 : Int32) (r5 : Int32) (ht0 : oT κ.2.2.2.2 k0 = 1) (hPV : PV sa κ.2.2.2.2) (c1 : ¬ k1.toInt = 5) (ex2 : oI κ.2.2.2.2 0 k0 = x2) (c3 : ¬ x2.toInt = k1.toInt) (c4 : ¬ x2.toInt = 0) (hr5y : ∀ (q7 q8 : Nat → Option Nat) (H : QT) (n : Int) (v : QV), FAMq κ.2.2.2.2 q7 H n → VALq κ.2.2.2.2 sa q7 q8 k0 v → (8 ≤ v.1 → r5.toInt = qSteps (qAnc H (v.1 - 8)) (k1.toInt - 8)) ∧ (v.1 < 8 → r5.toInt = -1)) (c6 : r5.toInt = (-1)) : ∀ (q7 q8 : Nat → Option Nat) (H : QT) (n : Int) (v : QV), FAMq κ.2.2.2.2 q7 H n → VALq κ.2.2.2.2 sa q7 q8 k0 v → ((0 : Int32).toInt = 0 → qFits H v k1.toInt = false) ∧ (¬ (0 : Int32).toInt = 0 → qFits H v k1.toInt = true) := by
  have q0 : (0 : Int32).toInt = 0 := by decide +kernel
  intro q7 q8 H n v F h
  have q9 := h.q9
  have k := h.k9
  rw [ex2] at k
  refine ⟨fun z => ?_, fun z => ?_⟩
  · have e := hr5y q7 q8 H n v F h
    cases hq : qFits H v k1.toInt with
    | false => rfl
    | true =>
      exfalso
      have w := (q_fits9 F h (by omega) (by omega) (by omega)).1 hq
      by_cases g : 8 ≤ v.1
      · have e1 := e.1 g
        omega
      · rw [qAnc_neg (by omega)] at w
        exact w rfl
  · have e := hr5y q7 q8 H n v F h
    refine (q_fits9 F h (by omega) (by omega) (by omega)).2 (fun w => ?_)
    by_cases g : 8 ≤ v.1
    · have e1 := e.1 g
      omega
    · have e2 := e.2 (by omega)
      omega
-- post2 @53
theorem vX10_fits_5 (sa : Nat → Nat) (κ : KS) (k0 : Nat) (k1 : Int32) (x2 : Int32) (r5 : Int32) (ht0 : oT κ.2.2.2.2 k0 = 1) (hPV : PV sa κ.2.2.2.2) (c1 : ¬ k1.toInt = 5) (ex2 : oI κ.2.2.2.2 0 k0 = x2) (c3 : ¬ x2.toInt = k1.toInt) (c4 : ¬ x2.toInt = 0) (hr5y : ∀ (q7 q8 : Nat → Option Nat) (H : QT) (n : Int) (v : QV), FAMq κ.2.2.2.2 q7 H n → VALq κ.2.2.2.2 sa q7 q8 k0 v → (8 ≤ v.1 → r5.toInt = qSteps (qAnc H (v.1 - 8)) (k1.toInt - 8)) ∧ (v.1 < 8 → r5.toInt = -1)) (c6 : ¬ r5.toInt = (-1)) : ∀ (q7 q8 : Nat → Option Nat) (H : QT) (n : Int) (v : QV), FAMq κ.2.2.2.2 q7 H n → VALq κ.2.2.2.2 sa q7 q8 k0 v → ((1 : Int32).toInt = 0 → qFits H v k1.toInt = false) ∧ (¬ (1 : Int32).toInt = 0 → qFits H v k1.toInt = true) := by
  have q1 : (1 : Int32).toInt = 1 := by decide +kernel
  intro q7 q8 H n v F h
  have q9 := h.q9
  have k := h.k9
  rw [ex2] at k
  refine ⟨fun z => ?_, fun z => ?_⟩
  · have e := hr5y q7 q8 H n v F h
    cases hq : qFits H v k1.toInt with
    | false => rfl
    | true =>
      exfalso
      have w := (q_fits9 F h (by omega) (by omega) (by omega)).1 hq
      by_cases g : 8 ≤ v.1
      · have e1 := e.1 g
        omega
      · rw [qAnc_neg (by omega)] at w
        exact w rfl
  · have e := hr5y q7 q8 H n v F h
    refine (q_fits9 F h (by omega) (by omega) (by omega)).2 (fun w => ?_)
    by_cases g : 8 ≤ v.1
    · have e1 := e.1 g
      omega
    · have e2 := e.2 (by omega)
      omega
-- post2 @38
theorem vX10_fits_6 (sa : Nat → Nat) (κ : KS) (k0 : Nat) (k1 : Int32) (x2 : Int32) (ht0 : oT κ.2.2.2.2 k0 = 1) (hPV : PV sa κ.2.2.2.2) (c1 : ¬ k1.toInt = 5) (ex2 : oI κ.2.2.2.2 0 k0 = x2) (c3 : ¬ x2.toInt = k1.toInt) (c4 : x2.toInt = 0) (c7 : k1.toInt = 4) : ∀ (q7 q8 : Nat → Option Nat) (H : QT) (n : Int) (v : QV), FAMq κ.2.2.2.2 q7 H n → VALq κ.2.2.2.2 sa q7 q8 k0 v → ((1 : Int32).toInt = 0 → qFits H v k1.toInt = false) ∧ (¬ (1 : Int32).toInt = 0 → qFits H v k1.toInt = true) := by
  have q1 : (1 : Int32).toInt = 1 := by decide +kernel
  intro q7 q8 H n v F h
  have q9 := h.q9
  have k := h.k9
  rw [ex2] at k
  refine ⟨fun z => ?_, fun z => ?_⟩
  · first | (exfalso; omega) | (unfold qFits; exact decide_eq_false (by omega))
  · first | (exfalso; omega) | (unfold qFits; exact decide_eq_true (by omega))
-- post2 @38
theorem vX10_fits_7 (sa : Nat → Nat) (κ : KS) (k0 : Nat) (k1 : Int32) (x2 : Int32) (ht0 : oT κ.2.2.2.2 k0 = 1) (hPV : PV sa κ.2.2.2.2) (c1 : ¬ k1.toInt = 5) (ex2 : oI κ.2.2.2.2 0 k0 = x2) (c3 : ¬ x2.toInt = k1.toInt) (c4 : x2.toInt = 0) (c7 : ¬ k1.toInt = 4) (c8 : k1.toInt < 8) : ∀ (q7 q8 : Nat → Option Nat) (H : QT) (n : Int) (v : QV), FAMq κ.2.2.2.2 q7 H n → VALq κ.2.2.2.2 sa q7 q8 k0 v → ((0 : Int32).toInt = 0 → qFits H v k1.toInt = false) ∧ (¬ (0 : Int32).toInt = 0 → qFits H v k1.toInt = true) := by
  have q0 : (0 : Int32).toInt = 0 := by decide +kernel
  intro q7 q8 H n v F h
  have q9 := h.q9
  have k := h.k9
  rw [ex2] at k
  refine ⟨fun z => ?_, fun z => ?_⟩
  · first | (exfalso; omega) | (unfold qFits; exact decide_eq_false (by omega))
  · first | (exfalso; omega) | (unfold qFits; exact decide_eq_true (by omega))
-- post2 @38
theorem vX10_fits_8 (sa : Nat → Nat) (κ : KS) (k0 : Nat) (k1 : Int32) (x2 : Int32) (ht0 : oT κ.2.2.2.2 k0 = 1) (hPV : PV sa κ.2.2.2.2) (c1 : ¬ k1.toInt = 5) (ex2 : oI κ.2.2.2.2 0 k0 = x2) (c3 : ¬ x2.toInt = k1.toInt) (c4 : x2.toInt = 0) (c7 : ¬ k1.toInt = 4) (c8 : 8 ≤ k1.toInt) : ∀ (q7 q8 : Nat → Option Nat) (H : QT) (n : Int) (v : QV), FAMq κ.2.2.2.2 q7 H n → VALq κ.2.2.2.2 sa q7 q8 k0 v → ((1 : Int32).toInt = 0 → qFits H v k1.toInt = false) ∧ (¬ (1 : Int32).toInt = 0 → qFits H v k1.toInt = true) := by
  have q1 : (1 : Int32).toInt = 1 := by decide +kernel
  intro q7 q8 H n v F h
  have q9 := h.q9
  have k := h.k9
  rw [ex2] at k
  refine ⟨fun z => ?_, fun z => ?_⟩
  · first | (exfalso; omega) | (unfold qFits; exact decide_eq_false (by omega))
  · first | (exfalso; omega) | (unfold qFits; exact decide_eq_true (by omega))
-- post2 @14
theorem vX10_fits_9 (sa : Nat → Nat) (κ : KS) (k0 : Nat) (k1 : Int32) (x2 : Int32) (ht0 : oT κ.2.2.2.2 k0 = 1) (hPV : PV sa κ.2.2.2.2) (c1 : ¬ k1.toInt = 5) (ex2 : oI κ.2.2.2.2 0 k0 = x2) (c3 : x2.toInt = k1.toInt) : ∀ (q7 q8 : Nat → Option Nat) (H : QT) (n : Int) (v : QV), FAMq κ.2.2.2.2 q7 H n → VALq κ.2.2.2.2 sa q7 q8 k0 v → ((1 : Int32).toInt = 0 → qFits H v k1.toInt = false) ∧ (¬ (1 : Int32).toInt = 0 → qFits H v k1.toInt = true) := by
  have q1 : (1 : Int32).toInt = 1 := by decide +kernel
  intro q7 q8 H n v F h
  have q9 := h.q9
  have k := h.k9
  rw [ex2] at k
  refine ⟨fun z => ?_, fun z => ?_⟩
  · first | (exfalso; omega) | (unfold qFits; exact decide_eq_false (by omega))
  · first | (exfalso; omega) | (unfold qFits; exact decide_eq_true (by omega))
set_option maxHeartbeats 4000000 in
set_option maxRecDepth 100000 in
theorem NX10_fits (l : Launch) (D : va_G) (cy : Nat → ClassId) (ad : Nat → Nat) (A : Nat → Prop) (sz0 : Nat) (sa : Nat → Nat)  (κ : KS) (sz sl : Nat) (hAF : ∀ q, A q → Fr sz0 q) (hAn : ∀ q : Nat, sz ≤ q → A q) (k0 : Nat) (k1 : Int32) (ht0 : oT κ.2.2.2.2 k0 = 1) (hPV : PV sa κ.2.2.2.2) : Met l yX10_fits (Cond.code yX10_fits cX10_fits 2 (some .boolean) :: GWc) ({ frames := 1, cells := 0, slots := 0, locals := 23 }) (PcC D cy ad A sz0 sa [.ref k0, .int k1] κ sz sl) (va_Qi (fun (r : Int32) (u : Unit) => ((0 ≤ r.toInt ∧ r.toInt ≤ 1)) ∧ (∀ (q7 q8 : Nat → Option Nat) (H : QT) (n : Int) (v : QV), FAMq κ.2.2.2.2 q7 H n → VALq κ.2.2.2.2 sa q7 q8 k0 v → (r.toInt = 0 → qFits H v k1.toInt = false) ∧ (¬ r.toInt = 0 → qFits H v k1.toInt = true))) (fun (u : Unit) (t : State) => Bx D cy ad A sz sl κ (0) (0) t) A) (0) (0) A := by
  refine CM_of (loc0 := [(0, .ref k0), (1, .int k1)]) (own := RX10) (nm := "fits") (by decide) rfl rfl rfl (Nat.le_of_ble_eq_true rfl) hAF hAn ?_
  intro p e s m below meth c ls hsz hsl C hP hS hl
  refine lv_iload_n C.x C.b dX10_fits_0 rfl (lv_at hl 1 rfl) ?_
  refine lv_iconst (v := 5) C.x C.b dX10_fits_1 (by decide +kernel) ?_
  refine lv_icmp_eq (tgt := 13) C.x C.b dX10_fits_2 (by decide) (fun c1 => ?_) (fun c1 => ?_)
  · have c1 : k1.toInt = 5 := by have h := z_eq c1; rw [show (5 : Int32).toInt = 5 from by decide +kernel] at h; exact h
    refine lv_iconst (v := 1) C.x C.b dX10_fits_13 (by decide +kernel) ?_
    exact c_retz (ty := .boolean) (hv := rfl) C hsz hsl () ⟨(vX10_fits_1  ), (vX10_fits_2 sa κ k0 k1 ht0 hPV c1)⟩ hP hS ⟨(Nat.le_of_ble_eq_true rfl), (Nat.le_of_ble_eq_true rfl)⟩ ⟨(Nat.le_of_ble_eq_true rfl), (Nat.le_of_ble_eq_true rfl)⟩ dX10_fits_14
  · have c1 : ¬ k1.toInt = 5 := by have h := z_ne c1; rw [show (5 : Int32).toInt = 5 from by decide +kernel] at h; exact h
    refine lv_aload_n C.x C.b dX10_fits_5 rfl (lv_at hl 0 rfl) ?_
    obtain ⟨x2, ex2⟩ : ∃ z, oI κ.2.2.2.2 0 k0 = z := ⟨_, rfl⟩
    refine pg_X10_0 (v := x2) C hP (t20 (a := k0) (t := 1) ht0) ex2 cw_42 dX10_fits_6 ?_
    refine lv_iload_n C.x C.b dX10_fits_9 rfl (lv_at hl 1 rfl) ?_
    refine lv_icmp_ne (tgt := 15) C.x C.b dX10_fits_10 (by decide) (fun c3 => ?_) (fun c3 => ?_)
    · have c3 : ¬ x2.toInt = k1.toInt := by have h := z_ne c3; exact h
      refine lv_aload_n C.x C.b dX10_fits_15 rfl (lv_at hl 0 rfl) ?_
      refine pg_X10_0 (v := x2) C hP (t20 (a := k0) (t := 1) ht0) ex2 cw_42 dX10_fits_16 ?_
      refine lv_if_ne (tgt := 39) C.x C.b dX10_fits_19 (by decide) (fun c4 => ?_) (fun c4 => ?_)
      · have c4 : ¬ x2.toInt = 0 := by have h := z_ne c4; rw [show (0 : Int32).toInt = 0 from by decide +kernel] at h; exact h
        refine lv_aload_n C.x C.b dX10_fits_39 rfl (lv_at hl 0 rfl) ?_
        refine lv_iload_n C.x C.b dX10_fits_40 rfl (lv_at hl 1 rfl) ?_
        refine c_callVi (n := 1) (As := [.int k1]) (rest := []) C hP hS hl.1 (NX10_stepsUpTo l D cy ad A sz0 sa κ s.heap.size (SLT s.heap) C.f (fun q h => C.a q (Nat.le_trans hS.1 h)) k0 k1 ht0 hPV) ⟨cw_43, cw_46, by decide +kernel⟩ ⟨cw_44, cw_45, cw_40⟩ rfl (hP.recvP (t := 1) (ci := 12) C.K (t20 (a := k0) (t := 1) ht0) (by decide) rfl rfl) rfl rfl (lv_room (Nat.le_of_ble_eq_true rfl)) ⟨Nat.le_of_ble_eq_true rfl, Nat.le_of_ble_eq_true rfl⟩ ⟨(Nat.le_of_ble_eq_true rfl), (Nat.le_of_ble_eq_true rfl)⟩ dX10_fits_41 (fun r5 u H locs hr5 hP hS => ?_)
        obtain ⟨hr5, hr5y⟩ := hr5
        have hr5y : ∀ (q7 q8 : Nat → Option Nat) (H : QT) (n : Int) (v : QV), FAMq κ.2.2.2.2 q7 H n → VALq κ.2.2.2.2 sa q7 q8 k0 v → (8 ≤ v.1 → r5.toInt = qSteps (qAnc H (v.1 - 8)) (k1.toInt - 8)) ∧ (v.1 < 8 → r5.toInt = -1) := hr5y
        have hr5 : True := hr5
        refine lv_iconst (v := (-1)) C.x C.b dX10_fits_44 (by decide +kernel) ?_
        refine lv_icmp_eq (tgt := 52) C.x C.b dX10_fits_45 (by decide) (fun c6 => ?_) (fun c6 => ?_)
        · have c6 : r5.toInt = (-1) := by have h := z_eq c6; rw [show ((-1) : Int32).toInt = -1 from by decide +kernel] at h; exact h
          refine lv_iconst (v := 0) C.x C.b dX10_fits_52 (by decide +kernel) ?_
          exact c_retz (ty := .boolean) (hv := rfl) C hsz hsl () ⟨(vX10_fits_3  ), (vX10_fits_4 sa κ k0 k1 x2 r5 ht0 hPV c1 ex2 c3 c4 hr5y c6)⟩ hP hS ⟨(Nat.le_of_ble_eq_true rfl), (Nat.le_of_ble_eq_true rfl)⟩ ⟨(Nat.le_of_ble_eq_true rfl), (Nat.le_of_ble_eq_true rfl)⟩ dX10_fits_53
        · have c6 : ¬ r5.toInt = (-1) := by have h := z_ne c6; rw [show ((-1) : Int32).toInt = -1 from by decide +kernel] at h; exact h
          refine lv_iconst (v := 1) C.x C.b dX10_fits_48 (by decide +kernel) ?_
          refine lv_goto (tgt := 53) C.x C.b dX10_fits_49 (by decide) ?_
          exact c_retz (ty := .boolean) (hv := rfl) C hsz hsl () ⟨(vX10_fits_1  ), (vX10_fits_5 sa κ k0 k1 x2 r5 ht0 hPV c1 ex2 c3 c4 hr5y c6)⟩ hP hS ⟨(Nat.le_of_ble_eq_true rfl), (Nat.le_of_ble_eq_true rfl)⟩ ⟨(Nat.le_of_ble_eq_true rfl), (Nat.le_of_ble_eq_true rfl)⟩ dX10_fits_53
      · have c4 : x2.toInt = 0 := by have h := z_eq c4; rw [show (0 : Int32).toInt = 0 from by decide +kernel] at h; exact h
        refine lv_iload_n C.x C.b dX10_fits_22 rfl (lv_at hl 1 rfl) ?_
        refine lv_iconst (v := 4) C.x C.b dX10_fits_23 (by decide +kernel) ?_
        refine lv_icmp_eq (tgt := 33) C.x C.b dX10_fits_24 (by decide) (fun c7 => ?_) (fun c7 => ?_)
        · have c7 : k1.toInt = 4 := by have h := z_eq c7; rw [show (4 : Int32).toInt = 4 from by decide +kernel] at h; exact h
          refine lv_iconst (v := 1) C.x C.b dX10_fits_33 (by decide +kernel) ?_
          refine lv_goto (tgt := 38) C.x C.b dX10_fits_34 (by decide) ?_
          exact c_retz (ty := .boolean) (hv := rfl) C hsz hsl () ⟨(vX10_fits_1  ), (vX10_fits_6 sa κ k0 k1 x2 ht0 hPV c1 ex2 c3 c4 c7)⟩ hP hS ⟨(Nat.le_of_ble_eq_true rfl), (Nat.le_of_ble_eq_true rfl)⟩ ⟨(Nat.le_of_ble_eq_true rfl), (Nat.le_of_ble_eq_true rfl)⟩ dX10_fits_38
        · have c7 : ¬ k1.toInt = 4 := by have h := z_ne c7; rw [show (4 : Int32).toInt = 4 from by decide +kernel] at h; exact h
          refine lv_iload_n C.x C.b dX10_fits_27 rfl (lv_at hl 1 rfl) ?_
          refine lv_bipush (v := 8) C.x C.b dX10_fits_28 (by decide +kernel) ?_
          refine lv_icmp_lt (tgt := 37) C.x C.b dX10_fits_30 (by decide) (fun c8 => ?_) (fun c8 => ?_)
          · have c8 : k1.toInt < 8 := by have h := z_lt c8; rw [show (8 : Int32).toInt = 8 from by decide +kernel] at h; exact h
            refine lv_iconst (v := 0) C.x C.b dX10_fits_37 (by decide +kernel) ?_
            exact c_retz (ty := .boolean) (hv := rfl) C hsz hsl () ⟨(vX10_fits_3  ), (vX10_fits_7 sa κ k0 k1 x2 ht0 hPV c1 ex2 c3 c4 c7 c8)⟩ hP hS ⟨(Nat.le_of_ble_eq_true rfl), (Nat.le_of_ble_eq_true rfl)⟩ ⟨(Nat.le_of_ble_eq_true rfl), (Nat.le_of_ble_eq_true rfl)⟩ dX10_fits_38
          · have c8 : 8 ≤ k1.toInt := by have h := z_nlt c8; rw [show (8 : Int32).toInt = 8 from by decide +kernel] at h; exact h
            refine lv_iconst (v := 1) C.x C.b dX10_fits_33 (by decide +kernel) ?_
            refine lv_goto (tgt := 38) C.x C.b dX10_fits_34 (by decide) ?_
            exact c_retz (ty := .boolean) (hv := rfl) C hsz hsl () ⟨(vX10_fits_1  ), (vX10_fits_8 sa κ k0 k1 x2 ht0 hPV c1 ex2 c3 c4 c7 c8)⟩ hP hS ⟨(Nat.le_of_ble_eq_true rfl), (Nat.le_of_ble_eq_true rfl)⟩ ⟨(Nat.le_of_ble_eq_true rfl), (Nat.le_of_ble_eq_true rfl)⟩ dX10_fits_38
    · have c3 : x2.toInt = k1.toInt := by have h := z_eq c3; exact h
      refine lv_iconst (v := 1) C.x C.b dX10_fits_13 (by decide +kernel) ?_
      exact c_retz (ty := .boolean) (hv := rfl) C hsz hsl () ⟨(vX10_fits_1  ), (vX10_fits_9 sa κ k0 k1 x2 ht0 hPV c1 ex2 c3)⟩ hP hS ⟨(Nat.le_of_ble_eq_true rfl), (Nat.le_of_ble_eq_true rfl)⟩ ⟨(Nat.le_of_ble_eq_true rfl), (Nat.le_of_ble_eq_true rfl)⟩ dX10_fits_14

-- post2 @16
theorem vX10_weight_1 (sa : Nat → Nat) (κ : KS) (k0 : Nat) (k1 : Int32) (x1 : Int32) (ht0 : oT κ.2.2.2.2 k0 = 1) (hPV : PV sa κ.2.2.2.2) (ex1 : oI κ.2.2.2.2 0 k0 = x1) (c2 : x1.toInt = k1.toInt) : ∀ (q7 q8 : Nat → Option Nat) (H : QT) (n : Int) (v : QV), FAMq κ.2.2.2.2 q7 H n → VALq κ.2.2.2.2 sa q7 q8 k0 v → (0 : Int32).toInt = qWei H v k1.toInt := by
  have q0 : (0 : Int32).toInt = 0 := by decide +kernel
  intro q7 q8 H n v F h
  have k := h.k9
  rw [ex1] at k
  unfold qWei
  first | (rw [if_pos (by omega)]; done) | (rw [if_pos (by omega)]; decide) | (rw [if_neg (by omega), if_pos (by omega)]; decide)
-- post2 @34
theorem vX10_weight_2 (sa : Nat → Nat) (κ : KS) (k0 : Nat) (k1 : Int32) (x1 : Int32) (r5 : Int32) (x6 : Int32) (ht0 : oT κ.2.2.2.2 k0 = 1) (hPV : PV sa κ.2.2.2.2) (ex1 : oI κ.2.2.2.2 0 k0 = x1) (c2 : ¬ x1.toInt = k1.toInt) (c3 : ¬ x1.toInt = 0) (c4 : ¬ k1.toInt = 5) (hr5y : ∀ (q7 q8 : Nat → Option Nat) (H : QT) (n : Int) (v : QV), FAMq κ.2.2.2.2 q7 H n → VALq κ.2.2.2.2 sa q7 q8 k0 v → (8 ≤ v.1 → r5.toInt = qSteps (qAnc H (v.1 - 8)) (k1.toInt - 8)) ∧ (v.1 < 8 → r5.toInt = -1)) (ex6 : x6 = (2 : Int32) * r5) : ∀ (q7 q8 : Nat → Option Nat) (H : QT) (n : Int) (v : QV), FAMq κ.2.2.2.2 q7 H n → VALq κ.2.2.2.2 sa q7 q8 k0 v → x6.toInt = qWei H v k1.toInt := by
  have q2 : (2 : Int32).toInt = 2 := by decide +kernel
  intro q7 q8 H n v F h
  have k := h.k9
  rw [ex1] at k
  unfold qWei
  rw [if_neg (by omega), if_neg (by omega)]
  have e := hr5y q7 q8 H n v F h
  have lb := qSteps_b9 (H := H) (u := k1.toInt - 8) (v.1 - 8)
  have e3 : r5.toInt = qSteps (qAnc H (v.1 - 8)) (k1.toInt - 8) := by
    by_cases g : 8 ≤ v.1
    · exact e.1 g
    · rw [e.2 (by omega), qAnc_neg (by omega)]; rfl
  rw [ex6, z_mulc 2 (by decide) (by omega) (by omega), e3]
-- post2 @34
theorem vX10_weight_3 (sa : Nat → Nat) (κ : KS) (k0 : Nat) (k1 : Int32) (x1 : Int32) (ht0 : oT κ.2.2.2.2 k0 = 1) (hPV : PV sa κ.2.2.2.2) (ex1 : oI κ.2.2.2.2 0 k0 = x1) (c2 : ¬ x1.toInt = k1.toInt) (c3 : ¬ x1.toInt = 0) (c4 : k1.toInt = 5) : ∀ (q7 q8 : Nat → Option Nat) (H : QT) (n : Int) (v : QV), FAMq κ.2.2.2.2 q7 H n → VALq κ.2.2.2.2 sa q7 q8 k0 v → (16 : Int32).toInt = qWei H v k1.toInt := by
  have q16 : (16 : Int32).toInt = 16 := by decide +kernel
  intro q7 q8 H n v F h
  have k := h.k9
  rw [ex1] at k
  unfold qWei
  first | (rw [if_pos (by omega)]; done) | (rw [if_pos (by omega)]; decide) | (rw [if_neg (by omega), if_pos (by omega)]; decide)
-- post2 @16
theorem vX10_weight_4 (sa : Nat → Nat) (κ : KS) (k0 : Nat) (k1 : Int32) (x1 : Int32) (ht0 : oT κ.2.2.2.2 k0 = 1) (hPV : PV sa κ.2.2.2.2) (ex1 : oI κ.2.2.2.2 0 k0 = x1) (c2 : ¬ x1.toInt = k1.toInt) (c3 : x1.toInt = 0) : ∀ (q7 q8 : Nat → Option Nat) (H : QT) (n : Int) (v : QV), FAMq κ.2.2.2.2 q7 H n → VALq κ.2.2.2.2 sa q7 q8 k0 v → (0 : Int32).toInt = qWei H v k1.toInt := by
  have q0 : (0 : Int32).toInt = 0 := by decide +kernel
  intro q7 q8 H n v F h
  have k := h.k9
  rw [ex1] at k
  unfold qWei
  first | (rw [if_pos (by omega)]; done) | (rw [if_pos (by omega)]; decide) | (rw [if_neg (by omega), if_pos (by omega)]; decide)
set_option maxHeartbeats 4000000 in
set_option maxRecDepth 100000 in
theorem NX10_weight (l : Launch) (D : va_G) (cy : Nat → ClassId) (ad : Nat → Nat) (A : Nat → Prop) (sz0 : Nat) (sa : Nat → Nat)  (κ : KS) (sz sl : Nat) (hAF : ∀ q, A q → Fr sz0 q) (hAn : ∀ q : Nat, sz ≤ q → A q) (k0 : Nat) (k1 : Int32) (ht0 : oT κ.2.2.2.2 k0 = 1) (hPV : PV sa κ.2.2.2.2) : Met l yX10_weight (Cond.code yX10_weight cX10_weight 2 (some .int) :: GWc) ({ frames := 1, cells := 0, slots := 0, locals := 23 }) (PcC D cy ad A sz0 sa [.ref k0, .int k1] κ sz sl) (va_Qi (fun (r : Int32) (u : Unit) => (True) ∧ (∀ (q7 q8 : Nat → Option Nat) (H : QT) (n : Int) (v : QV), FAMq κ.2.2.2.2 q7 H n → VALq κ.2.2.2.2 sa q7 q8 k0 v → r.toInt = qWei H v k1.toInt)) (fun (u : Unit) (t : State) => Bx D cy ad A sz sl κ (0) (0) t) A) (0) (0) A := by
  refine CM_of (loc0 := [(0, .ref k0), (1, .int k1)]) (own := RX10) (nm := "weight") (by decide) rfl rfl rfl (Nat.le_of_ble_eq_true rfl) hAF hAn ?_
  intro p e s m below meth c ls hsz hsl C hP hS hl
  refine lv_aload_n C.x C.b dX10_weight_0 rfl (lv_at hl 0 rfl) ?_
  obtain ⟨x1, ex1⟩ : ∃ z, oI κ.2.2.2.2 0 k0 = z := ⟨_, rfl⟩
  refine pg_X10_0 (v := x1) C hP (t20 (a := k0) (t := 1) ht0) ex1 cw_42 dX10_weight_1 ?_
  refine lv_iload_n C.x C.b dX10_weight_4 rfl (lv_at hl 1 rfl) ?_
  refine lv_icmp_eq (tgt := 15) C.x C.b dX10_weight_5 (by decide) (fun c2 => ?_) (fun c2 => ?_)
  · have c2 : x1.toInt = k1.toInt := by have h := z_eq c2; exact h
    refine lv_iconst (v := 0) C.x C.b dX10_weight_15 (by decide +kernel) ?_
    exact c_reti C hsz hsl () ⟨trivial, (vX10_weight_1 sa κ k0 k1 x1 ht0 hPV ex1 c2)⟩ hP hS ⟨(Nat.le_of_ble_eq_true rfl), (Nat.le_of_ble_eq_true rfl)⟩ ⟨(Nat.le_of_ble_eq_true rfl), (Nat.le_of_ble_eq_true rfl)⟩ dX10_weight_16
  · have c2 : ¬ x1.toInt = k1.toInt := by have h := z_ne c2; exact h
    refine lv_aload_n C.x C.b dX10_weight_8 rfl (lv_at hl 0 rfl) ?_
    refine pg_X10_0 (v := x1) C hP (t20 (a := k0) (t := 1) ht0) ex1 cw_42 dX10_weight_9 ?_
    refine lv_if_ne (tgt := 17) C.x C.b dX10_weight_12 (by decide) (fun c3 => ?_) (fun c3 => ?_)
    · have c3 : ¬ x1.toInt = 0 := by have h := z_ne c3; rw [show (0 : Int32).toInt = 0 from by decide +kernel] at h; exact h
      refine lv_iload_n C.x C.b dX10_weight_17 rfl (lv_at hl 1 rfl) ?_
      refine lv_iconst (v := 5) C.x C.b dX10_weight_18 (by decide +kernel) ?_
      refine lv_icmp_ne (tgt := 27) C.x C.b dX10_weight_19 (by decide) (fun c4 => ?_) (fun c4 => ?_)
      · have c4 : ¬ k1.toInt = 5 := by have h := z_ne c4; rw [show (5 : Int32).toInt = 5 from by decide +kernel] at h; exact h
        refine lv_iconst (v := 2) C.x C.b dX10_weight_27 (by decide +kernel) ?_
        refine lv_aload_n C.x C.b dX10_weight_28 rfl (lv_at hl 0 rfl) ?_
        refine lv_iload_n C.x C.b dX10_weight_29 rfl (lv_at hl 1 rfl) ?_
        refine c_callVi (n := 1) (As := [.int k1]) (rest := [.int 2]) C hP hS hl.1 (NX10_stepsUpTo l D cy ad A sz0 sa κ s.heap.size (SLT s.heap) C.f (fun q h => C.a q (Nat.le_trans hS.1 h)) k0 k1 ht0 hPV) ⟨cw_43, cw_46, by decide +kernel⟩ ⟨cw_44, cw_45, cw_40⟩ rfl (hP.recvP (t := 1) (ci := 12) C.K (t20 (a := k0) (t := 1) ht0) (by decide) rfl rfl) rfl rfl (lv_room (Nat.le_of_ble_eq_true rfl)) ⟨Nat.le_of_ble_eq_true rfl, Nat.le_of_ble_eq_true rfl⟩ ⟨(Nat.le_of_ble_eq_true rfl), (Nat.le_of_ble_eq_true rfl)⟩ dX10_weight_30 (fun r5 u H locs hr5 hP hS => ?_)
        obtain ⟨hr5, hr5y⟩ := hr5
        have hr5y : ∀ (q7 q8 : Nat → Option Nat) (H : QT) (n : Int) (v : QV), FAMq κ.2.2.2.2 q7 H n → VALq κ.2.2.2.2 sa q7 q8 k0 v → (8 ≤ v.1 → r5.toInt = qSteps (qAnc H (v.1 - 8)) (k1.toInt - 8)) ∧ (v.1 < 8 → r5.toInt = -1) := hr5y
        have hr5 : True := hr5
        refine lv_imul C.x C.b dX10_weight_33 ?_
        refine lv_topi (fun x6 ex6 => ?_)
        exact c_reti C hsz hsl () ⟨trivial, (vX10_weight_2 sa κ k0 k1 x1 r5 x6 ht0 hPV ex1 c2 c3 c4 hr5y ex6)⟩ hP hS ⟨(Nat.le_of_ble_eq_true rfl), (Nat.le_of_ble_eq_true rfl)⟩ ⟨(Nat.le_of_ble_eq_true rfl), (Nat.le_of_ble_eq_true rfl)⟩ dX10_weight_34
      · have c4 : k1.toInt = 5 := by have h := z_eq c4; rw [show (5 : Int32).toInt = 5 from by decide +kernel] at h; exact h
        refine lv_bipush (v := 16) C.x C.b dX10_weight_22 (by decide +kernel) ?_
        refine lv_goto (tgt := 34) C.x C.b dX10_weight_24 (by decide) ?_
        exact c_reti C hsz hsl () ⟨trivial, (vX10_weight_3 sa κ k0 k1 x1 ht0 hPV ex1 c2 c3 c4)⟩ hP hS ⟨(Nat.le_of_ble_eq_true rfl), (Nat.le_of_ble_eq_true rfl)⟩ ⟨(Nat.le_of_ble_eq_true rfl), (Nat.le_of_ble_eq_true rfl)⟩ dX10_weight_34
    · have c3 : x1.toInt = 0 := by have h := z_eq c3; rw [show (0 : Int32).toInt = 0 from by decide +kernel] at h; exact h
      refine lv_iconst (v := 0) C.x C.b dX10_weight_15 (by decide +kernel) ?_
      exact c_reti C hsz hsl () ⟨trivial, (vX10_weight_4 sa κ k0 k1 x1 ht0 hPV ex1 c2 c3)⟩ hP hS ⟨(Nat.le_of_ble_eq_true rfl), (Nat.le_of_ble_eq_true rfl)⟩ ⟨(Nat.le_of_ble_eq_true rfl), (Nat.le_of_ble_eq_true rfl)⟩ dX10_weight_16
