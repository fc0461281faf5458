set_option maxHeartbeats 4000000 in
set_option maxRecDepth 100000 in
theorem NX5_init (l : Launch) (D : va_G) (cy : Nat → ClassId) (ad : Nat → Nat) (A : Nat → Prop) (sz0 : Nat) (sa : Nat → Nat)  (κ : KS) (sz sl : Nat) (hAF : ∀ q, A q → Fr sz0 q) (hAn : ∀ q : Nat, sz ≤ q → A q) (k0 : Nat) (k1 : Int32) (k2 : Int32) (k3 : Option Nat) (k4 : Option Nat) (k5 : Option Nat) (k6 : Option Nat) (ht0 : oT κ.2.2.2.2 k0 = 22) (ht3 : NT κ.2.2.2.2 1 k3) (ht4 : NT κ.2.2.2.2 2 k4) (ht5 : NT κ.2.2.2.2 2 k5) (ht6 : NT κ.2.2.2.2 2 k6) (hPV : PV sa κ.2.2.2.2) (hpre : oI κ.2.2.2.2 5 k0 = 0) : Met l yX5_init (Cond.code yX5_init cX5_init 7 none :: GWc) ({ frames := 1, cells := 0, slots := 0, locals := 20 }) (PcC D cy ad A sz0 sa [.ref k0, .int k1, .int k2, va_rf k3, va_rf k4, va_rf k5, va_rf k6] κ sz sl) (va_Qv (fun (u : PL) => ((EXP (fun a => ¬ a = k0) κ.2.2.2.2 u) ∧ (PV sa u) ∧ (oT u k0 = 2) ∧ (KPx True κ.2.2.2.2 u) ∧ (cto u (some k0) = 1 + cto κ.2.2.2.2 k4 + cto κ.2.2.2.2 k5 + cto κ.2.2.2.2 k6)) ∧ (oI u 2 k0 = k1 ∧ oI u 5 k0 = 0)) (fun (u : PL) (t : State) => Bx D cy ad A sz sl (tP κ u) (0) (0) t) A) (0) (0) A := by
  refine CM_of (loc0 := [(0, .ref k0), (1, .int k1), (2, .int k2), (3, va_rf k3), (4, va_rf k4), (5, va_rf k5), (6, va_rf k6)]) (own := RX5) (nm := "<init>") (by decide) rfl rfl (by cases k3 <;> cases k4 <;> cases k5 <;> cases k6 <;> rfl) (by cases k3 <;> cases k4 <;> cases k5 <;> cases k6 <;> exact Nat.le_of_ble_eq_true rfl) hAF hAn ?_
  intro p e s m below meth c ls hsz hsl C hP hS hl
  refine lv_aload_n C.x C.b dX5_init_0 rfl (lv_at hl 0 rfl) ?_
  refine W.objInit C.x C.b C.o (C.w _ cw_542) (C.w _ cw_2) (C.w _ cw_3) rfl (by rw [C.ml]; exact hl.1) rfl dX5_init_1 (Nat.le_of_ble_eq_true rfl) (Nat.le_of_ble_eq_true rfl) ?_
  refine W.eq (g2 := F0 m 4 ls []) rfl ?_
  refine lv_aload_n C.x C.b dX5_init_4 rfl (lv_at hl 0 rfl) ?_
  refine lv_iload_n C.x C.b dX5_init_5 rfl (lv_at hl 1 rfl) ?_
  refine pp_X5_0 C rfl rfl hP hS (t20 (a := k0) (t := 22) ht0) cw_543 dX5_init_6 (fun H locs hP hS => ?_)
  have pvz1 : PV sa (sI κ.2.2.2.2 2 k0 k1) := hPV.rI (raw_le ht0 (by decide))
  have xpz1 : EXP (fun a => ¬ a = k0) κ.2.2.2.2 (sI κ.2.2.2.2 2 k0 k1) := XP.rf.trans XP.xI
  have kpz1 : KPx True κ.2.2.2.2 (sI κ.2.2.2.2 2 k0 k1) := KPx.rf.rI9 (raw_le ht0 (by decide))
  refine lv_aload_n C.x C.b dX5_init_9 rfl (lv_at hl 0 rfl) ?_
  refine lv_iload_n C.x C.b dX5_init_10 rfl (lv_at hl 2 rfl) ?_
  refine pp_X5_1 C rfl rfl hP hS (t20 (a := k0) (t := 22) ht0) cw_544 dX5_init_11 (fun H locs hP hS => ?_)
  have pvz2 : PV sa (sI (sI κ.2.2.2.2 2 k0 k1) 3 k0 k2) := pvz1.rI (raw_le ht0 (by decide))
  have xpz2 : EXP (fun a => ¬ a = k0) κ.2.2.2.2 (sI (sI κ.2.2.2.2 2 k0 k1) 3 k0 k2) := xpz1.trans XP.xI
  have kpz2 : KPx True κ.2.2.2.2 (sI (sI κ.2.2.2.2 2 k0 k1) 3 k0 k2) := kpz1.rI9 (raw_le ht0 (by decide))
  refine lv_aload_n C.x C.b dX5_init_14 rfl (lv_at hl 0 rfl) ?_
  refine lq_aload_n C.x C.b dX5_init_15 rfl (lv_at hl 3 rfl) ?_
  refine pp_X5_2 (v := k3) C rfl rfl hP hS (t20 (a := k0) (t := 22) ht0) cw_545 dX5_init_16 (fun H locs hP hS => ?_)
  have pvz3 : PV sa (sR (sI (sI κ.2.2.2.2 2 k0 k1) 3 k0 k2) 2 k0 k3) := pvz2.rR (raw_le ht0 (by decide))
  have xpz3 : EXP (fun a => ¬ a = k0) κ.2.2.2.2 (sR (sI (sI κ.2.2.2.2 2 k0 k1) 3 k0 k2) 2 k0 k3) := xpz2.trans XP.xR
  have kpz3 : KPx True κ.2.2.2.2 (sR (sI (sI κ.2.2.2.2 2 k0 k1) 3 k0 k2) 2 k0 k3) := kpz2.rR9 (raw_le ht0 (by decide))
  refine lv_aload_n C.x C.b dX5_init_19 rfl (lv_at hl 0 rfl) ?_
  refine lq_aload C.x C.b dX5_init_20 (lv_at hl 4 rfl) ?_
  refine pp_X5_3 (v := k4) C rfl rfl hP hS (t20 (a := k0) (t := 22) ht0) cw_546 dX5_init_22 (fun H locs hP hS => ?_)
  have pvz4 : PV sa (sR (sR (sI (sI κ.2.2.2.2 2 k0 k1) 3 k0 k2) 2 k0 k3) 3 k0 k4) := pvz3.rR (raw_le ht0 (by decide))
  have xpz4 : EXP (fun a => ¬ a = k0) κ.2.2.2.2 (sR (sR (sI (sI κ.2.2.2.2 2 k0 k1) 3 k0 k2) 2 k0 k3) 3 k0 k4) := xpz3.trans XP.xR
  have kpz4 : KPx True κ.2.2.2.2 (sR (sR (sI (sI κ.2.2.2.2 2 k0 k1) 3 k0 k2) 2 k0 k3) 3 k0 k4) := kpz3.rR9 (raw_le ht0 (by decide))
  refine lv_aload_n C.x C.b dX5_init_25 rfl (lv_at hl 0 rfl) ?_
  refine lq_aload C.x C.b dX5_init_26 (lv_at hl 5 rfl) ?_
  refine pp_X5_4 (v := k5) C rfl rfl hP hS (t20 (a := k0) (t := 22) ht0) cw_417 dX5_init_28 (fun H locs hP hS => ?_)
  have pvz5 : PV sa (sR (sR (sR (sI (sI κ.2.2.2.2 2 k0 k1) 3 k0 k2) 2 k0 k3) 3 k0 k4) 4 k0 k5) := pvz4.rR (raw_le ht0 (by decide))
  have xpz5 : EXP (fun a => ¬ a = k0) κ.2.2.2.2 (sR (sR (sR (sI (sI κ.2.2.2.2 2 k0 k1) 3 k0 k2) 2 k0 k3) 3 k0 k4) 4 k0 k5) := xpz4.trans XP.xR
  have kpz5 : KPx True κ.2.2.2.2 (sR (sR (sR (sI (sI κ.2.2.2.2 2 k0 k1) 3 k0 k2) 2 k0 k3) 3 k0 k4) 4 k0 k5) := kpz4.rR9 (raw_le ht0 (by decide))
  refine lv_aload_n C.x C.b dX5_init_31 rfl (lv_at hl 0 rfl) ?_
  refine lq_aload C.x C.b dX5_init_32 (lv_at hl 6 rfl) ?_
  refine pp_X5_5 (v := k6) C rfl rfl hP hS (t20 (a := k0) (t := 22) ht0) cw_418 dX5_init_34 (fun H locs hP hS => ?_)
  have pvz6 : PV sa (sR (sR (sR (sR (sI (sI κ.2.2.2.2 2 k0 k1) 3 k0 k2) 2 k0 k3) 3 k0 k4) 4 k0 k5) 5 k0 k6) := pvz5.rR (raw_le ht0 (by decide))
  have xpz6 : EXP (fun a => ¬ a = k0) κ.2.2.2.2 (sR (sR (sR (sR (sI (sI κ.2.2.2.2 2 k0 k1) 3 k0 k2) 2 k0 k3) 3 k0 k4) 4 k0 k5) 5 k0 k6) := xpz5.trans XP.xR
  have kpz6 : KPx True κ.2.2.2.2 (sR (sR (sR (sR (sI (sI κ.2.2.2.2 2 k0 k1) 3 k0 k2) 2 k0 k3) 3 k0 k4) 4 k0 k5) 5 k0 k6) := kpz5.rR9 (raw_le ht0 (by decide))
  have hP := CH.fin (t := 2) (n := 1 + cto κ.2.2.2.2 k4 + cto κ.2.2.2.2 k5 + cto κ.2.2.2.2 k6) hP (show oT (sR (sR (sR (sR (sI (sI κ.2.2.2.2 2 k0 k1) 3 k0 k2) 2 k0 k3) 3 k0 k4) 4 k0 k5) 5 k0 k6) k0 = 20 + 2 from ht0) (by decide)
  have pvF : PV sa (sC (sT (sR (sR (sR (sR (sI (sI κ.2.2.2.2 2 k0 k1) 3 k0 k2) 2 k0 k3) 3 k0 k4) 4 k0 k5) 5 k0 k6) k0 2) k0 (1 + cto κ.2.2.2.2 k4 + cto κ.2.2.2.2 k5 + cto κ.2.2.2.2 k6)) := fin_2 pvz6 ht0 (by rw [(Eq.trans (show oR (sR (sR (sR (sR (sI (sI κ.2.2.2.2 2 k0 k1) 3 k0 k2) 2 k0 k3) 3 k0 k4) 4 k0 k5) 5 k0 k6) 2 k0 = oR (sR (sR (sR (sI (sI κ.2.2.2.2 2 k0 k1) 3 k0 k2) 2 k0 k3) 3 k0 k4) 4 k0 k5) 2 k0 from sR_nk (by decide)) (Eq.trans (show oR (sR (sR (sR (sI (sI κ.2.2.2.2 2 k0 k1) 3 k0 k2) 2 k0 k3) 3 k0 k4) 4 k0 k5) 2 k0 = oR (sR (sR (sI (sI κ.2.2.2.2 2 k0 k1) 3 k0 k2) 2 k0 k3) 3 k0 k4) 2 k0 from sR_nk (by decide)) (Eq.trans (show oR (sR (sR (sI (sI κ.2.2.2.2 2 k0 k1) 3 k0 k2) 2 k0 k3) 3 k0 k4) 2 k0 = oR (sR (sI (sI κ.2.2.2.2 2 k0 k1) 3 k0 k2) 2 k0 k3) 2 k0 from sR_nk (by decide)) sR_eq)))]; exact ht3) (by rw [(Eq.trans (show oR (sR (sR (sR (sR (sI (sI κ.2.2.2.2 2 k0 k1) 3 k0 k2) 2 k0 k3) 3 k0 k4) 4 k0 k5) 5 k0 k6) 3 k0 = oR (sR (sR (sR (sI (sI κ.2.2.2.2 2 k0 k1) 3 k0 k2) 2 k0 k3) 3 k0 k4) 4 k0 k5) 3 k0 from sR_nk (by decide)) (Eq.trans (show oR (sR (sR (sR (sI (sI κ.2.2.2.2 2 k0 k1) 3 k0 k2) 2 k0 k3) 3 k0 k4) 4 k0 k5) 3 k0 = oR (sR (sR (sI (sI κ.2.2.2.2 2 k0 k1) 3 k0 k2) 2 k0 k3) 3 k0 k4) 3 k0 from sR_nk (by decide)) sR_eq))]; exact ht4) (by rw [(Eq.trans (show oR (sR (sR (sR (sR (sI (sI κ.2.2.2.2 2 k0 k1) 3 k0 k2) 2 k0 k3) 3 k0 k4) 4 k0 k5) 5 k0 k6) 4 k0 = oR (sR (sR (sR (sI (sI κ.2.2.2.2 2 k0 k1) 3 k0 k2) 2 k0 k3) 3 k0 k4) 4 k0 k5) 4 k0 from sR_nk (by decide)) sR_eq)]; exact ht5) (by rw [sR_eq]; exact ht6) (by rw [(Eq.trans (show oR (sR (sR (sR (sR (sI (sI κ.2.2.2.2 2 k0 k1) 3 k0 k2) 2 k0 k3) 3 k0 k4) 4 k0 k5) 5 k0 k6) 3 k0 = oR (sR (sR (sR (sI (sI κ.2.2.2.2 2 k0 k1) 3 k0 k2) 2 k0 k3) 3 k0 k4) 4 k0 k5) 3 k0 from sR_nk (by decide)) (Eq.trans (show oR (sR (sR (sR (sI (sI κ.2.2.2.2 2 k0 k1) 3 k0 k2) 2 k0 k3) 3 k0 k4) 4 k0 k5) 3 k0 = oR (sR (sR (sI (sI κ.2.2.2.2 2 k0 k1) 3 k0 k2) 2 k0 k3) 3 k0 k4) 3 k0 from sR_nk (by decide)) sR_eq)), (Eq.trans (show oR (sR (sR (sR (sR (sI (sI κ.2.2.2.2 2 k0 k1) 3 k0 k2) 2 k0 k3) 3 k0 k4) 4 k0 k5) 5 k0 k6) 4 k0 = oR (sR (sR (sR (sI (sI κ.2.2.2.2 2 k0 k1) 3 k0 k2) 2 k0 k3) 3 k0 k4) 4 k0 k5) 4 k0 from sR_nk (by decide)) sR_eq), sR_eq]; exact Nat.le_refl _)
  have xpF : EXP (fun a => ¬ a = k0) κ.2.2.2.2 (sC (sT (sR (sR (sR (sR (sI (sI κ.2.2.2.2 2 k0 k1) 3 k0 k2) 2 k0 k3) 3 k0 k4) 4 k0 k5) 5 k0 k6) k0 2) k0 (1 + cto κ.2.2.2.2 k4 + cto κ.2.2.2.2 k5 + cto κ.2.2.2.2 k6)) := xpz6.trans XP.xC
  have kpF : KPx True κ.2.2.2.2 (sC (sT (sR (sR (sR (sR (sI (sI κ.2.2.2.2 2 k0 k1) 3 k0 k2) 2 k0 k3) 3 k0 k4) 4 k0 k5) 5 k0 k6) k0 2) k0 (1 + cto κ.2.2.2.2 k4 + cto κ.2.2.2.2 k5 + cto κ.2.2.2.2 k6)) := kpz6.fin9 (raw_le ht0 (by decide))
  have hP : CH D cy ad A (tP (tP (tP (tP (tP (tP (tP κ (sI κ.2.2.2.2 2 k0 k1)) (sI (sI κ.2.2.2.2 2 k0 k1) 3 k0 k2)) (sR (sI (sI κ.2.2.2.2 2 k0 k1) 3 k0 k2) 2 k0 k3)) (sR (sR (sI (sI κ.2.2.2.2 2 k0 k1) 3 k0 k2) 2 k0 k3) 3 k0 k4)) (sR (sR (sR (sI (sI κ.2.2.2.2 2 k0 k1) 3 k0 k2) 2 k0 k3) 3 k0 k4) 4 k0 k5)) (sR (sR (sR (sR (sI (sI κ.2.2.2.2 2 k0 k1) 3 k0 k2) 2 k0 k3) 3 k0 k4) 4 k0 k5) 5 k0 k6)) (sC (sT (sR (sR (sR (sR (sI (sI κ.2.2.2.2 2 k0 k1) 3 k0 k2) 2 k0 k3) 3 k0 k4) 4 k0 k5) 5 k0 k6) k0 2) k0 (1 + cto κ.2.2.2.2 k4 + cto κ.2.2.2.2 k5 + cto κ.2.2.2.2 k6))) H := hP
  have hP : CH D cy ad A (tP κ (sC (sT (sR (sR (sR (sR (sI (sI κ.2.2.2.2 2 k0 k1) 3 k0 k2) 2 k0 k3) 3 k0 k4) 4 k0 k5) 5 k0 k6) k0 2) k0 (1 + cto κ.2.2.2.2 k4 + cto κ.2.2.2.2 k5 + cto κ.2.2.2.2 k6))) H := CH.cong hP rfl rfl rfl rfl rfl rfl rfl rfl rfl rfl rfl rfl rfl rfl rfl rfl rfl rfl rfl rfl rfl rfl rfl rfl rfl rfl rfl
  exact c_retv C hsz hsl (sC (sT (sR (sR (sR (sR (sI (sI κ.2.2.2.2 2 k0 k1) 3 k0 k2) 2 k0 k3) 3 k0 k4) 4 k0 k5) 5 k0 k6) k0 2) k0 (1 + cto κ.2.2.2.2 k4 + cto κ.2.2.2.2 k5 + cto κ.2.2.2.2 k6)) ⟨⟨xpF, pvF, fin_T, kpF, fin_C⟩, ⟨(Eq.trans (show oI (sI (sI κ.2.2.2.2 2 k0 k1) 3 k0 k2) 2 k0 = oI (sI κ.2.2.2.2 2 k0 k1) 2 k0 from sI_nk (by decide)) sI_eq), (Eq.trans (show oI (sI (sI κ.2.2.2.2 2 k0 k1) 3 k0 k2) 5 k0 = oI (sI κ.2.2.2.2 2 k0 k1) 5 k0 from sI_nk (by decide)) (Eq.trans (show oI (sI κ.2.2.2.2 2 k0 k1) 5 k0 = oI κ.2.2.2.2 5 k0 from sI_nk (by decide)) hpre))⟩⟩ hP hS ⟨(Nat.le_of_ble_eq_true rfl), (Nat.le_of_ble_eq_true rfl)⟩ ⟨(Nat.le_of_ble_eq_true rfl), (Nat.le_of_ble_eq_true rfl)⟩ dX5_init_37

-- pre:X5_init@10 @10
theorem vX5_ofLiteral_1 (κ : KS) (q1 : Nat)  : oI (newP κ.2.2.2.2 q1 22) 5 q1 = 0 := by
  exact newP_zI
-- post @13
theorem vX5_ofLiteral_2 (κ : KS) (q1 : Nat) (P4 : PL) (hr3_4 : cto P4 (some q1) = 1 + cto (newP κ.2.2.2.2 q1 22) none + cto (newP κ.2.2.2.2 q1 22) none + cto (newP κ.2.2.2.2 q1 22) none) : cto P4 (some q1) = 1 := by
  have zc0 : cto (newP κ.2.2.2.2 q1 22) none = 0 := rfl
  first | assumption | omega | (subst_vars; omega) | trivial
-- post2 @13
theorem vX5_ofLiteral_3 (sa : Nat → Nat) (κ : KS) (k0 : Option Nat) (q1 : Nat) (P4 : PL) (ht0 : NT κ.2.2.2.2 1 k0) (hPV : PV sa κ.2.2.2.2) (exz2 : EX κ.2.2.2.2 (newP κ.2.2.2.2 q1 22)) (h0q1 : oT κ.2.2.2.2 q1 = 0) (exz5 : EX κ.2.2.2.2 P4) (hr3_2 : oT P4 q1 = 2) (hr3_3 : KPx True (newP κ.2.2.2.2 q1 22) P4) (hr3y_0 : oI P4 2 q1 = (1 : Int32)) (hr3y_1 : oI P4 5 q1 = 0) (hr3_4 : cto P4 (some q1) = 1 + cto (newP κ.2.2.2.2 q1 22) none + cto (newP κ.2.2.2.2 q1 22) none + cto (newP κ.2.2.2.2 q1 22) none) : oI P4 2 q1 = (1 : Int32) ∧ oI P4 5 q1 = 0 := by
  have qq1 : (1 : Int32).toInt = 1 := by decide +kernel
  have zc0 : cto (newP κ.2.2.2.2 q1 22) none = 0 := rfl
  refine ⟨?_, ?_⟩ <;> first | assumption | omega | (subst_vars; omega) | trivial
set_option maxHeartbeats 4000000 in
set_option maxRecDepth 100000 in
theorem NX5_ofLiteral (l : Launch) (D : va_G) (cy : Nat → ClassId) (ad : Nat → Nat) (A : Nat → Prop) (sz0 : Nat) (sa : Nat → Nat)  (κ : KS) (sz sl : Nat) (hAF : ∀ q, A q → Fr sz0 q) (hAn : ∀ q : Nat, sz ≤ q → A q) (k0 : Option Nat) (ht0 : NT κ.2.2.2.2 1 k0) (hPV : PV sa κ.2.2.2.2) : Met l yX5_ofLiteral (Cond.code yX5_ofLiteral cX5_ofLiteral 1 (some (.object "PhraseDesk$Node")) :: GWc) ({ frames := 2, cells := 1, slots := 8, locals := 46 }) (PcC D cy ad A sz0 sa [va_rf k0] κ sz sl) (va_Qq (fun (r : Option Nat) (u : PL) => ((EX κ.2.2.2.2 u) ∧ (PV sa u) ∧ (KPx True κ.2.2.2.2 u) ∧ (NN u 2 r) ∧ (cto u r = 1)) ∧ (oI u 2 (r.getD 0) = (1 : Int32) ∧ oI u 5 (r.getD 0) = 0)) (fun (u : PL) (t : State) => Bx D cy ad A sz sl (tP κ u) (1) (8) t) A) (1) (8) A := by
  refine CM_of (loc0 := [(0, va_rf k0)]) (own := RX5) (nm := "ofLiteral") (by decide) rfl rfl (by cases k0 <;> rfl) (by cases k0 <;> exact Nat.le_of_ble_eq_true rfl) hAF hAn ?_
  intro p e s m below meth c ls hsz hsl C hP hS hl
  refine cn_X5 C hP hS cw_548 cw_549 cw_415 ⟨(Nat.le_of_ble_eq_true rfl), (Nat.le_of_ble_eq_true rfl)⟩ dX5_ofLiteral_0 (fun q1 H h0q1 hP hS => ?_)
  have exz2 : EX κ.2.2.2.2 (newP κ.2.2.2.2 q1 22) := (EX.newP h0q1)
  have kpz2 : KPx True κ.2.2.2.2 (newP κ.2.2.2.2 q1 22) := KPx.rf.newP9 hPV h0q1
  have pvz2 : PV sa (newP κ.2.2.2.2 q1 22) := (hPV.raw h0q1 (by decide))
  refine lv_dup C.x C.b dX5_ofLiteral_3 rfl ?_
  refine lv_iconst (v := 1) C.x C.b dX5_ofLiteral_4 (by decide +kernel) ?_
  refine lv_iconst (v := 0) C.x C.b dX5_ofLiteral_5 (by decide +kernel) ?_
  refine lq_aload_n C.x C.b dX5_ofLiteral_6 rfl (lv_at hl 0 rfl) ?_
  refine lv_null C.x C.b dX5_ofLiteral_7 ?_
  refine lv_null C.x C.b dX5_ofLiteral_8 ?_
  refine lv_null C.x C.b dX5_ofLiteral_9 ?_
  refine c_callIv (C2 := "") (n := 6) (As := [.int 1, .int 0, va_rf k0, .null, .null, .null]) (rest := [.ref q1]) C hP hS hl.1 (NX5_init l D cy ad A sz0 sa (tP κ (newP κ.2.2.2.2 q1 22)) H.size (SLT H) C.f (fun q h => C.a q (Nat.le_trans hS.1 h)) q1 (1 : Int32) (0 : Int32) k0 none none none (by show oT (newP κ.2.2.2.2 q1 22) q1 = 22; rw [newP_T, if_pos rfl]) (exz2.nt ht0 (by decide)) nt_n nt_n nt_n pvz2 (vX5_ofLiteral_1 κ q1 )) ⟨cw_550, cw_541, by decide +kernel⟩ ⟨cw_551, cw_415⟩ rfl rfl rfl (lv_room (Nat.le_of_ble_eq_true rfl)) ⟨Nat.le_of_ble_eq_true rfl, Nat.le_of_ble_eq_true rfl⟩ ⟨(Nat.le_of_ble_eq_true rfl), (Nat.le_of_ble_eq_true rfl)⟩ dX5_ofLiteral_10 (fun u H locs hr3 hP hS => ?_)
  obtain ⟨P4, rfl⟩ : ∃ z, z = u := ⟨_, rfl⟩
  have hP : CH D cy ad A (tP (tP κ (newP κ.2.2.2.2 q1 22)) P4) H := hP
  obtain ⟨hr3, hr3y⟩ := hr3
  have hr3y : oI P4 2 q1 = (1 : Int32) ∧ oI P4 5 q1 = 0 := hr3y
  have hr3 : (EXP (fun a => ¬ a = q1) (newP κ.2.2.2.2 q1 22) P4) ∧ (PV sa P4) ∧ (oT P4 q1 = 2) ∧ (KPx True (newP κ.2.2.2.2 q1 22) P4) ∧ (cto P4 (some q1) = 1 + cto (newP κ.2.2.2.2 q1 22) none + cto (newP κ.2.2.2.2 q1 22) none + cto (newP κ.2.2.2.2 q1 22) none) := hr3
  obtain ⟨hr3_0, hr3_1, hr3_2, hr3_3, hr3_4⟩ := hr3
  have exz5 : EX κ.2.2.2.2 P4 := EX.cons exz2 h0q1 hr3_0
  have kpz6 : KPx True κ.2.2.2.2 P4 := kpz2.trans hr3_3
  obtain ⟨hr3y_0, hr3y_1⟩ := hr3y
  have hP : CH D cy ad A (tP κ P4) H := CH.cong hP rfl rfl rfl rfl rfl rfl rfl rfl rfl rfl rfl rfl rfl rfl rfl rfl rfl rfl rfl rfl rfl rfl rfl rfl rfl rfl rfl
  exact c_retq (v := (some q1)) (Or.inl ⟨_, rfl⟩) C hsz hsl P4 ⟨⟨exz5, hr3_1, kpz6, ⟨q1, rfl, hr3_2⟩, (vX5_ofLiteral_2 κ q1 P4 hr3_4)⟩, (vX5_ofLiteral_3 sa κ k0 q1 P4 ht0 hPV exz2 h0q1 exz5 hr3_2 hr3_3 hr3y_0 hr3y_1 hr3_4)⟩ hP hS ⟨(Nat.le_of_ble_eq_true rfl), (Nat.le_of_ble_eq_true rfl)⟩ ⟨(Nat.le_of_ble_eq_true rfl), (Nat.le_of_ble_eq_true rfl)⟩ dX5_ofLiteral_13

-- pre:X5_init@10 @10
theorem vX5_ofRoot_1 (κ : KS) (q1 : Nat)  : oI (newP κ.2.2.2.2 q1 22) 5 q1 = 0 := by
  exact newP_zI
-- post @13
theorem vX5_ofRoot_2 (κ : KS) (q1 : Nat) (P4 : PL) (hr3_4 : cto P4 (some q1) = 1 + cto (newP κ.2.2.2.2 q1 22) none + cto (newP κ.2.2.2.2 q1 22) none + cto (newP κ.2.2.2.2 q1 22) none) : cto P4 (some q1) = 1 := by
  have zc0 : cto (newP κ.2.2.2.2 q1 22) none = 0 := rfl
  first | assumption | omega | (subst_vars; omega) | trivial
-- post2 @13
theorem vX5_ofRoot_3 (sa : Nat → Nat) (κ : KS) (q1 : Nat) (P4 : PL) (hPV : PV sa κ.2.2.2.2) (exz2 : EX κ.2.2.2.2 (newP κ.2.2.2.2 q1 22)) (h0q1 : oT κ.2.2.2.2 q1 = 0) (exz5 : EX κ.2.2.2.2 P4) (hr3_2 : oT P4 q1 = 2) (hr3_3 : KPx True (newP κ.2.2.2.2 q1 22) P4) (hr3y_0 : oI P4 2 q1 = (2 : Int32)) (hr3y_1 : oI P4 5 q1 = 0) (hr3_4 : cto P4 (some q1) = 1 + cto (newP κ.2.2.2.2 q1 22) none + cto (newP κ.2.2.2.2 q1 22) none + cto (newP κ.2.2.2.2 q1 22) none) : oI P4 2 q1 = (2 : Int32) ∧ oI P4 5 q1 = 0 := by
  have q2 : (2 : Int32).toInt = 2 := by decide +kernel
  have zc0 : cto (newP κ.2.2.2.2 q1 22) none = 0 := rfl
  refine ⟨?_, ?_⟩ <;> first | assumption | omega | (subst_vars; omega) | trivial
set_option maxHeartbeats 4000000 in
set_option maxRecDepth 100000 in
theorem NX5_ofRoot (l : Launch) (D : va_G) (cy : Nat → ClassId) (ad : Nat → Nat) (A : Nat → Prop) (sz0 : Nat) (sa : Nat → Nat)  (κ : KS) (sz sl : Nat) (hAF : ∀ q, A q → Fr sz0 q) (hAn : ∀ q : Nat, sz ≤ q → A q)  (hPV : PV sa κ.2.2.2.2) : Met l yX5_ofRoot (Cond.code yX5_ofRoot cX5_ofRoot 0 (some (.object "PhraseDesk$Node")) :: GWc) ({ frames := 2, cells := 1, slots := 8, locals := 46 }) (PcC D cy ad A sz0 sa [] κ sz sl) (va_Qq (fun (r : Option Nat) (u : PL) => ((EX κ.2.2.2.2 u) ∧ (PV sa u) ∧ (KPx True κ.2.2.2.2 u) ∧ (NN u 2 r) ∧ (cto u r = 1)) ∧ (oI u 2 (r.getD 0) = (2 : Int32) ∧ oI u 5 (r.getD 0) = 0)) (fun (u : PL) (t : State) => Bx D cy ad A sz sl (tP κ u) (1) (8) t) A) (1) (8) A := by
  refine CM_of (loc0 := []) (own := RX5) (nm := "ofRoot") (by decide) rfl rfl rfl (Nat.le_of_ble_eq_true rfl) hAF hAn ?_
  intro p e s m below meth c ls hsz hsl C hP hS hl
  refine cn_X5 C hP hS cw_548 cw_549 cw_415 ⟨(Nat.le_of_ble_eq_true rfl), (Nat.le_of_ble_eq_true rfl)⟩ dX5_ofRoot_0 (fun q1 H h0q1 hP hS => ?_)
  have exz2 : EX κ.2.2.2.2 (newP κ.2.2.2.2 q1 22) := (EX.newP h0q1)
  have kpz2 : KPx True κ.2.2.2.2 (newP κ.2.2.2.2 q1 22) := KPx.rf.newP9 hPV h0q1
  have pvz2 : PV sa (newP κ.2.2.2.2 q1 22) := (hPV.raw h0q1 (by decide))
  refine lv_dup C.x C.b dX5_ofRoot_3 rfl ?_
  refine lv_iconst (v := 2) C.x C.b dX5_ofRoot_4 (by decide +kernel) ?_
  refine lv_iconst (v := 0) C.x C.b dX5_ofRoot_5 (by decide +kernel) ?_
  refine lv_null C.x C.b dX5_ofRoot_6 ?_
  refine lv_null C.x C.b dX5_ofRoot_7 ?_
  refine lv_null C.x C.b dX5_ofRoot_8 ?_
  refine lv_null C.x C.b dX5_ofRoot_9 ?_
  refine c_callIv (C2 := "") (n := 6) (As := [.int 2, .int 0, .null, .null, .null, .null]) (rest := [.ref q1]) C hP hS hl.1 (NX5_init l D cy ad A sz0 sa (tP κ (newP κ.2.2.2.2 q1 22)) H.size (SLT H) C.f (fun q h => C.a q (Nat.le_trans hS.1 h)) q1 (2 : Int32) (0 : Int32) none none none none (by show oT (newP κ.2.2.2.2 q1 22) q1 = 22; rw [newP_T, if_pos rfl]) nt_n nt_n nt_n nt_n pvz2 (vX5_ofRoot_1 κ q1 )) ⟨cw_550, cw_541, by decide +kernel⟩ ⟨cw_551, cw_415⟩ rfl rfl rfl (lv_room (Nat.le_of_ble_eq_true rfl)) ⟨Nat.le_of_ble_eq_true rfl, Nat.le_of_ble_eq_true rfl⟩ ⟨(Nat.le_of_ble_eq_true rfl), (Nat.le_of_ble_eq_true rfl)⟩ dX5_ofRoot_10 (fun u H locs hr3 hP hS => ?_)
  obtain ⟨P4, rfl⟩ : ∃ z, z = u := ⟨_, rfl⟩
  have hP : CH D cy ad A (tP (tP κ (newP κ.2.2.2.2 q1 22)) P4) H := hP
  obtain ⟨hr3, hr3y⟩ := hr3
  have hr3y : oI P4 2 q1 = (2 : Int32) ∧ oI P4 5 q1 = 0 := hr3y
  have hr3 : (EXP (fun a => ¬ a = q1) (newP κ.2.2.2.2 q1 22) P4) ∧ (PV sa P4) ∧ (oT P4 q1 = 2) ∧ (KPx True (newP κ.2.2.2.2 q1 22) P4) ∧ (cto P4 (some q1) = 1 + cto (newP κ.2.2.2.2 q1 22) none + cto (newP κ.2.2.2.2 q1 22) none + cto (newP κ.2.2.2.2 q1 22) none) := hr3
  obtain ⟨hr3_0, hr3_1, hr3_2, hr3_3, hr3_4⟩ := hr3
  have exz5 : EX κ.2.2.2.2 P4 := EX.cons exz2 h0q1 hr3_0
  have kpz6 : KPx True κ.2.2.2.2 P4 := kpz2.trans hr3_3
  obtain ⟨hr3y_0, hr3y_1⟩ := hr3y
  have hP : CH D cy ad A (tP κ P4) H := CH.cong hP rfl rfl rfl rfl rfl rfl rfl rfl rfl rfl rfl rfl rfl rfl rfl rfl rfl rfl rfl rfl rfl rfl rfl rfl rfl rfl rfl
  exact c_retq (v := (some q1)) (Or.inl ⟨_, rfl⟩) C hsz hsl P4 ⟨⟨exz5, hr3_1, kpz6, ⟨q1, rfl, hr3_2⟩, (vX5_ofRoot_2 κ q1 P4 hr3_4)⟩, (vX5_ofRoot_3 sa κ q1 P4 hPV exz2 h0q1 exz5 hr3_2 hr3_3 hr3y_0 hr3y_1 hr3_4)⟩ hP hS ⟨(Nat.le_of_ble_eq_true rfl), (Nat.le_of_ble_eq_true rfl)⟩ ⟨(Nat.le_of_ble_eq_true rfl), (Nat.le_of_ble_eq_true rfl)⟩ dX5_ofRoot_13

-- pre:X5_init@10 @10
theorem vX5_ofVariable_1 (κ : KS) (q1 : Nat)  : oI (newP κ.2.2.2.2 q1 22) 5 q1 = 0 := by
  exact newP_zI
-- post @13
theorem vX5_ofVariable_2 (κ : KS) (q1 : Nat) (P4 : PL) (hr3_4 : cto P4 (some q1) = 1 + cto (newP κ.2.2.2.2 q1 22) none + cto (newP κ.2.2.2.2 q1 22) none + cto (newP κ.2.2.2.2 q1 22) none) : cto P4 (some q1) = 1 := by
  have zc0 : cto (newP κ.2.2.2.2 q1 22) none = 0 := rfl
  first | assumption | omega | (subst_vars; omega) | trivial
-- post2 @13
theorem vX5_ofVariable_3 (sa : Nat → Nat) (κ : KS) (q1 : Nat) (P4 : PL) (hPV : PV sa κ.2.2.2.2) (exz2 : EX κ.2.2.2.2 (newP κ.2.2.2.2 q1 22)) (h0q1 : oT κ.2.2.2.2 q1 = 0) (exz5 : EX κ.2.2.2.2 P4) (hr3_2 : oT P4 q1 = 2) (hr3_3 : KPx True (newP κ.2.2.2.2 q1 22) P4) (hr3y_0 : oI P4 2 q1 = (3 : Int32)) (hr3y_1 : oI P4 5 q1 = 0) (hr3_4 : cto P4 (some q1) = 1 + cto (newP κ.2.2.2.2 q1 22) none + cto (newP κ.2.2.2.2 q1 22) none + cto (newP κ.2.2.2.2 q1 22) none) : oI P4 2 q1 = (3 : Int32) ∧ oI P4 5 q1 = 0 := by
  have q3 : (3 : Int32).toInt = 3 := by decide +kernel
  have zc0 : cto (newP κ.2.2.2.2 q1 22) none = 0 := rfl
  refine ⟨?_, ?_⟩ <;> first | assumption | omega | (subst_vars; omega) | trivial
set_option maxHeartbeats 4000000 in
set_option maxRecDepth 100000 in
theorem NX5_ofVariable (l : Launch) (D : va_G) (cy : Nat → ClassId) (ad : Nat → Nat) (A : Nat → Prop) (sz0 : Nat) (sa : Nat → Nat)  (κ : KS) (sz sl : Nat) (hAF : ∀ q, A q → Fr sz0 q) (hAn : ∀ q : Nat, sz ≤ q → A q) (k0 : Int32) (hPV : PV sa κ.2.2.2.2) : Met l yX5_ofVariable (Cond.code yX5_ofVariable cX5_ofVariable 1 (some (.object "PhraseDesk$Node")) :: GWc) ({ frames := 2, cells := 1, slots := 8, locals := 46 }) (PcC D cy ad A sz0 sa [.int k0] κ sz sl) (va_Qq (fun (r : Option Nat) (u : PL) => ((EX κ.2.2.2.2 u) ∧ (PV sa u) ∧ (KPx True κ.2.2.2.2 u) ∧ (NN u 2 r) ∧ (cto u r = 1)) ∧ (oI u 2 (r.getD 0) = (3 : Int32) ∧ oI u 5 (r.getD 0) = 0)) (fun (u : PL) (t : State) => Bx D cy ad A sz sl (tP κ u) (1) (8) t) A) (1) (8) A := by
  refine CM_of (loc0 := [(0, .int k0)]) (own := RX5) (nm := "ofVariable") (by decide) rfl rfl rfl (Nat.le_of_ble_eq_true rfl) hAF hAn ?_
  intro p e s m below meth c ls hsz hsl C hP hS hl
  refine cn_X5 C hP hS cw_548 cw_549 cw_415 ⟨(Nat.le_of_ble_eq_true rfl), (Nat.le_of_ble_eq_true rfl)⟩ dX5_ofVariable_0 (fun q1 H h0q1 hP hS => ?_)
  have exz2 : EX κ.2.2.2.2 (newP κ.2.2.2.2 q1 22) := (EX.newP h0q1)
  have kpz2 : KPx True κ.2.2.2.2 (newP κ.2.2.2.2 q1 22) := KPx.rf.newP9 hPV h0q1
  have pvz2 : PV sa (newP κ.2.2.2.2 q1 22) := (hPV.raw h0q1 (by decide))
  refine lv_dup C.x C.b dX5_ofVariable_3 rfl ?_
  refine lv_iconst (v := 3) C.x C.b dX5_ofVariable_4 (by decide +kernel) ?_
  refine lv_iload_n C.x C.b dX5_ofVariable_5 rfl (lv_at hl 0 rfl) ?_
  refine lv_null C.x C.b dX5_ofVariable_6 ?_
  refine lv_null C.x C.b dX5_ofVariable_7 ?_
  refine lv_null C.x C.b dX5_ofVariable_8 ?_
  refine lv_null C.x C.b dX5_ofVariable_9 ?_
  refine c_callIv (C2 := "") (n := 6) (As := [.int 3, .int k0, .null, .null, .null, .null]) (rest := [.ref q1]) C hP hS hl.1 (NX5_init l D cy ad A sz0 sa (tP κ (newP κ.2.2.2.2 q1 22)) H.size (SLT H) C.f (fun q h => C.a q (Nat.le_trans hS.1 h)) q1 (3 : Int32) k0 none none none none (by show oT (newP κ.2.2.2.2 q1 22) q1 = 22; rw [newP_T, if_pos rfl]) nt_n nt_n nt_n nt_n pvz2 (vX5_ofVariable_1 κ q1 )) ⟨cw_550, cw_541, by decide +kernel⟩ ⟨cw_551, cw_415⟩ rfl rfl rfl (lv_room (Nat.le_of_ble_eq_true rfl)) ⟨Nat.le_of_ble_eq_true rfl, Nat.le_of_ble_eq_true rfl⟩ ⟨(Nat.le_of_ble_eq_true rfl), (Nat.le_of_ble_eq_true rfl)⟩ dX5_ofVariable_10 (fun u H locs hr3 hP hS => ?_)
  obtain ⟨P4, rfl⟩ : ∃ z, z = u := ⟨_, rfl⟩
  have hP : CH D cy ad A (tP (tP κ (newP κ.2.2.2.2 q1 22)) P4) H := hP
  obtain ⟨hr3, hr3y⟩ := hr3
  have hr3y : oI P4 2 q1 = (3 : Int32) ∧ oI P4 5 q1 = 0 := hr3y
  have hr3 : (EXP (fun a => ¬ a = q1) (newP κ.2.2.2.2 q1 22) P4) ∧ (PV sa P4) ∧ (oT P4 q1 = 2) ∧ (KPx True (newP κ.2.2.2.2 q1 22) P4) ∧ (cto P4 (some q1) = 1 + cto (newP κ.2.2.2.2 q1 22) none + cto (newP κ.2.2.2.2 q1 22) none + cto (newP κ.2.2.2.2 q1 22) none) := hr3
  obtain ⟨hr3_0, hr3_1, hr3_2, hr3_3, hr3_4⟩ := hr3
  have exz5 : EX κ.2.2.2.2 P4 := EX.cons exz2 h0q1 hr3_0
  have kpz6 : KPx True κ.2.2.2.2 P4 := kpz2.trans hr3_3
  obtain ⟨hr3y_0, hr3y_1⟩ := hr3y
  have hP : CH D cy ad A (tP κ P4) H := CH.cong hP rfl rfl rfl rfl rfl rfl rfl rfl rfl rfl rfl rfl rfl rfl rfl rfl rfl rfl rfl rfl rfl rfl rfl rfl rfl rfl rfl
  exact c_retq (v := (some q1)) (Or.inl ⟨_, rfl⟩) C hsz hsl P4 ⟨⟨exz5, hr3_1, kpz6, ⟨q1, rfl, hr3_2⟩, (vX5_ofVariable_2 κ q1 P4 hr3_4)⟩, (vX5_ofVariable_3 sa κ q1 P4 hPV exz2 h0q1 exz5 hr3_2 hr3_3 hr3y_0 hr3y_1 hr3_4)⟩ hP hS ⟨(Nat.le_of_ble_eq_true rfl), (Nat.le_of_ble_eq_true rfl)⟩ ⟨(Nat.le_of_ble_eq_true rfl), (Nat.le_of_ble_eq_true rfl)⟩ dX5_ofVariable_13

-- pre:X5_init@10 @10
theorem vX5_ofProperty_1 (κ : KS) (k0 : Option Nat) (q1 : Nat) (kc3 : cto (newP κ.2.2.2.2 q1 22) k0 = cto κ.2.2.2.2 k0) : oI (newP κ.2.2.2.2 q1 22) 5 q1 = 0 := by
  exact newP_zI
-- post @13
theorem vX5_ofProperty_2 (κ : KS) (k0 : Option Nat) (q1 : Nat) (P5 : PL) (kc3 : cto (newP κ.2.2.2.2 q1 22) k0 = cto κ.2.2.2.2 k0) (kc7 : cto P5 k0 = cto κ.2.2.2.2 k0) (hr4_4 : cto P5 (some q1) = 1 + cto (newP κ.2.2.2.2 q1 22) k0 + cto (newP κ.2.2.2.2 q1 22) none + cto (newP κ.2.2.2.2 q1 22) none) : cto P5 (some q1) = 1 + cto κ.2.2.2.2 k0 := by
  have zc0 : cto (newP κ.2.2.2.2 q1 22) none = 0 := rfl
  first | assumption | omega | (subst_vars; omega) | trivial
-- post2 @13
theorem vX5_ofProperty_3 (sa : Nat → Nat) (κ : KS) (k0 : Option Nat) (q1 : Nat) (P5 : PL) (ht0 : NT κ.2.2.2.2 2 k0) (hPV : PV sa κ.2.2.2.2) (kc3 : cto (newP κ.2.2.2.2 q1 22) k0 = cto κ.2.2.2.2 k0) (exz2 : EX κ.2.2.2.2 (newP κ.2.2.2.2 q1 22)) (h0q1 : oT κ.2.2.2.2 q1 = 0) (exz6 : EX κ.2.2.2.2 P5) (kc7 : cto P5 k0 = cto κ.2.2.2.2 k0) (hr4_2 : oT P5 q1 = 2) (hr4_3 : KPx True (newP κ.2.2.2.2 q1 22) P5) (hr4y_0 : oI P5 2 q1 = (4 : Int32)) (hr4y_1 : oI P5 5 q1 = 0) (hr4_4 : cto P5 (some q1) = 1 + cto (newP κ.2.2.2.2 q1 22) k0 + cto (newP κ.2.2.2.2 q1 22) none + cto (newP κ.2.2.2.2 q1 22) none) : oI P5 2 q1 = (4 : Int32) ∧ oI P5 5 q1 = 0 := by
  have q4 : (4 : Int32).toInt = 4 := by decide +kernel
  have zc0 : cto (newP κ.2.2.2.2 q1 22) none = 0 := rfl
  refine ⟨?_, ?_⟩ <;> first | assumption | omega | (subst_vars; omega) | trivial
set_option maxHeartbeats 4000000 in
set_option maxRecDepth 100000 in
theorem NX5_ofProperty (l : Launch) (D : va_G) (cy : Nat → ClassId) (ad : Nat → Nat) (A : Nat → Prop) (sz0 : Nat) (sa : Nat → Nat)  (κ : KS) (sz sl : Nat) (hAF : ∀ q, A q → Fr sz0 q) (hAn : ∀ q : Nat, sz ≤ q → A q) (k0 : Option Nat) (k1 : Int32) (ht0 : NT κ.2.2.2.2 2 k0) (hPV : PV sa κ.2.2.2.2) : Met l yX5_ofProperty (Cond.code yX5_ofProperty cX5_ofProperty 2 (some (.object "PhraseDesk$Node")) :: GWc) ({ frames := 2, cells := 1, slots := 8, locals := 46 }) (PcC D cy ad A sz0 sa [va_rf k0, .int k1] κ sz sl) (va_Qq (fun (r : Option Nat) (u : PL) => ((EX κ.2.2.2.2 u) ∧ (PV sa u) ∧ (KPx True κ.2.2.2.2 u) ∧ (NN u 2 r) ∧ (cto u r = 1 + cto κ.2.2.2.2 k0)) ∧ (oI u 2 (r.getD 0) = (4 : Int32) ∧ oI u 5 (r.getD 0) = 0)) (fun (u : PL) (t : State) => Bx D cy ad A sz sl (tP κ u) (1) (8) t) A) (1) (8) A := by
  refine CM_of (loc0 := [(0, va_rf k0), (1, .int k1)]) (own := RX5) (nm := "ofProperty") (by decide) rfl rfl (by cases k0 <;> rfl) (by cases k0 <;> exact Nat.le_of_ble_eq_true rfl) hAF hAn ?_
  intro p e s m below meth c ls hsz hsl C hP hS hl
  refine cn_X5 C hP hS cw_548 cw_549 cw_415 ⟨(Nat.le_of_ble_eq_true rfl), (Nat.le_of_ble_eq_true rfl)⟩ dX5_ofProperty_0 (fun q1 H h0q1 hP hS => ?_)
  have exz2 : EX κ.2.2.2.2 (newP κ.2.2.2.2 q1 22) := (EX.newP h0q1)
  have kc3 : cto (newP κ.2.2.2.2 q1 22) k0 = cto κ.2.2.2.2 k0 := exz2.ct ht0 (by decide)
  have kpz2 : KPx True κ.2.2.2.2 (newP κ.2.2.2.2 q1 22) := KPx.rf.newP9 hPV h0q1
  have pvz2 : PV sa (newP κ.2.2.2.2 q1 22) := (hPV.raw h0q1 (by decide))
  refine lv_dup C.x C.b dX5_ofProperty_3 rfl ?_
  refine lv_iconst (v := 4) C.x C.b dX5_ofProperty_4 (by decide +kernel) ?_
  refine lv_iload_n C.x C.b dX5_ofProperty_5 rfl (lv_at hl 1 rfl) ?_
  refine lv_null C.x C.b dX5_ofProperty_6 ?_
  refine lq_aload_n C.x C.b dX5_ofProperty_7 rfl (lv_at hl 0 rfl) ?_
  refine lv_null C.x C.b dX5_ofProperty_8 ?_
  refine lv_null C.x C.b dX5_ofProperty_9 ?_
  refine c_callIv (C2 := "") (n := 6) (As := [.int 4, .int k1, .null, va_rf k0, .null, .null]) (rest := [.ref q1]) C hP hS hl.1 (NX5_init l D cy ad A sz0 sa (tP κ (newP κ.2.2.2.2 q1 22)) H.size (SLT H) C.f (fun q h => C.a q (Nat.le_trans hS.1 h)) q1 (4 : Int32) k1 none k0 none none (by show oT (newP κ.2.2.2.2 q1 22) q1 = 22; rw [newP_T, if_pos rfl]) nt_n (exz2.nt ht0 (by decide)) nt_n nt_n pvz2 (vX5_ofProperty_1 κ k0 q1 kc3)) ⟨cw_550, cw_541, by decide +kernel⟩ ⟨cw_551, cw_415⟩ rfl rfl rfl (lv_room (Nat.le_of_ble_eq_true rfl)) ⟨Nat.le_of_ble_eq_true rfl, Nat.le_of_ble_eq_true rfl⟩ ⟨(Nat.le_of_ble_eq_true rfl), (Nat.le_of_ble_eq_true rfl)⟩ dX5_ofProperty_10 (fun u H locs hr4 hP hS => ?_)
  obtain ⟨P5, rfl⟩ : ∃ z, z = u := ⟨_, rfl⟩
  have hP : CH D cy ad A (tP (tP κ (newP κ.2.2.2.2 q1 22)) P5) H := hP
  obtain ⟨hr4, hr4y⟩ := hr4
  have hr4y : oI P5 2 q1 = (4 : Int32) ∧ oI P5 5 q1 = 0 := hr4y
  have hr4 : (EXP (fun a => ¬ a = q1) (newP κ.2.2.2.2 q1 22) P5) ∧ (PV sa P5) ∧ (oT P5 q1 = 2) ∧ (KPx True (newP κ.2.2.2.2 q1 22) P5) ∧ (cto P5 (some q1) = 1 + cto (newP κ.2.2.2.2 q1 22) k0 + cto (newP κ.2.2.2.2 q1 22) none + cto (newP κ.2.2.2.2 q1 22) none) := hr4
  obtain ⟨hr4_0, hr4_1, hr4_2, hr4_3, hr4_4⟩ := hr4
  have exz6 : EX κ.2.2.2.2 P5 := EX.cons exz2 h0q1 hr4_0
  have kc7 : cto P5 k0 = cto κ.2.2.2.2 k0 := exz6.ct ht0 (by decide)
  have kpz8 : KPx True κ.2.2.2.2 P5 := kpz2.trans hr4_3
  obtain ⟨hr4y_0, hr4y_1⟩ := hr4y
  have hP : CH D cy ad A (tP κ P5) H := CH.cong hP rfl rfl rfl rfl rfl rfl rfl rfl rfl rfl rfl rfl rfl rfl rfl rfl rfl rfl rfl rfl rfl rfl rfl rfl rfl rfl rfl
  exact c_retq (v := (some q1)) (Or.inl ⟨_, rfl⟩) C hsz hsl P5 ⟨⟨exz6, hr4_1, kpz8, ⟨q1, rfl, hr4_2⟩, (vX5_ofProperty_2 κ k0 q1 P5 kc3 kc7 hr4_4)⟩, (vX5_ofProperty_3 sa κ k0 q1 P5 ht0 hPV kc3 exz2 h0q1 exz6 kc7 hr4_2 hr4_3 hr4y_0 hr4y_1 hr4_4)⟩ hP hS ⟨(Nat.le_of_ble_eq_true rfl), (Nat.le_of_ble_eq_true rfl)⟩ ⟨(Nat.le_of_ble_eq_true rfl), (Nat.le_of_ble_eq_true rfl)⟩ dX5_ofProperty_13

-- pre:X5_init@10 @10
theorem vX5_ofCall_1 (κ : KS) (k0 : Option Nat) (k2 : Option Nat) (k3 : Option Nat) (q1 : Nat) (kc3 : cto (newP κ.2.2.2.2 q1 22) k0 = cto κ.2.2.2.2 k0) (kc4 : cto (newP κ.2.2.2.2 q1 22) k2 = cto κ.2.2.2.2 k2) (kc5 : cto (newP κ.2.2.2.2 q1 22) k3 = cto κ.2.2.2.2 k3) : oI (newP κ.2.2.2.2 q1 22) 5 q1 = 0 := by
  exact newP_zI
-- post @13
theorem vX5_ofCall_2 (κ : KS) (k0 : Option Nat) (k2 : Option Nat) (k3 : Option Nat) (q1 : Nat) (P7 : PL) (kc3 : cto (newP κ.2.2.2.2 q1 22) k0 = cto κ.2.2.2.2 k0) (kc4 : cto (newP κ.2.2.2.2 q1 22) k2 = cto κ.2.2.2.2 k2) (kc5 : cto (newP κ.2.2.2.2 q1 22) k3 = cto κ.2.2.2.2 k3) (kc9 : cto P7 k0 = cto κ.2.2.2.2 k0) (kc10 : cto P7 k2 = cto κ.2.2.2.2 k2) (kc11 : cto P7 k3 = cto κ.2.2.2.2 k3) (hr6_4 : cto P7 (some q1) = 1 + cto (newP κ.2.2.2.2 q1 22) k0 + cto (newP κ.2.2.2.2 q1 22) k2 + cto (newP κ.2.2.2.2 q1 22) k3) : cto P7 (some q1) = 1 + cto κ.2.2.2.2 k0 + cto κ.2.2.2.2 k2 + cto κ.2.2.2.2 k3 := by
  first | assumption | omega | (subst_vars; omega) | trivial
-- post2 @13
theorem vX5_ofCall_3 (sa : Nat → Nat) (κ : KS) (k0 : Option Nat) (k2 : Option Nat) (k3 : Option Nat) (q1 : Nat) (P7 : PL) (ht0 : NT κ.2.2.2.2 2 k0) (ht2 : NT κ.2.2.2.2 2 k2) (ht3 : NT κ.2.2.2.2 2 k3) (hPV : PV sa κ.2.2.2.2) (kc3 : cto (newP κ.2.2.2.2 q1 22) k0 = cto κ.2.2.2.2 k0) (kc4 : cto (newP κ.2.2.2.2 q1 22) k2 = cto κ.2.2.2.2 k2) (kc5 : cto (newP κ.2.2.2.2 q1 22) k3 = cto κ.2.2.2.2 k3) (exz2 : EX κ.2.2.2.2 (newP κ.2.2.2.2 q1 22)) (h0q1 : oT κ.2.2.2.2 q1 = 0) (exz8 : EX κ.2.2.2.2 P7) (kc9 : cto P7 k0 = cto κ.2.2.2.2 k0) (kc10 : cto P7 k2 = cto κ.2.2.2.2 k2) (kc11 : cto P7 k3 = cto κ.2.2.2.2 k3) (hr6_2 : oT P7 q1 = 2) (hr6_3 : KPx True (newP κ.2.2.2.2 q1 22) P7) (hr6y_0 : oI P7 2 q1 = (5 : Int32)) (hr6y_1 : oI P7 5 q1 = 0) (hr6_4 : cto P7 (some q1) = 1 + cto (newP κ.2.2.2.2 q1 22) k0 + cto (newP κ.2.2.2.2 q1 22) k2 + cto (newP κ.2.2.2.2 q1 22) k3) : oI P7 2 q1 = (5 : Int32) ∧ oI P7 5 q1 = 0 := by
  have q5 : (5 : Int32).toInt = 5 := by decide +kernel
  refine ⟨?_, ?_⟩ <;> first | assumption | omega | (subst_vars; omega) | trivial
set_option maxHeartbeats 4000000 in
set_option maxRecDepth 100000 in
theorem NX5_ofCall (l : Launch) (D : va_G) (cy : Nat → ClassId) (ad : Nat → Nat) (A : Nat → Prop) (sz0 : Nat) (sa : Nat → Nat)  (κ : KS) (sz sl : Nat) (hAF : ∀ q, A q → Fr sz0 q) (hAn : ∀ q : Nat, sz ≤ q → A q) (k0 : Option Nat) (k1 : Int32) (k2 : Option Nat) (k3 : Option Nat) (ht0 : NT κ.2.2.2.2 2 k0) (ht2 : NT κ.2.2.2.2 2 k2) (ht3 : NT κ.2.2.2.2 2 k3) (hPV : PV sa κ.2.2.2.2) : Met l yX5_ofCall (Cond.code yX5_ofCall cX5_ofCall 4 (some (.object "PhraseDesk$Node")) :: GWc) ({ frames := 2, cells := 1, slots := 8, locals := 46 }) (PcC D cy ad A sz0 sa [va_rf k0, .int k1, va_rf k2, va_rf k3] κ sz sl) (va_Qq (fun (r : Option Nat) (u : PL) => ((EX κ.2.2.2.2 u) ∧ (PV sa u) ∧ (KPx True κ.2.2.2.2 u) ∧ (NN u 2 r) ∧ (cto u r = 1 + cto κ.2.2.2.2 k0 + cto κ.2.2.2.2 k2 + cto κ.2.2.2.2 k3)) ∧ (oI u 2 (r.getD 0) = (5 : Int32) ∧ oI u 5 (r.getD 0) = 0)) (fun (u : PL) (t : State) => Bx D cy ad A sz sl (tP κ u) (1) (8) t) A) (1) (8) A := by
  refine CM_of (loc0 := [(0, va_rf k0), (1, .int k1), (2, va_rf k2), (3, va_rf k3)]) (own := RX5) (nm := "ofCall") (by decide) rfl rfl (by cases k0 <;> cases k2 <;> cases k3 <;> rfl) (by cases k0 <;> cases k2 <;> cases k3 <;> exact Nat.le_of_ble_eq_true rfl) hAF hAn ?_
  intro p e s m below meth c ls hsz hsl C hP hS hl
  refine cn_X5 C hP hS cw_548 cw_549 cw_415 ⟨(Nat.le_of_ble_eq_true rfl), (Nat.le_of_ble_eq_true rfl)⟩ dX5_ofCall_0 (fun q1 H h0q1 hP hS => ?_)
  have exz2 : EX κ.2.2.2.2 (newP κ.2.2.2.2 q1 22) := (EX.newP h0q1)
  have kc3 : cto (newP κ.2.2.2.2 q1 22) k0 = cto κ.2.2.2.2 k0 := exz2.ct ht0 (by decide)
  have kc4 : cto (newP κ.2.2.2.2 q1 22) k2 = cto κ.2.2.2.2 k2 := exz2.ct ht2 (by decide)
  have kc5 : cto (newP κ.2.2.2.2 q1 22) k3 = cto κ.2.2.2.2 k3 := exz2.ct ht3 (by decide)
  have kpz2 : KPx True κ.2.2.2.2 (newP κ.2.2.2.2 q1 22) := KPx.rf.newP9 hPV h0q1
  have pvz2 : PV sa (newP κ.2.2.2.2 q1 22) := (hPV.raw h0q1 (by decide))
  refine lv_dup C.x C.b dX5_ofCall_3 rfl ?_
  refine lv_iconst (v := 5) C.x C.b dX5_ofCall_4 (by decide +kernel) ?_
  refine lv_iload_n C.x C.b dX5_ofCall_5 rfl (lv_at hl 1 rfl) ?_
  refine lv_null C.x C.b dX5_ofCall_6 ?_
  refine lq_aload_n C.x C.b dX5_ofCall_7 rfl (lv_at hl 0 rfl) ?_
  refine lq_aload_n C.x C.b dX5_ofCall_8 rfl (lv_at hl 2 rfl) ?_
  refine lq_aload_n C.x C.b dX5_ofCall_9 rfl (lv_at hl 3 rfl) ?_
  refine c_callIv (C2 := "") (n := 6) (As := [.int 5, .int k1, .null, va_rf k0, va_rf k2, va_rf k3]) (rest := [.ref q1]) C hP hS hl.1 (NX5_init l D cy ad A sz0 sa (tP κ (newP κ.2.2.2.2 q1 22)) H.size (SLT H) C.f (fun q h => C.a q (Nat.le_trans hS.1 h)) q1 (5 : Int32) k1 none k0 k2 k3 (by show oT (newP κ.2.2.2.2 q1 22) q1 = 22; rw [newP_T, if_pos rfl]) nt_n (exz2.nt ht0 (by decide)) (exz2.nt ht2 (by decide)) (exz2.nt ht3 (by decide)) pvz2 (vX5_ofCall_1 κ k0 k2 k3 q1 kc3 kc4 kc5)) ⟨cw_550, cw_541, by decide +kernel⟩ ⟨cw_551, cw_415⟩ rfl rfl rfl (lv_room (Nat.le_of_ble_eq_true rfl)) ⟨Nat.le_of_ble_eq_true rfl, Nat.le_of_ble_eq_true rfl⟩ ⟨(Nat.le_of_ble_eq_true rfl), (Nat.le_of_ble_eq_true rfl)⟩ dX5_ofCall_10 (fun u H locs hr6 hP hS => ?_)
  obtain ⟨P7, rfl⟩ : ∃ z, z = u := ⟨_, rfl⟩
  have hP : CH D cy ad A (tP (tP κ (newP κ.2.2.2.2 q1 22)) P7) H := hP
  obtain ⟨hr6, hr6y⟩ := hr6
  have hr6y : oI P7 2 q1 = (5 : Int32) ∧ oI P7 5 q1 = 0 := hr6y
  have hr6 : (EXP (fun a => ¬ a = q1) (newP κ.2.2.2.2 q1 22) P7) ∧ (PV sa P7) ∧ (oT P7 q1 = 2) ∧ (KPx True (newP κ.2.2.2.2 q1 22) P7) ∧ (cto P7 (some q1) = 1 + cto (newP κ.2.2.2.2 q1 22) k0 + cto (newP κ.2.2.2.2 q1 22) k2 + cto (newP κ.2.2.2.2 q1 22) k3) := hr6
  obtain ⟨hr6_0, hr6_1, hr6_2, hr6_3, hr6_4⟩ := hr6
  have exz8 : EX κ.2.2.2.2 P7 := EX.cons exz2 h0q1 hr6_0
  have kc9 : cto P7 k0 = cto κ.2.2.2.2 k0 := exz8.ct ht0 (by decide)
  have kc10 : cto P7 k2 = cto κ.2.2.2.2 k2 := exz8.ct ht2 (by decide)
  have kc11 : cto P7 k3 = cto κ.2.2.2.2 k3 := exz8.ct ht3 (by decide)
  have kpz12 : KPx True κ.2.2.2.2 P7 := kpz2.trans hr6_3
  obtain ⟨hr6y_0, hr6y_1⟩ := hr6y
  have hP : CH D cy ad A (tP κ P7) H := CH.cong hP rfl rfl rfl rfl rfl rfl rfl rfl rfl rfl rfl rfl rfl rfl rfl rfl rfl rfl rfl rfl rfl rfl rfl rfl rfl rfl rfl
  exact c_retq (v := (some q1)) (Or.inl ⟨_, rfl⟩) C hsz hsl P7 ⟨⟨exz8, hr6_1, kpz12, ⟨q1, rfl, hr6_2⟩, (vX5_ofCall_2 κ k0 k2 k3 q1 P7 kc3 kc4 kc5 kc9 kc10 kc11 hr6_4)⟩, (vX5_ofCall_3 sa κ k0 k2 k3 q1 P7 ht0 ht2 ht3 hPV kc3 kc4 kc5 exz2 h0q1 exz8 kc9 kc10 kc11 hr6_2 hr6_3 hr6y_0 hr6y_1 hr6_4)⟩ hP hS ⟨(Nat.le_of_ble_eq_true rfl), (Nat.le_of_ble_eq_true rfl)⟩ ⟨(Nat.le_of_ble_eq_true rfl), (Nat.le_of_ble_eq_true rfl)⟩ dX5_ofCall_13

-- pre:X5_init@10 @10
theorem vX5_ofOperator_1 (κ : KS) (k1 : Option Nat) (k2 : Option Nat) (k3 : Option Nat) (q1 : Nat) (kc3 : cto (newP κ.2.2.2.2 q1 22) k1 = cto κ.2.2.2.2 k1) (kc4 : cto (newP κ.2.2.2.2 q1 22) k2 = cto κ.2.2.2.2 k2) (kc5 : cto (newP κ.2.2.2.2 q1 22) k3 = cto κ.2.2.2.2 k3) : oI (newP κ.2.2.2.2 q1 22) 5 q1 = 0 := by
  exact newP_zI
-- post @13
theorem vX5_ofOperator_2 (κ : KS) (k1 : Option Nat) (k2 : Option Nat) (k3 : Option Nat) (q1 : Nat) (P7 : PL) (kc3 : cto (newP κ.2.2.2.2 q1 22) k1 = cto κ.2.2.2.2 k1) (kc4 : cto (newP κ.2.2.2.2 q1 22) k2 = cto κ.2.2.2.2 k2) (kc5 : cto (newP κ.2.2.2.2 q1 22) k3 = cto κ.2.2.2.2 k3) (kc9 : cto P7 k1 = cto κ.2.2.2.2 k1) (kc10 : cto P7 k2 = cto κ.2.2.2.2 k2) (kc11 : cto P7 k3 = cto κ.2.2.2.2 k3) (hr6_4 : cto P7 (some q1) = 1 + cto (newP κ.2.2.2.2 q1 22) k1 + cto (newP κ.2.2.2.2 q1 22) k2 + cto (newP κ.2.2.2.2 q1 22) k3) : cto P7 (some q1) = 1 + cto κ.2.2.2.2 k1 + cto κ.2.2.2.2 k2 + cto κ.2.2.2.2 k3 := by
  first | assumption | omega | (subst_vars; omega) | trivial
-- post2 @13
theorem vX5_ofOperator_3 (sa : Nat → Nat) (κ : KS) (k0 : Int32) (k1 : Option Nat) (k2 : Option Nat) (k3 : Option Nat) (q1 : Nat) (P7 : PL) (ht1 : NT κ.2.2.2.2 2 k1) (ht2 : NT κ.2.2.2.2 2 k2) (ht3 : NT κ.2.2.2.2 2 k3) (hPV : PV sa κ.2.2.2.2) (kc3 : cto (newP κ.2.2.2.2 q1 22) k1 = cto κ.2.2.2.2 k1) (kc4 : cto (newP κ.2.2.2.2 q1 22) k2 = cto κ.2.2.2.2 k2) (kc5 : cto (newP κ.2.2.2.2 q1 22) k3 = cto κ.2.2.2.2 k3) (exz2 : EX κ.2.2.2.2 (newP κ.2.2.2.2 q1 22)) (h0q1 : oT κ.2.2.2.2 q1 = 0) (exz8 : EX κ.2.2.2.2 P7) (kc9 : cto P7 k1 = cto κ.2.2.2.2 k1) (kc10 : cto P7 k2 = cto κ.2.2.2.2 k2) (kc11 : cto P7 k3 = cto κ.2.2.2.2 k3) (hr6_2 : oT P7 q1 = 2) (hr6_3 : KPx True (newP κ.2.2.2.2 q1 22) P7) (hr6y_0 : oI P7 2 q1 = k0) (hr6y_1 : oI P7 5 q1 = 0) (hr6_4 : cto P7 (some q1) = 1 + cto (newP κ.2.2.2.2 q1 22) k1 + cto (newP κ.2.2.2.2 q1 22) k2 + cto (newP κ.2.2.2.2 q1 22) k3) : oI P7 2 q1 = k0 ∧ oI P7 5 q1 = 0 := by
  refine ⟨?_, ?_⟩ <;> first | assumption | omega | (subst_vars; omega) | trivial
set_option maxHeartbeats 4000000 in
set_option maxRecDepth 100000 in
theorem NX5_ofOperator (l : Launch) (D : va_G) (cy : Nat → ClassId) (ad : Nat → Nat) (A : Nat → Prop) (sz0 : Nat) (sa : Nat → Nat)  (κ : KS) (sz sl : Nat) (hAF : ∀ q, A q → Fr sz0 q) (hAn : ∀ q : Nat, sz ≤ q → A q) (k0 : Int32) (k1 : Option Nat) (k2 : Option Nat) (k3 : Option Nat) (ht1 : NT κ.2.2.2.2 2 k1) (ht2 : NT κ.2.2.2.2 2 k2) (ht3 : NT κ.2.2.2.2 2 k3) (hPV : PV sa κ.2.2.2.2) : Met l yX5_ofOperator (Cond.code yX5_ofOperator cX5_ofOperator 4 (some (.object "PhraseDesk$Node")) :: GWc) ({ frames := 2, cells := 1, slots := 8, locals := 46 }) (PcC D cy ad A sz0 sa [.int k0, va_rf k1, va_rf k2, va_rf k3] κ sz sl) (va_Qq (fun (r : Option Nat) (u : PL) => ((EX κ.2.2.2.2 u) ∧ (PV sa u) ∧ (KPx True κ.2.2.2.2 u) ∧ (NN u 2 r) ∧ (cto u r = 1 + cto κ.2.2.2.2 k1 + cto κ.2.2.2.2 k2 + cto κ.2.2.2.2 k3)) ∧ (oI u 2 (r.getD 0) = k0 ∧ oI u 5 (r.getD 0) = 0)) (fun (u : PL) (t : State) => Bx D cy ad A sz sl (tP κ u) (1) (8) t) A) (1) (8) A := by
  refine CM_of (loc0 := [(0, .int k0), (1, va_rf k1), (2, va_rf k2), (3, va_rf k3)]) (own := RX5) (nm := "ofOperator") (by decide) rfl rfl (by cases k1 <;> cases k2 <;> cases k3 <;> rfl) (by cases k1 <;> cases k2 <;> cases k3 <;> exact Nat.le_of_ble_eq_true rfl) hAF hAn ?_
  intro p e s m below meth c ls hsz hsl C hP hS hl
  refine cn_X5 C hP hS cw_548 cw_549 cw_415 ⟨(Nat.le_of_ble_eq_true rfl), (Nat.le_of_ble_eq_true rfl)⟩ dX5_ofOperator_0 (fun q1 H h0q1 hP hS => ?_)
  have exz2 : EX κ.2.2.2.2 (newP κ.2.2.2.2 q1 22) := (EX.newP h0q1)
  have kc3 : cto (newP κ.2.2.2.2 q1 22) k1 = cto κ.2.2.2.2 k1 := exz2.ct ht1 (by decide)
  have kc4 : cto (newP κ.2.2.2.2 q1 22) k2 = cto κ.2.2.2.2 k2 := exz2.ct ht2 (by decide)
  have kc5 : cto (newP κ.2.2.2.2 q1 22) k3 = cto κ.2.2.2.2 k3 := exz2.ct ht3 (by decide)
  have kpz2 : KPx True κ.2.2.2.2 (newP κ.2.2.2.2 q1 22) := KPx.rf.newP9 hPV h0q1
  have pvz2 : PV sa (newP κ.2.2.2.2 q1 22) := (hPV.raw h0q1 (by decide))
  refine lv_dup C.x C.b dX5_ofOperator_3 rfl ?_
  refine lv_iload_n C.x C.b dX5_ofOperator_4 rfl (lv_at hl 0 rfl) ?_
  refine lv_iconst (v := 0) C.x C.b dX5_ofOperator_5 (by decide +kernel) ?_
  refine lv_null C.x C.b dX5_ofOperator_6 ?_
  refine lq_aload_n C.x C.b dX5_ofOperator_7 rfl (lv_at hl 1 rfl) ?_
  refine lq_aload_n C.x C.b dX5_ofOperator_8 rfl (lv_at hl 2 rfl) ?_
  refine lq_aload_n C.x C.b dX5_ofOperator_9 rfl (lv_at hl 3 rfl) ?_
  refine c_callIv (C2 := "") (n := 6) (As := [.int k0, .int 0, .null, va_rf k1, va_rf k2, va_rf k3]) (rest := [.ref q1]) C hP hS hl.1 (NX5_init l D cy ad A sz0 sa (tP κ (newP κ.2.2.2.2 q1 22)) H.size (SLT H) C.f (fun q h => C.a q (Nat.le_trans hS.1 h)) q1 k0 (0 : Int32) none k1 k2 k3 (by show oT (newP κ.2.2.2.2 q1 22) q1 = 22; rw [newP_T, if_pos rfl]) nt_n (exz2.nt ht1 (by decide)) (exz2.nt ht2 (by decide)) (exz2.nt ht3 (by decide)) pvz2 (vX5_ofOperator_1 κ k1 k2 k3 q1 kc3 kc4 kc5)) ⟨cw_550, cw_541, by decide +kernel⟩ ⟨cw_551, cw_415⟩ rfl rfl rfl (lv_room (Nat.le_of_ble_eq_true rfl)) ⟨Nat.le_of_ble_eq_true rfl, Nat.le_of_ble_eq_true rfl⟩ ⟨(Nat.le_of_ble_eq_true rfl), (Nat.le_of_ble_eq_true rfl)⟩ dX5_ofOperator_10 (fun u H locs hr6 hP hS => ?_)
  obtain ⟨P7, rfl⟩ : ∃ z, z = u := ⟨_, rfl⟩
  have hP : CH D cy ad A (tP (tP κ (newP κ.2.2.2.2 q1 22)) P7) H := hP
  obtain ⟨hr6, hr6y⟩ := hr6
  have hr6y : oI P7 2 q1 = k0 ∧ oI P7 5 q1 = 0 := hr6y
  have hr6 : (EXP (fun a => ¬ a = q1) (newP κ.2.2.2.2 q1 22) P7) ∧ (PV sa P7) ∧ (oT P7 q1 = 2) ∧ (KPx True (newP κ.2.2.2.2 q1 22) P7) ∧ (cto P7 (some q1) = 1 + cto (newP κ.2.2.2.2 q1 22) k1 + cto (newP κ.2.2.2.2 q1 22) k2 + cto (newP κ.2.2.2.2 q1 22) k3) := hr6
  obtain ⟨hr6_0, hr6_1, hr6_2, hr6_3, hr6_4⟩ := hr6
  have exz8 : EX κ.2.2.2.2 P7 := EX.cons exz2 h0q1 hr6_0
  have kc9 : cto P7 k1 = cto κ.2.2.2.2 k1 := exz8.ct ht1 (by decide)
  have kc10 : cto P7 k2 = cto κ.2.2.2.2 k2 := exz8.ct ht2 (by decide)
  have kc11 : cto P7 k3 = cto κ.2.2.2.2 k3 := exz8.ct ht3 (by decide)
  have kpz12 : KPx True κ.2.2.2.2 P7 := kpz2.trans hr6_3
  obtain ⟨hr6y_0, hr6y_1⟩ := hr6y
  have hP : CH D cy ad A (tP κ P7) H := CH.cong hP rfl rfl rfl rfl rfl rfl rfl rfl rfl rfl rfl rfl rfl rfl rfl rfl rfl rfl rfl rfl rfl rfl rfl rfl rfl rfl rfl
  exact c_retq (v := (some q1)) (Or.inl ⟨_, rfl⟩) C hsz hsl P7 ⟨⟨exz8, hr6_1, kpz12, ⟨q1, rfl, hr6_2⟩, (vX5_ofOperator_2 κ k1 k2 k3 q1 P7 kc3 kc4 kc5 kc9 kc10 kc11 hr6_4)⟩, (vX5_ofOperator_3 sa κ k0 k1 k2 k3 q1 P7 ht1 ht2 ht3 hPV kc3 kc4 kc5 exz2 h0q1 exz8 kc9 kc10 kc11 hr6_2 hr6_3 hr6y_0 hr6y_1 hr6_4)⟩ hP hS ⟨(Nat.le_of_ble_eq_true rfl), (Nat.le_of_ble_eq_true rfl)⟩ ⟨(Nat.le_of_ble_eq_true rfl), (Nat.le_of_ble_eq_true rfl)⟩ dX5_ofOperator_13

set_option maxHeartbeats 4000000 in
set_option maxRecDepth 100000 in
theorem NX5_arguments (l : Launch) (D : va_G) (cy : Nat → ClassId) (ad : Nat → Nat) (A : Nat → Prop) (sz0 : Nat) (sa : Nat → Nat)  (κ : KS) (sz sl : Nat) (hAF : ∀ q, A q → Fr sz0 q) (hAn : ∀ q : Nat, sz ≤ q → A q) (k0 : Nat) (ht0 : oT κ.2.2.2.2 k0 = 2) (hPV : PV sa κ.2.2.2.2) : Met l yX5_arguments (Cond.code yX5_arguments cX5_arguments 1 (some .int) :: GWc) ({ frames := 0, cells := 0, slots := 0, locals := 0 }) (PcC D cy ad A sz0 sa [.ref k0] κ sz sl) (va_Qi (fun (r : Int32) (u : Unit) => True) (fun (u : Unit) (t : State) => Bx D cy ad A sz sl κ (0) (0) t) A) (0) (0) A := by
  refine CM_of (loc0 := [(0, .ref k0)]) (own := RX5) (nm := "arguments") (by decide) rfl rfl rfl (Nat.le_of_ble_eq_true rfl) hAF hAn ?_
  intro p e s m below meth c ls hsz hsl C hP hS hl
  refine lv_aload_n C.x C.b dX5_arguments_0 rfl (lv_at hl 0 rfl) ?_
  obtain ⟨x1, ex1⟩ : ∃ z, oR κ.2.2.2.2 4 k0 = z := ⟨_, rfl⟩
  refine pg_X5_4 (v := x1) C hP (t20 (a := k0) (t := 2) ht0) ex1 cw_417 dX5_arguments_1 ?_
  have tx1 : NT κ.2.2.2.2 2 x1 := by rw [← ex1]; exact (hPV.t2 ht0).2.2.1
  cases x1 with
  | none =>
    refine lv_ifnonnullN C.x C.b dX5_arguments_4 ?_
    refine lv_iconst (v := 0) C.x C.b dX5_arguments_7 (by decide +kernel) ?_
    refine lv_goto (tgt := 23) C.x C.b dX5_arguments_8 (by decide) ?_
    exact c_reti C hsz hsl () trivial hP hS ⟨(Nat.le_of_ble_eq_true rfl), (Nat.le_of_ble_eq_true rfl)⟩ ⟨(Nat.le_of_ble_eq_true rfl), (Nat.le_of_ble_eq_true rfl)⟩ dX5_arguments_23
  | some b2 =>
    have hb2 : oT κ.2.2.2.2 b2 = 2 := tx1 b2 rfl
    refine lv_ifnonnull (tgt := 11) C.x C.b dX5_arguments_4 (by decide) ?_
    refine lv_aload_n C.x C.b dX5_arguments_11 rfl (lv_at hl 0 rfl) ?_
    obtain ⟨x3, ex3⟩ : ∃ z, oR κ.2.2.2.2 5 k0 = z := ⟨_, rfl⟩
    refine pg_X5_5 (v := x3) C hP (t20 (a := k0) (t := 2) ht0) ex3 cw_418 dX5_arguments_12 ?_
    have tx3 : NT κ.2.2.2.2 2 x3 := by rw [← ex3]; exact (hPV.t2 ht0).2.2.2.1
    cases x3 with
    | none =>
      refine lv_ifnonnullN C.x C.b dX5_arguments_15 ?_
      refine lv_iconst (v := 1) C.x C.b dX5_arguments_18 (by decide +kernel) ?_
      refine lv_goto (tgt := 23) C.x C.b dX5_arguments_19 (by decide) ?_
      exact c_reti C hsz hsl () trivial hP hS ⟨(Nat.le_of_ble_eq_true rfl), (Nat.le_of_ble_eq_true rfl)⟩ ⟨(Nat.le_of_ble_eq_true rfl), (Nat.le_of_ble_eq_true rfl)⟩ dX5_arguments_23
    | some b4 =>
      have hb4 : oT κ.2.2.2.2 b4 = 2 := tx3 b4 rfl
      refine lv_ifnonnull (tgt := 22) C.x C.b dX5_arguments_15 (by decide) ?_
      refine lv_iconst (v := 2) C.x C.b dX5_arguments_22 (by decide +kernel) ?_
      exact c_reti C hsz hsl () trivial hP hS ⟨(Nat.le_of_ble_eq_true rfl), (Nat.le_of_ble_eq_true rfl)⟩ ⟨(Nat.le_of_ble_eq_true rfl), (Nat.le_of_ble_eq_true rfl)⟩ dX5_arguments_23

-- retz @28
theorem vX5_canBeSet_1   : 0 ≤ (0 : Int32).toInt ∧ (0 : Int32).toInt ≤ 1 := by
  have q0 : (0 : Int32).toInt = 0 := by decide +kernel
  refine ⟨?_, ?_⟩ <;> first | assumption | omega | (subst_vars; omega) | trivial
-- post2 @28
theorem vX5_canBeSet_2 (sa : Nat → Nat) (κ : KS) (k0 : Nat) (x1 : Int32) (ht0 : oT κ.2.2.2.2 k0 = 2) (hPV : PV sa κ.2.2.2.2) (ex1 : oI κ.2.2.2.2 5 k0 = x1) (c2 : ¬ x1.toInt = 0) : ((0 : Int32).toInt = 0 → ¬ (((oI κ.2.2.2.2 2 k0).toInt = 3 ∨ (oI κ.2.2.2.2 2 k0).toInt = 4) ∧ (oI κ.2.2.2.2 5 k0).toInt = 0)) ∧ (¬ (0 : Int32).toInt = 0 → (((oI κ.2.2.2.2 2 k0).toInt = 3 ∨ (oI κ.2.2.2.2 2 k0).toInt = 4) ∧ (oI κ.2.2.2.2 5 k0).toInt = 0)) := by
  have q0 : (0 : Int32).toInt = 0 := by decide +kernel
  refine ⟨fun h9 => ?_, fun h9 => ?_⟩ <;> first | omega | (subst_vars; omega)
-- retz @28
theorem vX5_canBeSet_3   : 0 ≤ (1 : Int32).toInt ∧ (1 : Int32).toInt ≤ 1 := by
  have q1 : (1 : Int32).toInt = 1 := by decide +kernel
  refine ⟨?_, ?_⟩ <;> first | assumption | omega | (subst_vars; omega) | trivial
-- post2 @28
theorem vX5_canBeSet_4 (sa : Nat → Nat) (κ : KS) (k0 : Nat) (x1 : Int32) (x3 : Int32) (ht0 : oT κ.2.2.2.2 k0 = 2) (hPV : PV sa κ.2.2.2.2) (ex1 : oI κ.2.2.2.2 5 k0 = x1) (c2 : x1.toInt = 0) (ex3 : oI κ.2.2.2.2 2 k0 = x3) (c4 : x3.toInt = 3) : ((1 : Int32).toInt = 0 → ¬ (((oI κ.2.2.2.2 2 k0).toInt = 3 ∨ (oI κ.2.2.2.2 2 k0).toInt = 4) ∧ (oI κ.2.2.2.2 5 k0).toInt = 0)) ∧ (¬ (1 : Int32).toInt = 0 → (((oI κ.2.2.2.2 2 k0).toInt = 3 ∨ (oI κ.2.2.2.2 2 k0).toInt = 4) ∧ (oI κ.2.2.2.2 5 k0).toInt = 0)) := by
  have q1 : (1 : Int32).toInt = 1 := by decide +kernel
  refine ⟨fun h9 => ?_, fun h9 => ?_⟩ <;> first | omega | (subst_vars; omega)
-- post2 @28
theorem vX5_canBeSet_5 (sa : Nat → Nat) (κ : KS) (k0 : Nat) (x1 : Int32) (x3 : Int32) (ht0 : oT κ.2.2.2.2 k0 = 2) (hPV : PV sa κ.2.2.2.2) (ex1 : oI κ.2.2.2.2 5 k0 = x1) (c2 : x1.toInt = 0) (ex3 : oI κ.2.2.2.2 2 k0 = x3) (c4 : ¬ x3.toInt = 3) (c5 : ¬ x3.toInt = 4) : ((0 : Int32).toInt = 0 → ¬ (((oI κ.2.2.2.2 2 k0).toInt = 3 ∨ (oI κ.2.2.2.2 2 k0).toInt = 4) ∧ (oI κ.2.2.2.2 5 k0).toInt = 0)) ∧ (¬ (0 : Int32).toInt = 0 → (((oI κ.2.2.2.2 2 k0).toInt = 3 ∨ (oI κ.2.2.2.2 2 k0).toInt = 4) ∧ (oI κ.2.2.2.2 5 k0).toInt = 0)) := by
  have q0 : (0 : Int32).toInt = 0 := by decide +kernel
  refine ⟨fun h9 => ?_, fun h9 => ?_⟩ <;> first | omega | (subst_vars; omega)
-- post2 @28
theorem vX5_canBeSet_6 (sa : Nat → Nat) (κ : KS) (k0 : Nat) (x1 : Int32) (x3 : Int32) (ht0 : oT κ.2.2.2.2 k0 = 2) (hPV : PV sa κ.2.2.2.2) (ex1 : oI κ.2.2.2.2 5 k0 = x1) (c2 : x1.toInt = 0) (ex3 : oI κ.2.2.2.2 2 k0 = x3) (c4 : ¬ x3.toInt = 3) (c5 : x3.toInt = 4) : ((1 : Int32).toInt = 0 → ¬ (((oI κ.2.2.2.2 2 k0).toInt = 3 ∨ (oI κ.2.2.2.2 2 k0).toInt = 4) ∧ (oI κ.2.2.2.2 5 k0).toInt = 0)) ∧ (¬ (1 : Int32).toInt = 0 → (((oI κ.2.2.2.2 2 k0).toInt = 3 ∨ (oI κ.2.2.2.2 2 k0).toInt = 4) ∧ (oI κ.2.2.2.2 5 k0).toInt = 0)) := by
  have q1 : (1 : Int32).toInt = 1 := by decide +kernel
  refine ⟨fun h9 => ?_, fun h9 => ?_⟩ <;> first | omega | (subst_vars; omega)
set_option maxHeartbeats 4000000 in
set_option maxRecDepth 100000 in
theorem NX5_canBeSet (l : Launch) (D : va_G) (cy : Nat → ClassId) (ad : Nat → Nat) (A : Nat → Prop) (sz0 : Nat) (sa : Nat → Nat)  (κ : KS) (sz sl : Nat) (hAF : ∀ q, A q → Fr sz0 q) (hAn : ∀ q : Nat, sz ≤ q → A q) (k0 : Nat) (ht0 : oT κ.2.2.2.2 k0 = 2) (hPV : PV sa κ.2.2.2.2) : Met l yX5_canBeSet (Cond.code yX5_canBeSet cX5_canBeSet 1 (some .boolean) :: GWc) ({ frames := 0, cells := 0, slots := 0, locals := 0 }) (PcC D cy ad A sz0 sa [.ref k0] κ sz sl) (va_Qi (fun (r : Int32) (u : Unit) => ((0 ≤ r.toInt ∧ r.toInt ≤ 1)) ∧ ((r.toInt = 0 → ¬ (((oI κ.2.2.2.2 2 k0).toInt = 3 ∨ (oI κ.2.2.2.2 2 k0).toInt = 4) ∧ (oI κ.2.2.2.2 5 k0).toInt = 0)) ∧ (¬ r.toInt = 0 → (((oI κ.2.2.2.2 2 k0).toInt = 3 ∨ (oI κ.2.2.2.2 2 k0).toInt = 4) ∧ (oI κ.2.2.2.2 5 k0).toInt = 0)))) (fun (u : Unit) (t : State) => Bx D cy ad A sz sl κ (0) (0) t) A) (0) (0) A := by
  refine CM_of (loc0 := [(0, .ref k0)]) (own := RX5) (nm := "canBeSet") (by decide) rfl rfl rfl (Nat.le_of_ble_eq_true rfl) hAF hAn ?_
  intro p e s m below meth c ls hsz hsl C hP hS hl
  refine lv_aload_n C.x C.b dX5_canBeSet_0 rfl (lv_at hl 0 rfl) ?_
  obtain ⟨x1, ex1⟩ : ∃ z, oI κ.2.2.2.2 5 k0 = z := ⟨_, rfl⟩
  refine pg_X5_7 (v := x1) C hP (t20 (a := k0) (t := 2) ht0) ex1 cw_558 dX5_canBeSet_1 ?_
  refine lv_if_ne (tgt := 27) C.x C.b dX5_canBeSet_4 (by decide) (fun c2 => ?_) (fun c2 => ?_)
  · have c2 : ¬ x1.toInt = 0 := by have h := z_ne c2; rw [show (0 : Int32).toInt = 0 from by decide +kernel] at h; exact h
    refine lv_iconst (v := 0) C.x C.b dX5_canBeSet_27 (by decide +kernel) ?_
    exact c_retz (ty := .boolean) (hv := rfl) C hsz hsl () ⟨(vX5_canBeSet_1  ), (vX5_canBeSet_2 sa κ k0 x1 ht0 hPV ex1 c2)⟩ hP hS ⟨(Nat.le_of_ble_eq_true rfl), (Nat.le_of_ble_eq_true rfl)⟩ ⟨(Nat.le_of_ble_eq_true rfl), (Nat.le_of_ble_eq_true rfl)⟩ dX5_canBeSet_28
  · have c2 : x1.toInt = 0 := by have h := z_eq c2; rw [show (0 : Int32).toInt = 0 from by decide +kernel] at h; exact h
    refine lv_aload_n C.x C.b dX5_canBeSet_7 rfl (lv_at hl 0 rfl) ?_
    obtain ⟨x3, ex3⟩ : ∃ z, oI κ.2.2.2.2 2 k0 = z := ⟨_, rfl⟩
    refine pg_X5_0 (v := x3) C hP (t20 (a := k0) (t := 2) ht0) ex3 cw_543 dX5_canBeSet_8 ?_
    refine lv_iconst (v := 3) C.x C.b dX5_canBeSet_11 (by decide +kernel) ?_
    refine lv_icmp_eq (tgt := 23) C.x C.b dX5_canBeSet_12 (by decide) (fun c4 => ?_) (fun c4 => ?_)
    · have c4 : x3.toInt = 3 := by have h := z_eq c4; rw [show (3 : Int32).toInt = 3 from by decide +kernel] at h; exact h
      refine lv_iconst (v := 1) C.x C.b dX5_canBeSet_23 (by decide +kernel) ?_
      refine lv_goto (tgt := 28) C.x C.b dX5_canBeSet_24 (by decide) ?_
      exact c_retz (ty := .boolean) (hv := rfl) C hsz hsl () ⟨(vX5_canBeSet_3  ), (vX5_canBeSet_4 sa κ k0 x1 x3 ht0 hPV ex1 c2 ex3 c4)⟩ hP hS ⟨(Nat.le_of_ble_eq_true rfl), (Nat.le_of_ble_eq_true rfl)⟩ ⟨(Nat.le_of_ble_eq_true rfl), (Nat.le_of_ble_eq_true rfl)⟩ dX5_canBeSet_28
    · have c4 : ¬ x3.toInt = 3 := by have h := z_ne c4; rw [show (3 : Int32).toInt = 3 from by decide +kernel] at h; exact h
      refine lv_aload_n C.x C.b dX5_canBeSet_15 rfl (lv_at hl 0 rfl) ?_
      refine pg_X5_0 (v := x3) C hP (t20 (a := k0) (t := 2) ht0) ex3 cw_543 dX5_canBeSet_16 ?_
      refine lv_iconst (v := 4) C.x C.b dX5_canBeSet_19 (by decide +kernel) ?_
      refine lv_icmp_ne (tgt := 27) C.x C.b dX5_canBeSet_20 (by decide) (fun c5 => ?_) (fun c5 => ?_)
      · have c5 : ¬ x3.toInt = 4 := by have h := z_ne c5; rw [show (4 : Int32).toInt = 4 from by decide +kernel] at h; exact h
        refine lv_iconst (v := 0) C.x C.b dX5_canBeSet_27 (by decide +kernel) ?_
        exact c_retz (ty := .boolean) (hv := rfl) C hsz hsl () ⟨(vX5_canBeSet_1  ), (vX5_canBeSet_5 sa κ k0 x1 x3 ht0 hPV ex1 c2 ex3 c4 c5)⟩ hP hS ⟨(Nat.le_of_ble_eq_true rfl), (Nat.le_of_ble_eq_true rfl)⟩ ⟨(Nat.le_of_ble_eq_true rfl), (Nat.le_of_ble_eq_true rfl)⟩ dX5_canBeSet_28
      · have c5 : x3.toInt = 4 := by have h := z_eq c5; rw [show (4 : Int32).toInt = 4 from by decide +kernel] at h; exact h
        refine lv_iconst (v := 1) C.x C.b dX5_canBeSet_23 (by decide +kernel) ?_
        refine lv_goto (tgt := 28) C.x C.b dX5_canBeSet_24 (by decide) ?_
        exact c_retz (ty := .boolean) (hv := rfl) C hsz hsl () ⟨(vX5_canBeSet_3  ), (vX5_canBeSet_6 sa κ k0 x1 x3 ht0 hPV ex1 c2 ex3 c4 c5)⟩ hP hS ⟨(Nat.le_of_ble_eq_true rfl), (Nat.le_of_ble_eq_true rfl)⟩ ⟨(Nat.le_of_ble_eq_true rfl), (Nat.le_of_ble_eq_true rfl)⟩ dX5_canBeSet_28
