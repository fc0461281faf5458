set_option maxHeartbeats 4000000 in
set_option maxRecDepth 100000 in
theorem NX2_init (l : Launch) (D : va_G) (cy : Nat → ClassId) (ad : Nat → Nat) (A : Nat → Prop) (sz0 : Nat) (sa : Nat → Nat)  (κ : KS) (sz sl : Nat) (hAF : ∀ q, A q → Fr sz0 q) (hAn : ∀ q : Nat, sz ≤ q → A q) (k0 : Nat) (k1 : Int32) (k2 : Int32) (k3 : Int32) (ht0 : oT κ.2.2.2.2 k0 = 24) (hPV : PV sa κ.2.2.2.2) : Met l yX2_init (Cond.code yX2_init cX2_init 4 none :: GWc) ({ frames := 1, cells := 0, slots := 0, locals := 20 }) (PcC D cy ad A sz0 sa [.ref k0, .int k1, .int k2, .int k3] κ sz sl) (va_Qv (fun (u : PL) => ((EXP (fun a => ¬ a = k0) κ.2.2.2.2 u) ∧ (PV sa u) ∧ (oT u k0 = 4) ∧ (KPx True κ.2.2.2.2 u) ∧ (oI u 10 k0 = k1)) ∧ (oI u 11 k0 = k2 ∧ oI u 12 k0 = k3)) (fun (u : PL) (t : State) => Bx D cy ad A sz sl (tP κ u) (0) (0) t) A) (0) (0) A := by
  refine CM_of (loc0 := [(0, .ref k0), (1, .int k1), (2, .int k2), (3, .int k3)]) (own := RX2) (nm := "<init>") (by decide) rfl rfl rfl (Nat.le_of_ble_eq_true rfl) hAF hAn ?_
  intro p e s m below meth c ls hsz hsl C hP hS hl
  refine lv_aload_n C.x C.b dX2_init_0 rfl (lv_at hl 0 rfl) ?_
  refine W.objInit C.x C.b C.o (C.w _ cw_392) (C.w _ cw_2) (C.w _ cw_3) rfl (by rw [C.ml]; exact hl.1) rfl dX2_init_1 (Nat.le_of_ble_eq_true rfl) (Nat.le_of_ble_eq_true rfl) ?_
  refine W.eq (g2 := F0 m 4 ls []) rfl ?_
  refine lv_aload_n C.x C.b dX2_init_4 rfl (lv_at hl 0 rfl) ?_
  refine lv_iload_n C.x C.b dX2_init_5 rfl (lv_at hl 1 rfl) ?_
  refine pp_X2_0 C rfl rfl hP hS (t20 (a := k0) (t := 24) ht0) cw_393 dX2_init_6 (fun H locs hP hS => ?_)
  have pvz1 : PV sa (sI κ.2.2.2.2 10 k0 k1) := hPV.rI (raw_le ht0 (by decide))
  have xpz1 : EXP (fun a => ¬ a = k0) κ.2.2.2.2 (sI κ.2.2.2.2 10 k0 k1) := XP.rf.trans XP.xI
  have kpz1 : KPx True κ.2.2.2.2 (sI κ.2.2.2.2 10 k0 k1) := KPx.rf.rI9 (raw_le ht0 (by decide))
  refine lv_aload_n C.x C.b dX2_init_9 rfl (lv_at hl 0 rfl) ?_
  refine lv_iload_n C.x C.b dX2_init_10 rfl (lv_at hl 2 rfl) ?_
  refine pp_X2_1 C rfl rfl hP hS (t20 (a := k0) (t := 24) ht0) cw_394 dX2_init_11 (fun H locs hP hS => ?_)
  have pvz2 : PV sa (sI (sI κ.2.2.2.2 10 k0 k1) 11 k0 k2) := pvz1.rI (raw_le ht0 (by decide))
  have xpz2 : EXP (fun a => ¬ a = k0) κ.2.2.2.2 (sI (sI κ.2.2.2.2 10 k0 k1) 11 k0 k2) := xpz1.trans XP.xI
  have kpz2 : KPx True κ.2.2.2.2 (sI (sI κ.2.2.2.2 10 k0 k1) 11 k0 k2) := kpz1.rI9 (raw_le ht0 (by decide))
  refine lv_aload_n C.x C.b dX2_init_14 rfl (lv_at hl 0 rfl) ?_
  refine lv_iload_n C.x C.b dX2_init_15 rfl (lv_at hl 3 rfl) ?_
  refine pp_X2_2 C rfl rfl hP hS (t20 (a := k0) (t := 24) ht0) cw_395 dX2_init_16 (fun H locs hP hS => ?_)
  have pvz3 : PV sa (sI (sI (sI κ.2.2.2.2 10 k0 k1) 11 k0 k2) 12 k0 k3) := pvz2.rI (raw_le ht0 (by decide))
  have xpz3 : EXP (fun a => ¬ a = k0) κ.2.2.2.2 (sI (sI (sI κ.2.2.2.2 10 k0 k1) 11 k0 k2) 12 k0 k3) := xpz2.trans XP.xI
  have kpz3 : KPx True κ.2.2.2.2 (sI (sI (sI κ.2.2.2.2 10 k0 k1) 11 k0 k2) 12 k0 k3) := kpz2.rI9 (raw_le ht0 (by decide))
  have hP := CH.fin (t := 4) (n := 0) hP (show oT (sI (sI (sI κ.2.2.2.2 10 k0 k1) 11 k0 k2) 12 k0 k3) k0 = 20 + 4 from ht0) (by decide)
  have pvF : PV sa (sC (sT (sI (sI (sI κ.2.2.2.2 10 k0 k1) 11 k0 k2) 12 k0 k3) k0 4) k0 (0)) := fin_45 pvz3 (by decide) ht0
  have xpF : EXP (fun a => ¬ a = k0) κ.2.2.2.2 (sC (sT (sI (sI (sI κ.2.2.2.2 10 k0 k1) 11 k0 k2) 12 k0 k3) k0 4) k0 (0)) := xpz3.trans XP.xC
  have kpF : KPx True κ.2.2.2.2 (sC (sT (sI (sI (sI κ.2.2.2.2 10 k0 k1) 11 k0 k2) 12 k0 k3) k0 4) k0 (0)) := kpz3.fin9 (raw_le ht0 (by decide))
  have hP : CH D cy ad A (tP (tP (tP (tP κ (sI κ.2.2.2.2 10 k0 k1)) (sI (sI κ.2.2.2.2 10 k0 k1) 11 k0 k2)) (sI (sI (sI κ.2.2.2.2 10 k0 k1) 11 k0 k2) 12 k0 k3)) (sC (sT (sI (sI (sI κ.2.2.2.2 10 k0 k1) 11 k0 k2) 12 k0 k3) k0 4) k0 (0))) H := hP
  have hP : CH D cy ad A (tP κ (sC (sT (sI (sI (sI κ.2.2.2.2 10 k0 k1) 11 k0 k2) 12 k0 k3) k0 4) k0 (0))) H := CH.cong hP rfl rfl rfl rfl rfl rfl rfl rfl rfl rfl rfl rfl rfl rfl rfl rfl rfl rfl rfl rfl rfl rfl rfl rfl rfl rfl rfl
  exact c_retv C hsz hsl (sC (sT (sI (sI (sI κ.2.2.2.2 10 k0 k1) 11 k0 k2) 12 k0 k3) k0 4) k0 (0)) ⟨⟨xpF, pvF, fin_T, kpF, (show oI (sI (sI (sI κ.2.2.2.2 10 k0 k1) 11 k0 k2) 12 k0 k3) 10 k0 = k1 from ((sI_nk (by decide)).trans ((sI_nk (by decide)).trans sI_eq)))⟩, ⟨(show oI (sI (sI (sI κ.2.2.2.2 10 k0 k1) 11 k0 k2) 12 k0 k3) 11 k0 = k2 from (by simp [oR, oI, oD, sR, sI, sD, va_up, upd, vf_upd])), (show oI (sI (sI (sI κ.2.2.2.2 10 k0 k1) 11 k0 k2) 12 k0 k3) 12 k0 = k3 from (by simp [oR, oI, oD, sR, sI, sD, va_up, upd, vf_upd]))⟩⟩ hP hS ⟨(Nat.le_of_ble_eq_true rfl), (Nat.le_of_ble_eq_true rfl)⟩ ⟨(Nat.le_of_ble_eq_true rfl), (Nat.le_of_ble_eq_true rfl)⟩ dX2_init_19

-- cnt2 @52
theorem vX7_init_1 (sa : Nat → Nat) (κ : KS) (k0 : Nat) (k2 : Int32) (k3 : Int32) (ht0 : oT κ.2.2.2.2 k0 = 25) (hPV : PV sa κ.2.2.2.2) (c4 : ¬ k2.toInt = 0) (c5 : ¬ k3.toInt = 0) : (2 : Int32).toInt = qCnt k2.toInt k3.toInt := by
  have q2 : (2 : Int32).toInt = 2 := by decide +kernel
  unfold qCnt
  first | (rw [if_pos (by omega)]; decide) | (rw [if_neg (by omega), if_pos (by omega)]; decide) | (rw [if_neg (by omega), if_neg (by omega)]; decide)
-- cnt2 @52
theorem vX7_init_2 (sa : Nat → Nat) (κ : KS) (k0 : Nat) (k2 : Int32) (k3 : Int32) (ht0 : oT κ.2.2.2.2 k0 = 25) (hPV : PV sa κ.2.2.2.2) (c4 : ¬ k2.toInt = 0) (c5 : k3.toInt = 0) : (1 : Int32).toInt = qCnt k2.toInt k3.toInt := by
  have q1 : (1 : Int32).toInt = 1 := by decide +kernel
  unfold qCnt
  first | (rw [if_pos (by omega)]; decide) | (rw [if_neg (by omega), if_pos (by omega)]; decide) | (rw [if_neg (by omega), if_neg (by omega)]; decide)
-- cnt2 @52
theorem vX7_init_3 (sa : Nat → Nat) (κ : KS) (k0 : Nat) (k2 : Int32) (k3 : Int32) (ht0 : oT κ.2.2.2.2 k0 = 25) (hPV : PV sa κ.2.2.2.2) (c4 : k2.toInt = 0) : (0 : Int32).toInt = qCnt k2.toInt k3.toInt := by
  have q0 : (0 : Int32).toInt = 0 := by decide +kernel
  unfold qCnt
  first | (rw [if_pos (by omega)]; decide) | (rw [if_neg (by omega), if_pos (by omega)]; decide) | (rw [if_neg (by omega), if_neg (by omega)]; decide)
set_option maxHeartbeats 4000000 in
set_option maxRecDepth 100000 in
theorem NX7_init (l : Launch) (D : va_G) (cy : Nat → ClassId) (ad : Nat → Nat) (A : Nat → Prop) (sz0 : Nat) (sa : Nat → Nat)  (κ : KS) (sz sl : Nat) (hAF : ∀ q, A q → Fr sz0 q) (hAn : ∀ q : Nat, sz ≤ q → A q) (k0 : Nat) (k1 : Int32) (k2 : Int32) (k3 : Int32) (k4 : Int32) (k5 : Int32) (ht0 : oT κ.2.2.2.2 k0 = 25) (hPV : PV sa κ.2.2.2.2) : Met l yX7_init (Cond.code yX7_init cX7_init 6 none :: GWc) ({ frames := 1, cells := 0, slots := 0, locals := 20 }) (PcC D cy ad A sz0 sa [.ref k0, .int k1, .int k2, .int k3, .int k4, .int k5] κ sz sl) (va_Qv (fun (u : PL) => ((EXP (fun a => ¬ a = k0) κ.2.2.2.2 u) ∧ (PV sa u) ∧ (oT u k0 = 5) ∧ (KPx True κ.2.2.2.2 u)) ∧ (oI u 13 k0 = k1 ∧ oI u 14 k0 = k2 ∧ oI u 15 k0 = k3 ∧ (oI u 16 k0).toInt = qCnt k2.toInt k3.toInt ∧ oI u 17 k0 = k4 ∧ oI u 18 k0 = k5)) (fun (u : PL) (t : State) => Bx D cy ad A sz sl (tP κ u) (0) (0) t) A) (0) (0) A := by
  refine CM_of (loc0 := [(0, .ref k0), (1, .int k1), (2, .int k2), (3, .int k3), (4, .int k4), (5, .int k5)]) (own := RX7) (nm := "<init>") (by decide) rfl rfl rfl (Nat.le_of_ble_eq_true rfl) hAF hAn ?_
  intro p e s m below meth c ls hsz hsl C hP hS hl
  refine lv_aload_n C.x C.b dX7_init_0 rfl (lv_at hl 0 rfl) ?_
  refine W.objInit C.x C.b C.o (C.w _ cw_668) (C.w _ cw_2) (C.w _ cw_3) rfl (by rw [C.ml]; exact hl.1) rfl dX7_init_1 (Nat.le_of_ble_eq_true rfl) (Nat.le_of_ble_eq_true rfl) ?_
  refine W.eq (g2 := F0 m 4 ls []) rfl ?_
  refine lv_aload_n C.x C.b dX7_init_4 rfl (lv_at hl 0 rfl) ?_
  refine lv_iload_n C.x C.b dX7_init_5 rfl (lv_at hl 1 rfl) ?_
  refine pp_X7_0 C rfl rfl hP hS (t20 (a := k0) (t := 25) ht0) cw_669 dX7_init_6 (fun H locs hP hS => ?_)
  have pvz1 : PV sa (sI κ.2.2.2.2 13 k0 k1) := hPV.rI (raw_le ht0 (by decide))
  have xpz1 : EXP (fun a => ¬ a = k0) κ.2.2.2.2 (sI κ.2.2.2.2 13 k0 k1) := XP.rf.trans XP.xI
  have kpz1 : KPx True κ.2.2.2.2 (sI κ.2.2.2.2 13 k0 k1) := KPx.rf.rI9 (raw_le ht0 (by decide))
  refine lv_aload_n C.x C.b dX7_init_9 rfl (lv_at hl 0 rfl) ?_
  refine lv_iload_n C.x C.b dX7_init_10 rfl (lv_at hl 2 rfl) ?_
  refine pp_X7_1 C rfl rfl hP hS (t20 (a := k0) (t := 25) ht0) cw_670 dX7_init_11 (fun H locs hP hS => ?_)
  have pvz2 : PV sa (sI (sI κ.2.2.2.2 13 k0 k1) 14 k0 k2) := pvz1.rI (raw_le ht0 (by decide))
  have xpz2 : EXP (fun a => ¬ a = k0) κ.2.2.2.2 (sI (sI κ.2.2.2.2 13 k0 k1) 14 k0 k2) := xpz1.trans XP.xI
  have kpz2 : KPx True κ.2.2.2.2 (sI (sI κ.2.2.2.2 13 k0 k1) 14 k0 k2) := kpz1.rI9 (raw_le ht0 (by decide))
  refine lv_aload_n C.x C.b dX7_init_14 rfl (lv_at hl 0 rfl) ?_
  refine lv_iload_n C.x C.b dX7_init_15 rfl (lv_at hl 3 rfl) ?_
  refine pp_X7_2 C rfl rfl hP hS (t20 (a := k0) (t := 25) ht0) cw_671 dX7_init_16 (fun H locs hP hS => ?_)
  have pvz3 : PV sa (sI (sI (sI κ.2.2.2.2 13 k0 k1) 14 k0 k2) 15 k0 k3) := pvz2.rI (raw_le ht0 (by decide))
  have xpz3 : EXP (fun a => ¬ a = k0) κ.2.2.2.2 (sI (sI (sI κ.2.2.2.2 13 k0 k1) 14 k0 k2) 15 k0 k3) := xpz2.trans XP.xI
  have kpz3 : KPx True κ.2.2.2.2 (sI (sI (sI κ.2.2.2.2 13 k0 k1) 14 k0 k2) 15 k0 k3) := kpz2.rI9 (raw_le ht0 (by decide))
  refine lv_aload_n C.x C.b dX7_init_19 rfl (lv_at hl 0 rfl) ?_
  refine lv_iload_n C.x C.b dX7_init_20 rfl (lv_at hl 2 rfl) ?_
  refine lv_if_ne (tgt := 28) C.x C.b dX7_init_21 (by decide) (fun c4 => ?_) (fun c4 => ?_)
  · have c4 : ¬ k2.toInt = 0 := by have h := z_ne c4; rw [show (0 : Int32).toInt = 0 from by decide +kernel] at h; exact h
    refine lv_iload_n C.x C.b dX7_init_28 rfl (lv_at hl 3 rfl) ?_
    refine lv_if_ne (tgt := 36) C.x C.b dX7_init_29 (by decide) (fun c5 => ?_) (fun c5 => ?_)
    · have c5 : ¬ k3.toInt = 0 := by have h := z_ne c5; rw [show (0 : Int32).toInt = 0 from by decide +kernel] at h; exact h
      refine lv_iconst (v := 2) C.x C.b dX7_init_36 (by decide +kernel) ?_
      refine pp_X7_3 C rfl rfl hP hS (t20 (a := k0) (t := 25) ht0) cw_672 dX7_init_37 (fun H locs hP hS => ?_)
      have pvz6 : PV sa (sI (sI (sI (sI κ.2.2.2.2 13 k0 k1) 14 k0 k2) 15 k0 k3) 16 k0 (2 : Int32)) := pvz3.rI (raw_le ht0 (by decide))
      have xpz6 : EXP (fun a => ¬ a = k0) κ.2.2.2.2 (sI (sI (sI (sI κ.2.2.2.2 13 k0 k1) 14 k0 k2) 15 k0 k3) 16 k0 (2 : Int32)) := xpz3.trans XP.xI
      have kpz6 : KPx True κ.2.2.2.2 (sI (sI (sI (sI κ.2.2.2.2 13 k0 k1) 14 k0 k2) 15 k0 k3) 16 k0 (2 : Int32)) := kpz3.rI9 (raw_le ht0 (by decide))
      refine lv_aload_n C.x C.b dX7_init_40 rfl (lv_at hl 0 rfl) ?_
      refine lv_iload C.x C.b dX7_init_41 (lv_at hl 4 rfl) ?_
      refine pp_X7_4 C rfl rfl hP hS (t20 (a := k0) (t := 25) ht0) cw_673 dX7_init_43 (fun H locs hP hS => ?_)
      have pvz7 : PV sa (sI (sI (sI (sI (sI κ.2.2.2.2 13 k0 k1) 14 k0 k2) 15 k0 k3) 16 k0 (2 : Int32)) 17 k0 k4) := pvz6.rI (raw_le ht0 (by decide))
      have xpz7 : EXP (fun a => ¬ a = k0) κ.2.2.2.2 (sI (sI (sI (sI (sI κ.2.2.2.2 13 k0 k1) 14 k0 k2) 15 k0 k3) 16 k0 (2 : Int32)) 17 k0 k4) := xpz6.trans XP.xI
      have kpz7 : KPx True κ.2.2.2.2 (sI (sI (sI (sI (sI κ.2.2.2.2 13 k0 k1) 14 k0 k2) 15 k0 k3) 16 k0 (2 : Int32)) 17 k0 k4) := kpz6.rI9 (raw_le ht0 (by decide))
      refine lv_aload_n C.x C.b dX7_init_46 rfl (lv_at hl 0 rfl) ?_
      refine lv_iload C.x C.b dX7_init_47 (lv_at hl 5 rfl) ?_
      refine pp_X7_5 C rfl rfl hP hS (t20 (a := k0) (t := 25) ht0) cw_674 dX7_init_49 (fun H locs hP hS => ?_)
      have pvz8 : PV sa (sI (sI (sI (sI (sI (sI κ.2.2.2.2 13 k0 k1) 14 k0 k2) 15 k0 k3) 16 k0 (2 : Int32)) 17 k0 k4) 18 k0 k5) := pvz7.rI (raw_le ht0 (by decide))
      have xpz8 : EXP (fun a => ¬ a = k0) κ.2.2.2.2 (sI (sI (sI (sI (sI (sI κ.2.2.2.2 13 k0 k1) 14 k0 k2) 15 k0 k3) 16 k0 (2 : Int32)) 17 k0 k4) 18 k0 k5) := xpz7.trans XP.xI
      have kpz8 : KPx True κ.2.2.2.2 (sI (sI (sI (sI (sI (sI κ.2.2.2.2 13 k0 k1) 14 k0 k2) 15 k0 k3) 16 k0 (2 : Int32)) 17 k0 k4) 18 k0 k5) := kpz7.rI9 (raw_le ht0 (by decide))
      have hP := CH.fin (t := 5) (n := 0) hP (show oT (sI (sI (sI (sI (sI (sI κ.2.2.2.2 13 k0 k1) 14 k0 k2) 15 k0 k3) 16 k0 (2 : Int32)) 17 k0 k4) 18 k0 k5) k0 = 20 + 5 from ht0) (by decide)
      have pvF : PV sa (sC (sT (sI (sI (sI (sI (sI (sI κ.2.2.2.2 13 k0 k1) 14 k0 k2) 15 k0 k3) 16 k0 (2 : Int32)) 17 k0 k4) 18 k0 k5) k0 5) k0 (0)) := fin_45 pvz8 (by decide) ht0
      have xpF : EXP (fun a => ¬ a = k0) κ.2.2.2.2 (sC (sT (sI (sI (sI (sI (sI (sI κ.2.2.2.2 13 k0 k1) 14 k0 k2) 15 k0 k3) 16 k0 (2 : Int32)) 17 k0 k4) 18 k0 k5) k0 5) k0 (0)) := xpz8.trans XP.xC
      have kpF : KPx True κ.2.2.2.2 (sC (sT (sI (sI (sI (sI (sI (sI κ.2.2.2.2 13 k0 k1) 14 k0 k2) 15 k0 k3) 16 k0 (2 : Int32)) 17 k0 k4) 18 k0 k5) k0 5) k0 (0)) := kpz8.fin9 (raw_le ht0 (by decide))
      have hP : CH D cy ad A (tP (tP (tP (tP (tP (tP (tP κ (sI κ.2.2.2.2 13 k0 k1)) (sI (sI κ.2.2.2.2 13 k0 k1) 14 k0 k2)) (sI (sI (sI κ.2.2.2.2 13 k0 k1) 14 k0 k2) 15 k0 k3)) (sI (sI (sI (sI κ.2.2.2.2 13 k0 k1) 14 k0 k2) 15 k0 k3) 16 k0 (2 : Int32))) (sI (sI (sI (sI (sI κ.2.2.2.2 13 k0 k1) 14 k0 k2) 15 k0 k3) 16 k0 (2 : Int32)) 17 k0 k4)) (sI (sI (sI (sI (sI (sI κ.2.2.2.2 13 k0 k1) 14 k0 k2) 15 k0 k3) 16 k0 (2 : Int32)) 17 k0 k4) 18 k0 k5)) (sC (sT (sI (sI (sI (sI (sI (sI κ.2.2.2.2 13 k0 k1) 14 k0 k2) 15 k0 k3) 16 k0 (2 : Int32)) 17 k0 k4) 18 k0 k5) k0 5) k0 (0))) H := hP
      have hP : CH D cy ad A (tP κ (sC (sT (sI (sI (sI (sI (sI (sI κ.2.2.2.2 13 k0 k1) 14 k0 k2) 15 k0 k3) 16 k0 (2 : Int32)) 17 k0 k4) 18 k0 k5) k0 5) k0 (0))) H := CH.cong hP rfl rfl rfl rfl rfl rfl rfl rfl rfl rfl rfl rfl rfl rfl rfl rfl rfl rfl rfl rfl rfl rfl rfl rfl rfl rfl rfl
      exact c_retv C hsz hsl (sC (sT (sI (sI (sI (sI (sI (sI κ.2.2.2.2 13 k0 k1) 14 k0 k2) 15 k0 k3) 16 k0 (2 : Int32)) 17 k0 k4) 18 k0 k5) k0 5) k0 (0)) ⟨⟨xpF, pvF, fin_T, kpF⟩, ⟨(show oI (sI (sI (sI (sI (sI (sI κ.2.2.2.2 13 k0 k1) 14 k0 k2) 15 k0 k3) 16 k0 (2 : Int32)) 17 k0 k4) 18 k0 k5) 13 k0 = k1 from (by simp [oR, oI, oD, sR, sI, sD, va_up, upd, vf_upd])), (show oI (sI (sI (sI (sI (sI (sI κ.2.2.2.2 13 k0 k1) 14 k0 k2) 15 k0 k3) 16 k0 (2 : Int32)) 17 k0 k4) 18 k0 k5) 14 k0 = k2 from (by simp [oR, oI, oD, sR, sI, sD, va_up, upd, vf_upd])), (show oI (sI (sI (sI (sI (sI (sI κ.2.2.2.2 13 k0 k1) 14 k0 k2) 15 k0 k3) 16 k0 (2 : Int32)) 17 k0 k4) 18 k0 k5) 15 k0 = k3 from (by simp [oR, oI, oD, sR, sI, sD, va_up, upd, vf_upd])), (show (oI (sI (sI (sI (sI (sI (sI κ.2.2.2.2 13 k0 k1) 14 k0 k2) 15 k0 k3) 16 k0 (2 : Int32)) 17 k0 k4) 18 k0 k5) 16 k0).toInt = qCnt k2.toInt k3.toInt from (by rw [show oI (sI (sI (sI (sI (sI (sI κ.2.2.2.2 13 k0 k1) 14 k0 k2) 15 k0 k3) 16 k0 (2 : Int32)) 17 k0 k4) 18 k0 k5) 16 k0 = (2 : Int32) from (by simp [oR, oI, oD, sR, sI, sD, va_up, upd, vf_upd])]; exact (vX7_init_1 sa κ k0 k2 k3 ht0 hPV c4 c5))), (show oI (sI (sI (sI (sI (sI (sI κ.2.2.2.2 13 k0 k1) 14 k0 k2) 15 k0 k3) 16 k0 (2 : Int32)) 17 k0 k4) 18 k0 k5) 17 k0 = k4 from (by simp [oR, oI, oD, sR, sI, sD, va_up, upd, vf_upd])), (show oI (sI (sI (sI (sI (sI (sI κ.2.2.2.2 13 k0 k1) 14 k0 k2) 15 k0 k3) 16 k0 (2 : Int32)) 17 k0 k4) 18 k0 k5) 18 k0 = k5 from (by simp [oR, oI, oD, sR, sI, sD, va_up, upd, vf_upd]))⟩⟩ hP hS ⟨(Nat.le_of_ble_eq_true rfl), (Nat.le_of_ble_eq_true rfl)⟩ ⟨(Nat.le_of_ble_eq_true rfl), (Nat.le_of_ble_eq_true rfl)⟩ dX7_init_52
    · have c5 : k3.toInt = 0 := by have h := z_eq c5; rw [show (0 : Int32).toInt = 0 from by decide +kernel] at h; exact h
      refine lv_iconst (v := 1) C.x C.b dX7_init_32 (by decide +kernel) ?_
      refine lv_goto (tgt := 37) C.x C.b dX7_init_33 (by decide) ?_
      refine pp_X7_3 C rfl rfl hP hS (t20 (a := k0) (t := 25) ht0) cw_672 dX7_init_37 (fun H locs hP hS => ?_)
      have pvz9 : PV sa (sI (sI (sI (sI κ.2.2.2.2 13 k0 k1) 14 k0 k2) 15 k0 k3) 16 k0 (1 : Int32)) := pvz3.rI (raw_le ht0 (by decide))
      have xpz9 : EXP (fun a => ¬ a = k0) κ.2.2.2.2 (sI (sI (sI (sI κ.2.2.2.2 13 k0 k1) 14 k0 k2) 15 k0 k3) 16 k0 (1 : Int32)) := xpz3.trans XP.xI
      have kpz9 : KPx True κ.2.2.2.2 (sI (sI (sI (sI κ.2.2.2.2 13 k0 k1) 14 k0 k2) 15 k0 k3) 16 k0 (1 : Int32)) := kpz3.rI9 (raw_le ht0 (by decide))
      refine lv_aload_n C.x C.b dX7_init_40 rfl (lv_at hl 0 rfl) ?_
      refine lv_iload C.x C.b dX7_init_41 (lv_at hl 4 rfl) ?_
      refine pp_X7_4 C rfl rfl hP hS (t20 (a := k0) (t := 25) ht0) cw_673 dX7_init_43 (fun H locs hP hS => ?_)
      have pvz10 : PV sa (sI (sI (sI (sI (sI κ.2.2.2.2 13 k0 k1) 14 k0 k2) 15 k0 k3) 16 k0 (1 : Int32)) 17 k0 k4) := pvz9.rI (raw_le ht0 (by decide))
      have xpz10 : EXP (fun a => ¬ a = k0) κ.2.2.2.2 (sI (sI (sI (sI (sI κ.2.2.2.2 13 k0 k1) 14 k0 k2) 15 k0 k3) 16 k0 (1 : Int32)) 17 k0 k4) := xpz9.trans XP.xI
      have kpz10 : KPx True κ.2.2.2.2 (sI (sI (sI (sI (sI κ.2.2.2.2 13 k0 k1) 14 k0 k2) 15 k0 k3) 16 k0 (1 : Int32)) 17 k0 k4) := kpz9.rI9 (raw_le ht0 (by decide))
      refine lv_aload_n C.x C.b dX7_init_46 rfl (lv_at hl 0 rfl) ?_
      refine lv_iload C.x C.b dX7_init_47 (lv_at hl 5 rfl) ?_
      refine pp_X7_5 C rfl rfl hP hS (t20 (a := k0) (t := 25) ht0) cw_674 dX7_init_49 (fun H locs hP hS => ?_)
      have pvz11 : PV sa (sI (sI (sI (sI (sI (sI κ.2.2.2.2 13 k0 k1) 14 k0 k2) 15 k0 k3) 16 k0 (1 : Int32)) 17 k0 k4) 18 k0 k5) := pvz10.rI (raw_le ht0 (by decide))
      have xpz11 : EXP (fun a => ¬ a = k0) κ.2.2.2.2 (sI (sI (sI (sI (sI (sI κ.2.2.2.2 13 k0 k1) 14 k0 k2) 15 k0 k3) 16 k0 (1 : Int32)) 17 k0 k4) 18 k0 k5) := xpz10.trans XP.xI
      have kpz11 : KPx True κ.2.2.2.2 (sI (sI (sI (sI (sI (sI κ.2.2.2.2 13 k0 k1) 14 k0 k2) 15 k0 k3) 16 k0 (1 : Int32)) 17 k0 k4) 18 k0 k5) := kpz10.rI9 (raw_le ht0 (by decide))
      have hP := CH.fin (t := 5) (n := 0) hP (show oT (sI (sI (sI (sI (sI (sI κ.2.2.2.2 13 k0 k1) 14 k0 k2) 15 k0 k3) 16 k0 (1 : Int32)) 17 k0 k4) 18 k0 k5) k0 = 20 + 5 from ht0) (by decide)
      have pvF : PV sa (sC (sT (sI (sI (sI (sI (sI (sI κ.2.2.2.2 13 k0 k1) 14 k0 k2) 15 k0 k3) 16 k0 (1 : Int32)) 17 k0 k4) 18 k0 k5) k0 5) k0 (0)) := fin_45 pvz11 (by decide) ht0
      have xpF : EXP (fun a => ¬ a = k0) κ.2.2.2.2 (sC (sT (sI (sI (sI (sI (sI (sI κ.2.2.2.2 13 k0 k1) 14 k0 k2) 15 k0 k3) 16 k0 (1 : Int32)) 17 k0 k4) 18 k0 k5) k0 5) k0 (0)) := xpz11.trans XP.xC
      have kpF : KPx True κ.2.2.2.2 (sC (sT (sI (sI (sI (sI (sI (sI κ.2.2.2.2 13 k0 k1) 14 k0 k2) 15 k0 k3) 16 k0 (1 : Int32)) 17 k0 k4) 18 k0 k5) k0 5) k0 (0)) := kpz11.fin9 (raw_le ht0 (by decide))
      have hP : CH D cy ad A (tP (tP (tP (tP (tP (tP (tP κ (sI κ.2.2.2.2 13 k0 k1)) (sI (sI κ.2.2.2.2 13 k0 k1) 14 k0 k2)) (sI (sI (sI κ.2.2.2.2 13 k0 k1) 14 k0 k2) 15 k0 k3)) (sI (sI (sI (sI κ.2.2.2.2 13 k0 k1) 14 k0 k2) 15 k0 k3) 16 k0 (1 : Int32))) (sI (sI (sI (sI (sI κ.2.2.2.2 13 k0 k1) 14 k0 k2) 15 k0 k3) 16 k0 (1 : Int32)) 17 k0 k4)) (sI (sI (sI (sI (sI (sI κ.2.2.2.2 13 k0 k1) 14 k0 k2) 15 k0 k3) 16 k0 (1 : Int32)) 17 k0 k4) 18 k0 k5)) (sC (sT (sI (sI (sI (sI (sI (sI κ.2.2.2.2 13 k0 k1) 14 k0 k2) 15 k0 k3) 16 k0 (1 : Int32)) 17 k0 k4) 18 k0 k5) k0 5) k0 (0))) H := hP
      have hP : CH D cy ad A (tP κ (sC (sT (sI (sI (sI (sI (sI (sI κ.2.2.2.2 13 k0 k1) 14 k0 k2) 15 k0 k3) 16 k0 (1 : Int32)) 17 k0 k4) 18 k0 k5) k0 5) k0 (0))) H := CH.cong hP rfl rfl rfl rfl rfl rfl rfl rfl rfl rfl rfl rfl rfl rfl rfl rfl rfl rfl rfl rfl rfl rfl rfl rfl rfl rfl rfl
      exact c_retv C hsz hsl (sC (sT (sI (sI (sI (sI (sI (sI κ.2.2.2.2 13 k0 k1) 14 k0 k2) 15 k0 k3) 16 k0 (1 : Int32)) 17 k0 k4) 18 k0 k5) k0 5) k0 (0)) ⟨⟨xpF, pvF, fin_T, kpF⟩, ⟨(show oI (sI (sI (sI (sI (sI (sI κ.2.2.2.2 13 k0 k1) 14 k0 k2) 15 k0 k3) 16 k0 (1 : Int32)) 17 k0 k4) 18 k0 k5) 13 k0 = k1 from (by simp [oR, oI, oD, sR, sI, sD, va_up, upd, vf_upd])), (show oI (sI (sI (sI (sI (sI (sI κ.2.2.2.2 13 k0 k1) 14 k0 k2) 15 k0 k3) 16 k0 (1 : Int32)) 17 k0 k4) 18 k0 k5) 14 k0 = k2 from (by simp [oR, oI, oD, sR, sI, sD, va_up, upd, vf_upd])), (show oI (sI (sI (sI (sI (sI (sI κ.2.2.2.2 13 k0 k1) 14 k0 k2) 15 k0 k3) 16 k0 (1 : Int32)) 17 k0 k4) 18 k0 k5) 15 k0 = k3 from (by simp [oR, oI, oD, sR, sI, sD, va_up, upd, vf_upd])), (show (oI (sI (sI (sI (sI (sI (sI κ.2.2.2.2 13 k0 k1) 14 k0 k2) 15 k0 k3) 16 k0 (1 : Int32)) 17 k0 k4) 18 k0 k5) 16 k0).toInt = qCnt k2.toInt k3.toInt from (by rw [show oI (sI (sI (sI (sI (sI (sI κ.2.2.2.2 13 k0 k1) 14 k0 k2) 15 k0 k3) 16 k0 (1 : Int32)) 17 k0 k4) 18 k0 k5) 16 k0 = (1 : Int32) from (by simp [oR, oI, oD, sR, sI, sD, va_up, upd, vf_upd])]; exact (vX7_init_2 sa κ k0 k2 k3 ht0 hPV c4 c5))), (show oI (sI (sI (sI (sI (sI (sI κ.2.2.2.2 13 k0 k1) 14 k0 k2) 15 k0 k3) 16 k0 (1 : Int32)) 17 k0 k4) 18 k0 k5) 17 k0 = k4 from (by simp [oR, oI, oD, sR, sI, sD, va_up, upd, vf_upd])), (show oI (sI (sI (sI (sI (sI (sI κ.2.2.2.2 13 k0 k1) 14 k0 k2) 15 k0 k3) 16 k0 (1 : Int32)) 17 k0 k4) 18 k0 k5) 18 k0 = k5 from (by simp [oR, oI, oD, sR, sI, sD, va_up, upd, vf_upd]))⟩⟩ hP hS ⟨(Nat.le_of_ble_eq_true rfl), (Nat.le_of_ble_eq_true rfl)⟩ ⟨(Nat.le_of_ble_eq_true rfl), (Nat.le_of_ble_eq_true rfl)⟩ dX7_init_52
  · have c4 : k2.toInt = 0 := by have h := z_eq c4; rw [show (0 : Int32).toInt = 0 from by decide +kernel] at h; exact h
    refine lv_iconst (v := 0) C.x C.b dX7_init_24 (by decide +kernel) ?_
    refine lv_goto (tgt := 37) C.x C.b dX7_init_25 (by decide) ?_
    refine pp_X7_3 C rfl rfl hP hS (t20 (a := k0) (t := 25) ht0) cw_672 dX7_init_37 (fun H locs hP hS => ?_)
    have pvz12 : PV sa (sI (sI (sI (sI κ.2.2.2.2 13 k0 k1) 14 k0 k2) 15 k0 k3) 16 k0 (0 : Int32)) := pvz3.rI (raw_le ht0 (by decide))
    have xpz12 : EXP (fun a => ¬ a = k0) κ.2.2.2.2 (sI (sI (sI (sI κ.2.2.2.2 13 k0 k1) 14 k0 k2) 15 k0 k3) 16 k0 (0 : Int32)) := xpz3.trans XP.xI
    have kpz12 : KPx True κ.2.2.2.2 (sI (sI (sI (sI κ.2.2.2.2 13 k0 k1) 14 k0 k2) 15 k0 k3) 16 k0 (0 : Int32)) := kpz3.rI9 (raw_le ht0 (by decide))
    refine lv_aload_n C.x C.b dX7_init_40 rfl (lv_at hl 0 rfl) ?_
    refine lv_iload C.x C.b dX7_init_41 (lv_at hl 4 rfl) ?_
    refine pp_X7_4 C rfl rfl hP hS (t20 (a := k0) (t := 25) ht0) cw_673 dX7_init_43 (fun H locs hP hS => ?_)
    have pvz13 : PV sa (sI (sI (sI (sI (sI κ.2.2.2.2 13 k0 k1) 14 k0 k2) 15 k0 k3) 16 k0 (0 : Int32)) 17 k0 k4) := pvz12.rI (raw_le ht0 (by decide))
    have xpz13 : EXP (fun a => ¬ a = k0) κ.2.2.2.2 (sI (sI (sI (sI (sI κ.2.2.2.2 13 k0 k1) 14 k0 k2) 15 k0 k3) 16 k0 (0 : Int32)) 17 k0 k4) := xpz12.trans XP.xI
    have kpz13 : KPx True κ.2.2.2.2 (sI (sI (sI (sI (sI κ.2.2.2.2 13 k0 k1) 14 k0 k2) 15 k0 k3) 16 k0 (0 : Int32)) 17 k0 k4) := kpz12.rI9 (raw_le ht0 (by decide))
    refine lv_aload_n C.x C.b dX7_init_46 rfl (lv_at hl 0 rfl) ?_
    refine lv_iload C.x C.b dX7_init_47 (lv_at hl 5 rfl) ?_
    refine pp_X7_5 C rfl rfl hP hS (t20 (a := k0) (t := 25) ht0) cw_674 dX7_init_49 (fun H locs hP hS => ?_)
    have pvz14 : PV sa (sI (sI (sI (sI (sI (sI κ.2.2.2.2 13 k0 k1) 14 k0 k2) 15 k0 k3) 16 k0 (0 : Int32)) 17 k0 k4) 18 k0 k5) := pvz13.rI (raw_le ht0 (by decide))
    have xpz14 : EXP (fun a => ¬ a = k0) κ.2.2.2.2 (sI (sI (sI (sI (sI (sI κ.2.2.2.2 13 k0 k1) 14 k0 k2) 15 k0 k3) 16 k0 (0 : Int32)) 17 k0 k4) 18 k0 k5) := xpz13.trans XP.xI
    have kpz14 : KPx True κ.2.2.2.2 (sI (sI (sI (sI (sI (sI κ.2.2.2.2 13 k0 k1) 14 k0 k2) 15 k0 k3) 16 k0 (0 : Int32)) 17 k0 k4) 18 k0 k5) := kpz13.rI9 (raw_le ht0 (by decide))
    have hP := CH.fin (t := 5) (n := 0) hP (show oT (sI (sI (sI (sI (sI (sI κ.2.2.2.2 13 k0 k1) 14 k0 k2) 15 k0 k3) 16 k0 (0 : Int32)) 17 k0 k4) 18 k0 k5) k0 = 20 + 5 from ht0) (by decide)
    have pvF : PV sa (sC (sT (sI (sI (sI (sI (sI (sI κ.2.2.2.2 13 k0 k1) 14 k0 k2) 15 k0 k3) 16 k0 (0 : Int32)) 17 k0 k4) 18 k0 k5) k0 5) k0 (0)) := fin_45 pvz14 (by decide) ht0
    have xpF : EXP (fun a => ¬ a = k0) κ.2.2.2.2 (sC (sT (sI (sI (sI (sI (sI (sI κ.2.2.2.2 13 k0 k1) 14 k0 k2) 15 k0 k3) 16 k0 (0 : Int32)) 17 k0 k4) 18 k0 k5) k0 5) k0 (0)) := xpz14.trans XP.xC
    have kpF : KPx True κ.2.2.2.2 (sC (sT (sI (sI (sI (sI (sI (sI κ.2.2.2.2 13 k0 k1) 14 k0 k2) 15 k0 k3) 16 k0 (0 : Int32)) 17 k0 k4) 18 k0 k5) k0 5) k0 (0)) := kpz14.fin9 (raw_le ht0 (by decide))
    have hP : CH D cy ad A (tP (tP (tP (tP (tP (tP (tP κ (sI κ.2.2.2.2 13 k0 k1)) (sI (sI κ.2.2.2.2 13 k0 k1) 14 k0 k2)) (sI (sI (sI κ.2.2.2.2 13 k0 k1) 14 k0 k2) 15 k0 k3)) (sI (sI (sI (sI κ.2.2.2.2 13 k0 k1) 14 k0 k2) 15 k0 k3) 16 k0 (0 : Int32))) (sI (sI (sI (sI (sI κ.2.2.2.2 13 k0 k1) 14 k0 k2) 15 k0 k3) 16 k0 (0 : Int32)) 17 k0 k4)) (sI (sI (sI (sI (sI (sI κ.2.2.2.2 13 k0 k1) 14 k0 k2) 15 k0 k3) 16 k0 (0 : Int32)) 17 k0 k4) 18 k0 k5)) (sC (sT (sI (sI (sI (sI (sI (sI κ.2.2.2.2 13 k0 k1) 14 k0 k2) 15 k0 k3) 16 k0 (0 : Int32)) 17 k0 k4) 18 k0 k5) k0 5) k0 (0))) H := hP
    have hP : CH D cy ad A (tP κ (sC (sT (sI (sI (sI (sI (sI (sI κ.2.2.2.2 13 k0 k1) 14 k0 k2) 15 k0 k3) 16 k0 (0 : Int32)) 17 k0 k4) 18 k0 k5) k0 5) k0 (0))) H := CH.cong hP rfl rfl rfl rfl rfl rfl rfl rfl rfl rfl rfl rfl rfl rfl rfl rfl rfl rfl rfl rfl rfl rfl rfl rfl rfl rfl rfl
    exact c_retv C hsz hsl (sC (sT (sI (sI (sI (sI (sI (sI κ.2.2.2.2 13 k0 k1) 14 k0 k2) 15 k0 k3) 16 k0 (0 : Int32)) 17 k0 k4) 18 k0 k5) k0 5) k0 (0)) ⟨⟨xpF, pvF, fin_T, kpF⟩, ⟨(show oI (sI (sI (sI (sI (sI (sI κ.2.2.2.2 13 k0 k1) 14 k0 k2) 15 k0 k3) 16 k0 (0 : Int32)) 17 k0 k4) 18 k0 k5) 13 k0 = k1 from (by simp [oR, oI, oD, sR, sI, sD, va_up, upd, vf_upd])), (show oI (sI (sI (sI (sI (sI (sI κ.2.2.2.2 13 k0 k1) 14 k0 k2) 15 k0 k3) 16 k0 (0 : Int32)) 17 k0 k4) 18 k0 k5) 14 k0 = k2 from (by simp [oR, oI, oD, sR, sI, sD, va_up, upd, vf_upd])), (show oI (sI (sI (sI (sI (sI (sI κ.2.2.2.2 13 k0 k1) 14 k0 k2) 15 k0 k3) 16 k0 (0 : Int32)) 17 k0 k4) 18 k0 k5) 15 k0 = k3 from (by simp [oR, oI, oD, sR, sI, sD, va_up, upd, vf_upd])), (show (oI (sI (sI (sI (sI (sI (sI κ.2.2.2.2 13 k0 k1) 14 k0 k2) 15 k0 k3) 16 k0 (0 : Int32)) 17 k0 k4) 18 k0 k5) 16 k0).toInt = qCnt k2.toInt k3.toInt from (by rw [show oI (sI (sI (sI (sI (sI (sI κ.2.2.2.2 13 k0 k1) 14 k0 k2) 15 k0 k3) 16 k0 (0 : Int32)) 17 k0 k4) 18 k0 k5) 16 k0 = (0 : Int32) from (by simp [oR, oI, oD, sR, sI, sD, va_up, upd, vf_upd])]; exact (vX7_init_3 sa κ k0 k2 k3 ht0 hPV c4))), (show oI (sI (sI (sI (sI (sI (sI κ.2.2.2.2 13 k0 k1) 14 k0 k2) 15 k0 k3) 16 k0 (0 : Int32)) 17 k0 k4) 18 k0 k5) 17 k0 = k4 from (by simp [oR, oI, oD, sR, sI, sD, va_up, upd, vf_upd])), (show oI (sI (sI (sI (sI (sI (sI κ.2.2.2.2 13 k0 k1) 14 k0 k2) 15 k0 k3) 16 k0 (0 : Int32)) 17 k0 k4) 18 k0 k5) 18 k0 = k5 from (by simp [oR, oI, oD, sR, sI, sD, va_up, upd, vf_upd]))⟩⟩ hP hS ⟨(Nat.le_of_ble_eq_true rfl), (Nat.le_of_ble_eq_true rfl)⟩ ⟨(Nat.le_of_ble_eq_true rfl), (Nat.le_of_ble_eq_true rfl)⟩ dX7_init_52

-- kd2 @40
theorem vX1_init_1 (sa : Nat → Nat) (κ : KS) (k0 : Nat) (k1 : Int32) (k2 : Option Nat) (x2 : Int32) (q5 : Nat) (q8 : Nat) (ht0 : oT κ.2.2.2.2 k0 = 23) (ht2 : NT κ.2.2.2.2 3 k2) (hPV : PV sa κ.2.2.2.2) (hpre_0 : oI κ.2.2.2.2 8 k0 = 0) (hpre_1 : oI κ.2.2.2.2 9 k0 = 0) (ex2 : x2 = (8 : Int32) + k1) (exz6 : EX (sR (sI (sI κ.2.2.2.2 6 k0 k1) 7 k0 x2) 6 k0 k2) (newP (sR (sI (sI κ.2.2.2.2 6 k0 k1) 7 k0 x2) 6 k0 k2) q5 10)) (h0q5 : oT (sR (sI (sI κ.2.2.2.2 6 k0 k1) 7 k0 x2) 6 k0 k2) q5 = 0) (exz9 : EX (sR (newP (sR (sI (sI κ.2.2.2.2 6 k0 k1) 7 k0 x2) 6 k0 k2) q5 10) 7 k0 (some q5)) (newP (sR (newP (sR (sI (sI κ.2.2.2.2 6 k0 k1) 7 k0 x2) 6 k0 k2) q5 10) 7 k0 (some q5)) q8 11)) (h0q8 : oT (sR (newP (sR (sI (sI κ.2.2.2.2 6 k0 k1) 7 k0 x2) 6 k0 k2) q5 10) 7 k0 (some q5)) q8 = 0) : x2 = (8 : Int32) + k1 := by
  have qq8 : (8 : Int32).toInt = 8 := by decide +kernel
  first | assumption | (subst_vars; rfl)
set_option maxHeartbeats 4000000 in
set_option maxRecDepth 100000 in
theorem NX1_init (l : Launch) (D : va_G) (cy : Nat → ClassId) (ad : Nat → Nat) (A : Nat → Prop) (sz0 : Nat) (sa : Nat → Nat)  (κ : KS) (sz sl : Nat) (hAF : ∀ q, A q → Fr sz0 q) (hAn : ∀ q : Nat, sz ≤ q → A q) (k0 : Nat) (k1 : Int32) (k2 : Option Nat) (ht0 : oT κ.2.2.2.2 k0 = 23) (ht2 : NT κ.2.2.2.2 3 k2) (hPV : PV sa κ.2.2.2.2) (hpre : oI κ.2.2.2.2 8 k0 = 0 ∧ oI κ.2.2.2.2 9 k0 = 0) : Met l yX1_init (Cond.code yX1_init cX1_init 3 none :: GWc) ({ frames := 1, cells := 2, slots := 12, locals := 20 }) (PcC D cy ad A sz0 sa [.ref k0, .int k1, va_rf k2] κ sz sl) (va_Qv (fun (u : PL) => ((EXP (fun a => ¬ a = k0) κ.2.2.2.2 u) ∧ (PV sa u) ∧ (oT u k0 = 3) ∧ (KPx True κ.2.2.2.2 u) ∧ (oI u 8 k0 = 0 ∧ oI u 9 k0 = 0 ∧ (∃ b, oR u 7 k0 = some b ∧ oT κ.2.2.2.2 b = 0 ∧ oT u b = 10))) ∧ (oI u 6 k0 = k1 ∧ oI u 7 k0 = (8 : Int32) + k1 ∧ oR u 6 k0 = k2 ∧ (∃ b, oR u 7 k0 = some b ∧ oT u b = 10) ∧ (∃ b, oR u 8 k0 = some b ∧ oT u b = 11))) (fun (u : PL) (t : State) => Bx D cy ad A sz sl (tP κ u) (2) (12) t) A) (2) (12) A := by
  refine CM_of (loc0 := [(0, .ref k0), (1, .int k1), (2, va_rf k2)]) (own := RX1) (nm := "<init>") (by decide) rfl rfl (by cases k2 <;> rfl) (by cases k2 <;> exact Nat.le_of_ble_eq_true rfl) hAF hAn ?_
  intro p e s m below meth c ls hsz hsl C hP hS hl
  obtain ⟨hpre_0, hpre_1⟩ := hpre
  refine lv_aload_n C.x C.b dX1_init_0 rfl (lv_at hl 0 rfl) ?_
  refine W.objInit C.x C.b C.o (C.w _ cw_377) (C.w _ cw_2) (C.w _ cw_3) rfl (by rw [C.ml]; exact hl.1) rfl dX1_init_1 (Nat.le_of_ble_eq_true rfl) (Nat.le_of_ble_eq_true rfl) ?_
  refine W.eq (g2 := F0 m 4 ls []) rfl ?_
  refine lv_aload_n C.x C.b dX1_init_4 rfl (lv_at hl 0 rfl) ?_
  refine lv_iload_n C.x C.b dX1_init_5 rfl (lv_at hl 1 rfl) ?_
  refine pp_X1_0 C rfl rfl hP hS (t20 (a := k0) (t := 23) ht0) cw_378 dX1_init_6 (fun H locs hP hS => ?_)
  have pvz1 : PV sa (sI κ.2.2.2.2 6 k0 k1) := hPV.rI (raw_le ht0 (by decide))
  have xpz1 : EXP (fun a => ¬ a = k0) κ.2.2.2.2 (sI κ.2.2.2.2 6 k0 k1) := XP.rf.trans XP.xI
  have kpz1 : KPx True κ.2.2.2.2 (sI κ.2.2.2.2 6 k0 k1) := KPx.rf.rI9 (raw_le ht0 (by decide))
  refine lv_aload_n C.x C.b dX1_init_9 rfl (lv_at hl 0 rfl) ?_
  refine lv_bipush (v := 8) C.x C.b dX1_init_10 (by decide +kernel) ?_
  refine lv_iload_n C.x C.b dX1_init_12 rfl (lv_at hl 1 rfl) ?_
  refine lv_iadd C.x C.b dX1_init_13 ?_
  refine lv_topi (fun x2 ex2 => ?_)
  refine pp_X1_1 C rfl rfl hP hS (t20 (a := k0) (t := 23) ht0) cw_379 dX1_init_14 (fun H locs hP hS => ?_)
  have pvz3 : PV sa (sI (sI κ.2.2.2.2 6 k0 k1) 7 k0 x2) := pvz1.rI (raw_le ht0 (by decide))
  have xpz3 : EXP (fun a => ¬ a = k0) κ.2.2.2.2 (sI (sI κ.2.2.2.2 6 k0 k1) 7 k0 x2) := xpz1.trans XP.xI
  have kpz3 : KPx True κ.2.2.2.2 (sI (sI κ.2.2.2.2 6 k0 k1) 7 k0 x2) := kpz1.rI9 (raw_le ht0 (by decide))
  refine lv_aload_n C.x C.b dX1_init_17 rfl (lv_at hl 0 rfl) ?_
  refine lq_aload_n C.x C.b dX1_init_18 rfl (lv_at hl 2 rfl) ?_
  refine pp_X1_2 (v := k2) C rfl rfl hP hS (t20 (a := k0) (t := 23) ht0) cw_380 dX1_init_19 (fun H locs hP hS => ?_)
  have pvz4 : PV sa (sR (sI (sI κ.2.2.2.2 6 k0 k1) 7 k0 x2) 6 k0 k2) := pvz3.rR (raw_le ht0 (by decide))
  have xpz4 : EXP (fun a => ¬ a = k0) κ.2.2.2.2 (sR (sI (sI κ.2.2.2.2 6 k0 k1) 7 k0 x2) 6 k0 k2) := xpz3.trans XP.xR
  have kpz4 : KPx True κ.2.2.2.2 (sR (sI (sI κ.2.2.2.2 6 k0 k1) 7 k0 x2) 6 k0 k2) := kpz3.rR9 (raw_le ht0 (by decide))
  refine lv_aload_n C.x C.b dX1_init_22 rfl (lv_at hl 0 rfl) ?_
  refine lv_bipush (v := 6) C.x C.b dX1_init_23 (by decide +kernel) ?_
  refine cn_a10 C hP hS cw_381 ⟨(Nat.le_of_ble_eq_true rfl), (Nat.le_of_ble_eq_true rfl)⟩ dX1_init_25 (fun q5 H h0q5 hP hS => ?_)
  have exz6 : EX (sR (sI (sI κ.2.2.2.2 6 k0 k1) 7 k0 x2) 6 k0 k2) (newP (sR (sI (sI κ.2.2.2.2 6 k0 k1) 7 k0 x2) 6 k0 k2) q5 10) := (EX.newP h0q5)
  have kpz6 : KPx True κ.2.2.2.2 (newP (sR (sI (sI κ.2.2.2.2 6 k0 k1) 7 k0 x2) 6 k0 k2) q5 10) := kpz4.newP9 pvz4 h0q5
  have xpz6 : EXP (fun a => ¬ a = k0) κ.2.2.2.2 (newP (sR (sI (sI κ.2.2.2.2 6 k0 k1) 7 k0 x2) 6 k0 k2) q5 10) := xpz4.trans (XP.ex exz6)
  have pvz6 : PV sa (newP (sR (sI (sI κ.2.2.2.2 6 k0 k1) 7 k0 x2) 6 k0 k2) q5 10) := (pvz4.arr h0q5 (by decide))
  refine pp_X1_3 (v := (some q5)) C rfl rfl hP hS (t20 (a := k0) (t := 23) (exz6.T ht0 (by decide))) cw_382 dX1_init_28 (fun H locs hP hS => ?_)
  have pvz7 : PV sa (sR (newP (sR (sI (sI κ.2.2.2.2 6 k0 k1) 7 k0 x2) 6 k0 k2) q5 10) 7 k0 (some q5)) := pvz6.rR (raw_le (exz6.T ht0 (by decide)) (by decide))
  have xpz7 : EXP (fun a => ¬ a = k0) κ.2.2.2.2 (sR (newP (sR (sI (sI κ.2.2.2.2 6 k0 k1) 7 k0 x2) 6 k0 k2) q5 10) 7 k0 (some q5)) := xpz6.trans XP.xR
  have kpz7 : KPx True κ.2.2.2.2 (sR (newP (sR (sI (sI κ.2.2.2.2 6 k0 k1) 7 k0 x2) 6 k0 k2) q5 10) 7 k0 (some q5)) := kpz6.rR9 (raw_le (exz6.T ht0 (by decide)) (by decide))
  refine lv_aload_n C.x C.b dX1_init_31 rfl (lv_at hl 0 rfl) ?_
  refine lv_bipush (v := 6) C.x C.b dX1_init_32 (by decide +kernel) ?_
  refine cn_a11 C hP hS cw_383 ⟨(Nat.le_of_ble_eq_true rfl), (Nat.le_of_ble_eq_true rfl)⟩ dX1_init_34 (fun q8 H h0q8 hP hS => ?_)
  have exz9 : EX (sR (newP (sR (sI (sI κ.2.2.2.2 6 k0 k1) 7 k0 x2) 6 k0 k2) q5 10) 7 k0 (some q5)) (newP (sR (newP (sR (sI (sI κ.2.2.2.2 6 k0 k1) 7 k0 x2) 6 k0 k2) q5 10) 7 k0 (some q5)) q8 11) := (EX.newP h0q8)
  have kpz9 : KPx True κ.2.2.2.2 (newP (sR (newP (sR (sI (sI κ.2.2.2.2 6 k0 k1) 7 k0 x2) 6 k0 k2) q5 10) 7 k0 (some q5)) q8 11) := kpz7.newP9 pvz7 h0q8
  have xpz9 : EXP (fun a => ¬ a = k0) κ.2.2.2.2 (newP (sR (newP (sR (sI (sI κ.2.2.2.2 6 k0 k1) 7 k0 x2) 6 k0 k2) q5 10) 7 k0 (some q5)) q8 11) := xpz7.trans (XP.ex exz9)
  have pvz9 : PV sa (newP (sR (newP (sR (sI (sI κ.2.2.2.2 6 k0 k1) 7 k0 x2) 6 k0 k2) q5 10) 7 k0 (some q5)) q8 11) := (pvz7.arr h0q8 (by decide))
  refine pp_X1_5 (v := (some q8)) C rfl rfl hP hS (t20 (a := k0) (t := 23) (exz9.T (exz6.T ht0 (by decide)) (by decide))) cw_384 dX1_init_37 (fun H locs hP hS => ?_)
  have pvz10 : PV sa (sR (newP (sR (newP (sR (sI (sI κ.2.2.2.2 6 k0 k1) 7 k0 x2) 6 k0 k2) q5 10) 7 k0 (some q5)) q8 11) 8 k0 (some q8)) := pvz9.rR (raw_le (exz9.T (exz6.T ht0 (by decide)) (by decide)) (by decide))
  have xpz10 : EXP (fun a => ¬ a = k0) κ.2.2.2.2 (sR (newP (sR (newP (sR (sI (sI κ.2.2.2.2 6 k0 k1) 7 k0 x2) 6 k0 k2) q5 10) 7 k0 (some q5)) q8 11) 8 k0 (some q8)) := xpz9.trans XP.xR
  have kpz10 : KPx True κ.2.2.2.2 (sR (newP (sR (newP (sR (sI (sI κ.2.2.2.2 6 k0 k1) 7 k0 x2) 6 k0 k2) q5 10) 7 k0 (some q5)) q8 11) 8 k0 (some q8)) := kpz9.rR9 (raw_le (exz9.T (exz6.T ht0 (by decide)) (by decide)) (by decide))
  have hP := CH.fin (t := 3) (n := cto (sR (newP (sR (newP (sR (sI (sI κ.2.2.2.2 6 k0 k1) 7 k0 x2) 6 k0 k2) q5 10) 7 k0 (some q5)) q8 11) 8 k0 (some q8)) k2 + 1) hP (show oT (sR (newP (sR (newP (sR (sI (sI κ.2.2.2.2 6 k0 k1) 7 k0 x2) 6 k0 k2) q5 10) 7 k0 (some q5)) q8 11) 8 k0 (some q8)) k0 = 20 + 3 from (exz9.T (exz6.T ht0 (by decide)) (by decide))) (by decide)
  have pvF : PV sa (sC (sT (sR (newP (sR (newP (sR (sI (sI κ.2.2.2.2 6 k0 k1) 7 k0 x2) 6 k0 k2) q5 10) 7 k0 (some q5)) q8 11) 8 k0 (some q8)) k0 3) k0 (cto (sR (newP (sR (newP (sR (sI (sI κ.2.2.2.2 6 k0 k1) 7 k0 x2) 6 k0 k2) q5 10) 7 k0 (some q5)) q8 11) 8 k0 (some q8)) k2 + 1)) := fin_3 pvz10 (exz9.T (exz6.T ht0 (by decide)) (by decide)) (by rw [(Eq.trans (show oR (sR (newP (sR (newP (sR (sI (sI κ.2.2.2.2 6 k0 k1) 7 k0 x2) 6 k0 k2) q5 10) 7 k0 (some q5)) q8 11) 8 k0 (some q8)) 6 k0 = oR (newP (sR (newP (sR (sI (sI κ.2.2.2.2 6 k0 k1) 7 k0 x2) 6 k0 k2) q5 10) 7 k0 (some q5)) q8 11) 6 k0 from sR_nk (by decide)) ((exz9.R (k := 6) (exz6.T ht0 (by decide)) (by decide) (by decide)).trans (Eq.trans (show oR (sR (newP (sR (sI (sI κ.2.2.2.2 6 k0 k1) 7 k0 x2) 6 k0 k2) q5 10) 7 k0 (some q5)) 6 k0 = oR (newP (sR (sI (sI κ.2.2.2.2 6 k0 k1) 7 k0 x2) 6 k0 k2) q5 10) 6 k0 from sR_nk (by decide)) ((exz6.R (k := 6) ht0 (by decide) (by decide)).trans sR_eq))))]; exact (exz9.nt (exz6.nt ht2 (by decide)) (by decide))) (by rw [(Eq.trans (show oR (sR (newP (sR (newP (sR (sI (sI κ.2.2.2.2 6 k0 k1) 7 k0 x2) 6 k0 k2) q5 10) 7 k0 (some q5)) q8 11) 8 k0 (some q8)) 6 k0 = oR (newP (sR (newP (sR (sI (sI κ.2.2.2.2 6 k0 k1) 7 k0 x2) 6 k0 k2) q5 10) 7 k0 (some q5)) q8 11) 6 k0 from sR_nk (by decide)) ((exz9.R (k := 6) (exz6.T ht0 (by decide)) (by decide) (by decide)).trans (Eq.trans (show oR (sR (newP (sR (sI (sI κ.2.2.2.2 6 k0 k1) 7 k0 x2) 6 k0 k2) q5 10) 7 k0 (some q5)) 6 k0 = oR (newP (sR (sI (sI κ.2.2.2.2 6 k0 k1) 7 k0 x2) 6 k0 k2) q5 10) 6 k0 from sR_nk (by decide)) ((exz6.R (k := 6) ht0 (by decide) (by decide)).trans sR_eq))))]; exact Nat.lt_succ_self _) ⟨q5, (Eq.trans (show oR (sR (newP (sR (newP (sR (sI (sI κ.2.2.2.2 6 k0 k1) 7 k0 x2) 6 k0 k2) q5 10) 7 k0 (some q5)) q8 11) 8 k0 (some q8)) 7 k0 = oR (newP (sR (newP (sR (sI (sI κ.2.2.2.2 6 k0 k1) 7 k0 x2) 6 k0 k2) q5 10) 7 k0 (some q5)) q8 11) 7 k0 from sR_nk (by decide)) ((exz9.R (k := 7) (exz6.T ht0 (by decide)) (by decide) (by decide)).trans sR_eq)), (exz9.T (by show oT (newP (sR (sI (sI κ.2.2.2.2 6 k0 k1) 7 k0 x2) 6 k0 k2) q5 10) q5 = 10; rw [newP_T, if_pos rfl]) (by decide))⟩ ⟨q8, sR_eq, (by show oT (newP (sR (newP (sR (sI (sI κ.2.2.2.2 6 k0 k1) 7 k0 x2) 6 k0 k2) q5 10) 7 k0 (some q5)) q8 11) q8 = 11; rw [newP_T, if_pos rfl])⟩ ((exz9.I (k := 8) (exz6.T ht0 (by decide)) (by decide) (by decide)).trans ((exz6.I (k := 8) ht0 (by decide) (by decide)).trans (Eq.trans (show oI (sI (sI κ.2.2.2.2 6 k0 k1) 7 k0 x2) 8 k0 = oI (sI κ.2.2.2.2 6 k0 k1) 8 k0 from sI_nk (by decide)) (Eq.trans (show oI (sI κ.2.2.2.2 6 k0 k1) 8 k0 = oI κ.2.2.2.2 8 k0 from sI_nk (by decide)) hpre_0)))) ((exz9.I (k := 9) (exz6.T ht0 (by decide)) (by decide) (by decide)).trans ((exz6.I (k := 9) ht0 (by decide) (by decide)).trans (Eq.trans (show oI (sI (sI κ.2.2.2.2 6 k0 k1) 7 k0 x2) 9 k0 = oI (sI κ.2.2.2.2 6 k0 k1) 9 k0 from sI_nk (by decide)) (Eq.trans (show oI (sI κ.2.2.2.2 6 k0 k1) 9 k0 = oI κ.2.2.2.2 9 k0 from sI_nk (by decide)) hpre_1))))
  have xpF : EXP (fun a => ¬ a = k0) κ.2.2.2.2 (sC (sT (sR (newP (sR (newP (sR (sI (sI κ.2.2.2.2 6 k0 k1) 7 k0 x2) 6 k0 k2) q5 10) 7 k0 (some q5)) q8 11) 8 k0 (some q8)) k0 3) k0 (cto (sR (newP (sR (newP (sR (sI (sI κ.2.2.2.2 6 k0 k1) 7 k0 x2) 6 k0 k2) q5 10) 7 k0 (some q5)) q8 11) 8 k0 (some q8)) k2 + 1)) := xpz10.trans XP.xC
  have kpF : KPx True κ.2.2.2.2 (sC (sT (sR (newP (sR (newP (sR (sI (sI κ.2.2.2.2 6 k0 k1) 7 k0 x2) 6 k0 k2) q5 10) 7 k0 (some q5)) q8 11) 8 k0 (some q8)) k0 3) k0 (cto (sR (newP (sR (newP (sR (sI (sI κ.2.2.2.2 6 k0 k1) 7 k0 x2) 6 k0 k2) q5 10) 7 k0 (some q5)) q8 11) 8 k0 (some q8)) k2 + 1)) := kpz10.fin9 (raw_le (exz9.T (exz6.T ht0 (by decide)) (by decide)) (by decide))
  have hP : CH D cy ad A (tP (tP (tP (tP (tP (tP (tP (tP κ (sI κ.2.2.2.2 6 k0 k1)) (sI (sI κ.2.2.2.2 6 k0 k1) 7 k0 x2)) (sR (sI (sI κ.2.2.2.2 6 k0 k1) 7 k0 x2) 6 k0 k2)) (newP (sR (sI (sI κ.2.2.2.2 6 k0 k1) 7 k0 x2) 6 k0 k2) q5 10)) (sR (newP (sR (sI (sI κ.2.2.2.2 6 k0 k1) 7 k0 x2) 6 k0 k2) q5 10) 7 k0 (some q5))) (newP (sR (newP (sR (sI (sI κ.2.2.2.2 6 k0 k1) 7 k0 x2) 6 k0 k2) q5 10) 7 k0 (some q5)) q8 11)) (sR (newP (sR (newP (sR (sI (sI κ.2.2.2.2 6 k0 k1) 7 k0 x2) 6 k0 k2) q5 10) 7 k0 (some q5)) q8 11) 8 k0 (some q8))) (sC (sT (sR (newP (sR (newP (sR (sI (sI κ.2.2.2.2 6 k0 k1) 7 k0 x2) 6 k0 k2) q5 10) 7 k0 (some q5)) q8 11) 8 k0 (some q8)) k0 3) k0 (cto (sR (newP (sR (newP (sR (sI (sI κ.2.2.2.2 6 k0 k1) 7 k0 x2) 6 k0 k2) q5 10) 7 k0 (some q5)) q8 11) 8 k0 (some q8)) k2 + 1))) H := hP
  have hP : CH D cy ad A (tP κ (sC (sT (sR (newP (sR (newP (sR (sI (sI κ.2.2.2.2 6 k0 k1) 7 k0 x2) 6 k0 k2) q5 10) 7 k0 (some q5)) q8 11) 8 k0 (some q8)) k0 3) k0 (cto (sR (newP (sR (newP (sR (sI (sI κ.2.2.2.2 6 k0 k1) 7 k0 x2) 6 k0 k2) q5 10) 7 k0 (some q5)) q8 11) 8 k0 (some q8)) k2 + 1))) H := CH.cong hP rfl rfl rfl rfl rfl rfl rfl rfl rfl rfl rfl rfl rfl rfl rfl rfl rfl rfl rfl rfl rfl rfl rfl rfl rfl rfl rfl
  exact c_retv C hsz hsl (sC (sT (sR (newP (sR (newP (sR (sI (sI κ.2.2.2.2 6 k0 k1) 7 k0 x2) 6 k0 k2) q5 10) 7 k0 (some q5)) q8 11) 8 k0 (some q8)) k0 3) k0 (cto (sR (newP (sR (newP (sR (sI (sI κ.2.2.2.2 6 k0 k1) 7 k0 x2) 6 k0 k2) q5 10) 7 k0 (some q5)) q8 11) 8 k0 (some q8)) k2 + 1)) ⟨⟨xpF, pvF, fin_T, kpF, ⟨((exz9.I (k := 8) (exz6.T ht0 (by decide)) (by decide) (by decide)).trans ((exz6.I (k := 8) ht0 (by decide) (by decide)).trans (Eq.trans (show oI (sI (sI κ.2.2.2.2 6 k0 k1) 7 k0 x2) 8 k0 = oI (sI κ.2.2.2.2 6 k0 k1) 8 k0 from sI_nk (by decide)) (Eq.trans (show oI (sI κ.2.2.2.2 6 k0 k1) 8 k0 = oI κ.2.2.2.2 8 k0 from sI_nk (by decide)) hpre_0)))), ((exz9.I (k := 9) (exz6.T ht0 (by decide)) (by decide) (by decide)).trans ((exz6.I (k := 9) ht0 (by decide) (by decide)).trans (Eq.trans (show oI (sI (sI κ.2.2.2.2 6 k0 k1) 7 k0 x2) 9 k0 = oI (sI κ.2.2.2.2 6 k0 k1) 9 k0 from sI_nk (by decide)) (Eq.trans (show oI (sI κ.2.2.2.2 6 k0 k1) 9 k0 = oI κ.2.2.2.2 9 k0 from sI_nk (by decide)) hpre_1)))), q5, (Eq.trans (show oR (sR (newP (sR (newP (sR (sI (sI κ.2.2.2.2 6 k0 k1) 7 k0 x2) 6 k0 k2) q5 10) 7 k0 (some q5)) q8 11) 8 k0 (some q8)) 7 k0 = oR (newP (sR (newP (sR (sI (sI κ.2.2.2.2 6 k0 k1) 7 k0 x2) 6 k0 k2) q5 10) 7 k0 (some q5)) q8 11) 7 k0 from sR_nk (by decide)) ((exz9.R (k := 7) (exz6.T ht0 (by decide)) (by decide) (by decide)).trans sR_eq)), h0q5, fin_o (exz9.T (by show oT (newP (sR (sI (sI κ.2.2.2.2 6 k0 k1) 7 k0 x2) 6 k0 k2) q5 10) q5 = 10; rw [newP_T, if_pos rfl]) (by decide)) (exz9.T (exz6.T ht0 (by decide)) (by decide)) (by decide)⟩⟩, ⟨show oI (sR (newP (sR (newP (sR (sI (sI κ.2.2.2.2 6 k0 k1) 7 k0 x2) 6 k0 k2) q5 10) 7 k0 (some q5)) q8 11) 8 k0 (some q8)) 6 k0 = k1 from ((exz9.I (k := 6) (exz6.T ht0 (by decide)) (by decide) (by decide)).trans ((exz6.I (k := 6) ht0 (by decide) (by decide)).trans (Eq.trans (show oI (sI (sI κ.2.2.2.2 6 k0 k1) 7 k0 x2) 6 k0 = oI (sI κ.2.2.2.2 6 k0 k1) 6 k0 from sI_nk (by decide)) sI_eq))), show oI (sR (newP (sR (newP (sR (sI (sI κ.2.2.2.2 6 k0 k1) 7 k0 x2) 6 k0 k2) q5 10) 7 k0 (some q5)) q8 11) 8 k0 (some q8)) 7 k0 = (8 : Int32) + k1 from (((exz9.I (k := 7) (exz6.T ht0 (by decide)) (by decide) (by decide)).trans ((exz6.I (k := 7) ht0 (by decide) (by decide)).trans (show oI (sI (sI κ.2.2.2.2 6 k0 k1) 7 k0 x2) 7 k0 = x2 from sI_eq)))).trans (vX1_init_1 sa κ k0 k1 k2 x2 q5 q8 ht0 ht2 hPV hpre_0 hpre_1 ex2 exz6 h0q5 exz9 h0q8), show oR (sR (newP (sR (newP (sR (sI (sI κ.2.2.2.2 6 k0 k1) 7 k0 x2) 6 k0 k2) q5 10) 7 k0 (some q5)) q8 11) 8 k0 (some q8)) 6 k0 = k2 from (Eq.trans (show oR (sR (newP (sR (newP (sR (sI (sI κ.2.2.2.2 6 k0 k1) 7 k0 x2) 6 k0 k2) q5 10) 7 k0 (some q5)) q8 11) 8 k0 (some q8)) 6 k0 = oR (newP (sR (newP (sR (sI (sI κ.2.2.2.2 6 k0 k1) 7 k0 x2) 6 k0 k2) q5 10) 7 k0 (some q5)) q8 11) 6 k0 from sR_nk (by decide)) ((exz9.R (k := 6) (exz6.T ht0 (by decide)) (by decide) (by decide)).trans (Eq.trans (show oR (sR (newP (sR (sI (sI κ.2.2.2.2 6 k0 k1) 7 k0 x2) 6 k0 k2) q5 10) 7 k0 (some q5)) 6 k0 = oR (newP (sR (sI (sI κ.2.2.2.2 6 k0 k1) 7 k0 x2) 6 k0 k2) q5 10) 6 k0 from sR_nk (by decide)) ((exz6.R (k := 6) ht0 (by decide) (by decide)).trans sR_eq)))), ⟨q5, show oR (sR (newP (sR (newP (sR (sI (sI κ.2.2.2.2 6 k0 k1) 7 k0 x2) 6 k0 k2) q5 10) 7 k0 (some q5)) q8 11) 8 k0 (some q8)) 7 k0 = some q5 from (Eq.trans (show oR (sR (newP (sR (newP (sR (sI (sI κ.2.2.2.2 6 k0 k1) 7 k0 x2) 6 k0 k2) q5 10) 7 k0 (some q5)) q8 11) 8 k0 (some q8)) 7 k0 = oR (newP (sR (newP (sR (sI (sI κ.2.2.2.2 6 k0 k1) 7 k0 x2) 6 k0 k2) q5 10) 7 k0 (some q5)) q8 11) 7 k0 from sR_nk (by decide)) ((exz9.R (k := 7) (exz6.T ht0 (by decide)) (by decide) (by decide)).trans sR_eq)), fin_o (show oT (sR (newP (sR (newP (sR (sI (sI κ.2.2.2.2 6 k0 k1) 7 k0 x2) 6 k0 k2) q5 10) 7 k0 (some q5)) q8 11) 8 k0 (some q8)) q5 = 10 from (exz9.T (by show oT (newP (sR (sI (sI κ.2.2.2.2 6 k0 k1) 7 k0 x2) 6 k0 k2) q5 10) q5 = 10; rw [newP_T, if_pos rfl]) (by decide))) (show oT (sR (newP (sR (newP (sR (sI (sI κ.2.2.2.2 6 k0 k1) 7 k0 x2) 6 k0 k2) q5 10) 7 k0 (some q5)) q8 11) 8 k0 (some q8)) k0 = 20 + 3 from (exz9.T (exz6.T ht0 (by decide)) (by decide))) (by decide)⟩, ⟨q8, show oR (sR (newP (sR (newP (sR (sI (sI κ.2.2.2.2 6 k0 k1) 7 k0 x2) 6 k0 k2) q5 10) 7 k0 (some q5)) q8 11) 8 k0 (some q8)) 8 k0 = some q8 from (show oR (sR (newP (sR (newP (sR (sI (sI κ.2.2.2.2 6 k0 k1) 7 k0 x2) 6 k0 k2) q5 10) 7 k0 (some q5)) q8 11) 8 k0 (some q8)) 8 k0 = (some q8) from sR_eq), fin_o (show oT (sR (newP (sR (newP (sR (sI (sI κ.2.2.2.2 6 k0 k1) 7 k0 x2) 6 k0 k2) q5 10) 7 k0 (some q5)) q8 11) 8 k0 (some q8)) q8 = 11 from (by show oT (newP (sR (newP (sR (sI (sI κ.2.2.2.2 6 k0 k1) 7 k0 x2) 6 k0 k2) q5 10) 7 k0 (some q5)) q8 11) q8 = 11; rw [newP_T, if_pos rfl])) (show oT (sR (newP (sR (newP (sR (sI (sI κ.2.2.2.2 6 k0 k1) 7 k0 x2) 6 k0 k2) q5 10) 7 k0 (some q5)) q8 11) 8 k0 (some q8)) k0 = 20 + 3 from (exz9.T (exz6.T ht0 (by decide)) (by decide))) (by decide)⟩⟩⟩ hP hS ⟨(Nat.le_of_ble_eq_true rfl), (Nat.le_of_ble_eq_true rfl)⟩ ⟨(Nat.le_of_ble_eq_true rfl), (Nat.le_of_ble_eq_true rfl)⟩ dX1_init_40

-- init@26 @26
theorem vX9_init_1   : 0 ≤ (0 : Int32).toInt ∧ (0 : Int32).toInt ≤ 30 := by
  have q0 : (0 : Int32).toInt = 0 := by decide +kernel
  refine ⟨?_, ?_⟩ <;> first | assumption | omega | (subst_vars; omega) | trivial
-- init2@26 @26
theorem vX9_init_2 (sa : Nat → Nat) (κ : KS) (k0 : Nat) (k1 : Int32) (k2 : Nat) (k3 : Nat) (q3 : Nat) (ht0 : oT κ.2.2.2.2 k0 = 26) (ht2 : oT κ.2.2.2.2 k2 = 3) (ht3 : oT κ.2.2.2.2 k3 = 1) (hPV : PV sa κ.2.2.2.2) (exz4 : EX (sR (sI κ.2.2.2.2 19 k0 k1) 9 k0 (some k2)) (newP (sR (sI κ.2.2.2.2 19 k0 k1) 9 k0 (some k2)) q3 9)) (h0q3 : oT (sR (sI κ.2.2.2.2 19 k0 k1) 9 k0 (some k2)) q3 = 0) : ∀ k : Nat, (k : Int) < (0 : Int32).toInt → oA (sR (newP (sR (sI κ.2.2.2.2 19 k0 k1) 9 k0 (some k2)) q3 9) 10 k0 (some q3)) q3 k = some k3 := by
  have q0 : (0 : Int32).toInt = 0 := by decide +kernel
  intro k hk
  have z0 : (0 : Int32).toInt = 0 := by decide
  exfalso; omega
-- all2 @50
theorem vX9_init_3 (sa : Nat → Nat) (κ : KS) (k0 : Nat) (k1 : Int32) (k2 : Nat) (k3 : Nat) (q3 : Nat) (y6 : Int32) (P7 : PL) (ht0 : oT κ.2.2.2.2 k0 = 26) (ht2 : oT κ.2.2.2.2 k2 = 3) (ht3 : oT κ.2.2.2.2 k3 = 1) (hPV : PV sa κ.2.2.2.2) (exz4 : EX (sR (sI κ.2.2.2.2 19 k0 k1) 9 k0 (some k2)) (newP (sR (sI κ.2.2.2.2 19 k0 k1) 9 k0 (some k2)) q3 9)) (h0q3 : oT (sR (sI κ.2.2.2.2 19 k0 k1) 9 k0 (some k2)) q3 = 0) (hi26_0 : 0 ≤ y6.toInt) (hi26_1 : y6.toInt ≤ 30) (hf26_0 : EX (sR (newP (sR (sI κ.2.2.2.2 19 k0 k1) 9 k0 (some k2)) q3 9) 10 k0 (some q3)) P7) (hf26_2 : KPx False κ.2.2.2.2 P7) (hi26y : ∀ k : Nat, (k : Int) < y6.toInt → oA P7 q3 k = some k3) (c9 : 30 ≤ y6.toInt) : ∀ k : Nat, k < 30 → oA P7 q3 k = some k3 := by
  intro k hk
  exact hi26y k (by omega)
-- in@43 @43
theorem vX9_init_4 (y6 : Int32) (hi26_0 : 0 ≤ y6.toInt) (hi26_1 : y6.toInt ≤ 30) (c9 : y6.toInt < 30) : vp_in y6 30 := by
  exact vp_in_iff.mpr ⟨by omega, by omega⟩
-- nw@44 @44
theorem vX9_init_5 (y6 : Int32) (x11 : Int32) (hi26_0 : 0 ≤ y6.toInt) (hi26_1 : y6.toInt ≤ 30) (c9 : y6.toInt < 30) (ex11 : x11 = y6 + (1 : Int32)) : x11.toInt = y6.toInt + 1 := by
  have q1 : (1 : Int32).toInt = 1 := by decide +kernel
  have z9 : (1 : Int32).toInt = 1 := by decide +kernel
  rw [ex11, z_add (by omega) (by omega)]; first | done | omega
-- inv@26 @26
theorem vX9_init_6 (y6 : Int32) (x11 : Int32) (hi26_0 : 0 ≤ y6.toInt) (hi26_1 : y6.toInt ≤ 30) (c9 : y6.toInt < 30) (ex11 : x11 = y6 + (1 : Int32)) (tx11 : x11.toInt = y6.toInt + 1) : 0 ≤ x11.toInt ∧ x11.toInt ≤ 30 := by
  have q1 : (1 : Int32).toInt = 1 := by decide +kernel
  refine ⟨?_, ?_⟩ <;> first | assumption | omega | (subst_vars; omega) | trivial
-- inv2@26 @26
theorem vX9_init_7 (sa : Nat → Nat) (κ : KS) (k0 : Nat) (k1 : Int32) (k2 : Nat) (k3 : Nat) (q3 : Nat) (y6 : Int32) (P7 : PL) (x11 : Int32) (ht0 : oT κ.2.2.2.2 k0 = 26) (ht2 : oT κ.2.2.2.2 k2 = 3) (ht3 : oT κ.2.2.2.2 k3 = 1) (hPV : PV sa κ.2.2.2.2) (exz4 : EX (sR (sI κ.2.2.2.2 19 k0 k1) 9 k0 (some k2)) (newP (sR (sI κ.2.2.2.2 19 k0 k1) 9 k0 (some k2)) q3 9)) (h0q3 : oT (sR (sI κ.2.2.2.2 19 k0 k1) 9 k0 (some k2)) q3 = 0) (hi26_0 : 0 ≤ y6.toInt) (hi26_1 : y6.toInt ≤ 30) (hf26_0 : EX (sR (newP (sR (sI κ.2.2.2.2 19 k0 k1) 9 k0 (some k2)) q3 9) 10 k0 (some q3)) P7) (hf26_2 : KPx False κ.2.2.2.2 P7) (hi26y : ∀ k : Nat, (k : Int) < y6.toInt → oA P7 q3 k = some k3) (c9 : y6.toInt < 30) (exz10 : EX P7 (sA P7 q3 (va_up (oA P7 q3) y6.toNatClampNeg (some k3)))) (ex11 : x11 = y6 + (1 : Int32)) (tx11 : x11.toInt = y6.toInt + 1) : ∀ k : Nat, (k : Int) < x11.toInt → oA (sA P7 q3 (va_up (oA P7 q3) y6.toNatClampNeg (some k3))) q3 k = some k3 := by
  have q1 : (1 : Int32).toInt = 1 := by decide +kernel
  intro k hk
  rw [sA_eq]
  by_cases q : k = y6.toNatClampNeg
  · rw [q, vu_eq]
  · rw [vu_ne q]
    exact hi26y k (by rw [clampN] at q; omega)
-- meas@26 @26
theorem vX9_init_8 (y6 : Int32) (x11 : Int32) (hi26_0 : 0 ≤ y6.toInt) (hi26_1 : y6.toInt ≤ 30) (c9 : y6.toInt < 30) (ex11 : x11 = y6 + (1 : Int32)) (tx11 : x11.toInt = y6.toInt + 1) : (30 - x11.toInt.toNat) < (30 - y6.toInt.toNat) := by
  have q1 : (1 : Int32).toInt = 1 := by decide +kernel
  first | assumption | omega | (subst_vars; omega) | trivial
set_option maxHeartbeats 4000000 in
set_option maxRecDepth 100000 in
theorem NX9_init (l : Launch) (D : va_G) (cy : Nat → ClassId) (ad : Nat → Nat) (A : Nat → Prop) (sz0 : Nat) (sa : Nat → Nat)  (κ : KS) (sz sl : Nat) (hAF : ∀ q, A q → Fr sz0 q) (hAn : ∀ q : Nat, sz ≤ q → A q) (k0 : Nat) (k1 : Int32) (k2 : Nat) (k3 : Nat) (ht0 : oT κ.2.2.2.2 k0 = 26) (ht2 : oT κ.2.2.2.2 k2 = 3) (ht3 : oT κ.2.2.2.2 k3 = 1) (hPV : PV sa κ.2.2.2.2) : Met l yX9_init (Cond.code yX9_init cX9_init 5 none :: GWc) ({ frames := 1, cells := 1, slots := 30, locals := 20 }) (PcC D cy ad A sz0 sa [.ref k0, .int k1, .ref k2, .ref k3] κ sz sl) (va_Qv (fun (u : PL) => ((EXP (fun a => ¬ a = k0) κ.2.2.2.2 u) ∧ (PV sa u) ∧ (oT u k0 = 6) ∧ (KPx False κ.2.2.2.2 u)) ∧ (oI u 19 k0 = k1 ∧ oR u 9 k0 = some k2 ∧ ∃ b, oR u 10 k0 = some b ∧ oT κ.2.2.2.2 b = 0 ∧ oT u b = 9 ∧ ∀ k : Nat, k < 30 → oA u b k = some k3)) (fun (u : PL) (t : State) => Bx D cy ad A sz sl (tP κ u) (1) (30) t) A) (1) (30) A := by
  refine CM_of (loc0 := [(0, .ref k0), (1, .int k1), (2, .ref k2), (3, .ref k3)]) (own := RX9) (nm := "<init>") (by decide) rfl rfl rfl (Nat.le_of_ble_eq_true rfl) hAF hAn ?_
  intro p e s m below meth c ls hsz hsl C hP hS hl
  refine lv_aload_n C.x C.b dX9_init_0 rfl (lv_at hl 0 rfl) ?_
  refine W.objInit C.x C.b C.o (C.w _ cw_862) (C.w _ cw_2) (C.w _ cw_3) rfl (by rw [C.ml]; exact hl.1) rfl dX9_init_1 (Nat.le_of_ble_eq_true rfl) (Nat.le_of_ble_eq_true rfl) ?_
  refine W.eq (g2 := F0 m 4 ls []) rfl ?_
  refine lv_aload_n C.x C.b dX9_init_4 rfl (lv_at hl 0 rfl) ?_
  refine lv_iload_n C.x C.b dX9_init_5 rfl (lv_at hl 1 rfl) ?_
  refine pp_X9_0 C rfl rfl hP hS (t20 (a := k0) (t := 26) ht0) cw_863 dX9_init_6 (fun H locs hP hS => ?_)
  have pvz1 : PV sa (sI κ.2.2.2.2 19 k0 k1) := hPV.rI (raw_le ht0 (by decide))
  have xpz1 : EXP (fun a => ¬ a = k0) κ.2.2.2.2 (sI κ.2.2.2.2 19 k0 k1) := XP.rf.trans XP.xI
  have kpz1 : KPx False κ.2.2.2.2 (sI κ.2.2.2.2 19 k0 k1) := KPx.rf.rI9 (raw_le ht0 (by decide))
  refine lv_aload_n C.x C.b dX9_init_9 rfl (lv_at hl 0 rfl) ?_
  refine lv_aload_n C.x C.b dX9_init_10 rfl (lv_at hl 2 rfl) ?_
  refine pp_X9_1 (v := (some k2)) C rfl rfl hP hS (t20 (a := k0) (t := 26) ht0) cw_728 dX9_init_11 (fun H locs hP hS => ?_)
  have pvz2 : PV sa (sR (sI κ.2.2.2.2 19 k0 k1) 9 k0 (some k2)) := pvz1.rR (raw_le ht0 (by decide))
  have xpz2 : EXP (fun a => ¬ a = k0) κ.2.2.2.2 (sR (sI κ.2.2.2.2 19 k0 k1) 9 k0 (some k2)) := xpz1.trans XP.xR
  have kpz2 : KPx False κ.2.2.2.2 (sR (sI κ.2.2.2.2 19 k0 k1) 9 k0 (some k2)) := kpz1.rR9 (raw_le ht0 (by decide))
  refine lv_aload_n C.x C.b dX9_init_14 rfl (lv_at hl 0 rfl) ?_
  refine lv_bipush (v := 30) C.x C.b dX9_init_15 (by decide +kernel) ?_
  refine cn_a9 C hP hS cw_864 ⟨(Nat.le_of_ble_eq_true rfl), (Nat.le_of_ble_eq_true rfl)⟩ dX9_init_17 (fun q3 H h0q3 hP hS => ?_)
  have exz4 : EX (sR (sI κ.2.2.2.2 19 k0 k1) 9 k0 (some k2)) (newP (sR (sI κ.2.2.2.2 19 k0 k1) 9 k0 (some k2)) q3 9) := (EX.newP h0q3)
  have kpz4 : KPx False κ.2.2.2.2 (newP (sR (sI κ.2.2.2.2 19 k0 k1) 9 k0 (some k2)) q3 9) := kpz2.newP9 pvz2 h0q3
  have xpz4 : EXP (fun a => ¬ a = k0) κ.2.2.2.2 (newP (sR (sI κ.2.2.2.2 19 k0 k1) 9 k0 (some k2)) q3 9) := xpz2.trans (XP.ex exz4)
  have pvz4 : PV sa (newP (sR (sI κ.2.2.2.2 19 k0 k1) 9 k0 (some k2)) q3 9) := (pvz2.arr h0q3 (by decide))
  refine pp_X9_2 (v := (some q3)) C rfl rfl hP hS (t20 (a := k0) (t := 26) (exz4.T ht0 (by decide))) cw_730 dX9_init_20 (fun H locs hP hS => ?_)
  have pvz5 : PV sa (sR (newP (sR (sI κ.2.2.2.2 19 k0 k1) 9 k0 (some k2)) q3 9) 10 k0 (some q3)) := pvz4.rR (raw_le (exz4.T ht0 (by decide)) (by decide))
  have xpz5 : EXP (fun a => ¬ a = k0) κ.2.2.2.2 (sR (newP (sR (sI κ.2.2.2.2 19 k0 k1) 9 k0 (some k2)) q3 9) 10 k0 (some q3)) := xpz4.trans XP.xR
  have kpz5 : KPx False κ.2.2.2.2 (sR (newP (sR (sI κ.2.2.2.2 19 k0 k1) 9 k0 (some k2)) q3 9) 10 k0 (some q3)) := kpz4.rR9 (raw_le (exz4.T ht0 (by decide)) (by decide))
  refine lv_iconst (v := 0) C.x C.b dX9_init_23 (by decide +kernel) ?_
  refine lv_istore (lv' := [(4, .int 0), (0, .ref k0), (1, .int k1), (2, .ref k2), (3, .ref k3)]) C.x C.b dX9_init_24 hl (by decide) rfl (fun ls hl => ?_)
  have lp26 : ∀ (n : Nat) (y6 : Int32) (P7 : PL) (H : Heap) (locs : List Loc) (ls : Array Slot), (30 - y6.toInt.toNat) < n → (EX (sR (newP (sR (sI κ.2.2.2.2 19 k0 k1) 9 k0 (some k2)) q3 9) 10 k0 (some q3)) P7) → (PV sa P7) → (KPx False κ.2.2.2.2 P7) → ((0 ≤ y6.toInt ∧ y6.toInt ≤ 30) ∧ (∀ k : Nat, (k : Int) < y6.toInt → oA P7 q3 k = some k3)) → CH D cy ad A (tP (tP (tP (tP (tP κ (sI κ.2.2.2.2 19 k0 k1)) (sR (sI κ.2.2.2.2 19 k0 k1) 9 k0 (some k2))) (newP (sR (sI κ.2.2.2.2 19 k0 k1) 9 k0 (some k2)) q3 9)) (sR (newP (sR (sI κ.2.2.2.2 19 k0 k1) 9 k0 (some k2)) q3 9) 10 k0 (some q3))) P7) H → va_S A s.heap H locs → lv_has ls 5 [(4, .int y6), (0, .ref k0), (1, .int k1), (2, .ref k2), (3, .ref k3)] → W p l e (headSpec (Cond.code yX9_init cX9_init 5 none :: GWc) ({ frames := 1, cells := 1, slots := 30, locals := 20 })).room s m #[.ref k0, .int k1, .ref k2, .ref k3] below meth c H locs (0 + 1) (0 + 30) (MQ below (va_Qv (fun (u : PL) => ((EXP (fun a => ¬ a = k0) κ.2.2.2.2 u) ∧ (PV sa u) ∧ (oT u k0 = 6) ∧ (KPx False κ.2.2.2.2 u)) ∧ (oI u 19 k0 = k1 ∧ oR u 9 k0 = some k2 ∧ ∃ b, oR u 10 k0 = some b ∧ oT κ.2.2.2.2 b = 0 ∧ oT u b = 9 ∧ ∀ k : Nat, k < 30 → oA u b k = some k3)) (fun (u : PL) (t : State) => Bx D cy ad A sz sl (tP κ u) (1) (30) t) A) #[.ref k0, .int k1, .ref k2, .ref k3] s (1) (30) A) (F0 m 26 ls []) := by
    intro n
    induction n with
    | zero => intro y6 P7 H locs ls hn; exact absurd hn (Nat.not_lt_zero _)
    | succ n26 ih26 =>
      intro y6 P7 H locs ls hn26 hf26_0 hf26_1 hf26_2 hi26 hP hS hl
      obtain ⟨hi26, hi26y⟩ := hi26
      obtain ⟨hi26_0, hi26_1⟩ := hi26
      refine lv_iload C.x C.b dX9_init_26 (lv_at hl 0 rfl) ?_
      refine lv_aload_n C.x C.b dX9_init_28 rfl (lv_at hl 1 rfl) ?_
      refine pg_X9_2 (v := (some q3)) C hP (t20 (a := k0) (t := 26) (hf26_0.T (exz4.T ht0 (by decide)) (by decide))) ((hf26_0.R (k := 10) (exz4.T ht0 (by decide)) (by decide) (by decide)).trans sR_eq) cw_730 dX9_init_29 ?_
      refine pl_9 C hP (t20 (a := q3) (t := 9) (hf26_0.T (by show oT (newP (sR (sI κ.2.2.2.2 19 k0 k1) 9 k0 (some k2)) q3 9) q3 = 9; rw [newP_T, if_pos rfl]) (by decide))) dX9_init_32 ?_
      refine lv_icmp_ge (tgt := 50) C.x C.b dX9_init_33 (by decide) (fun c9 => ?_) (fun c9 => ?_)
      · have c9 : 30 ≤ y6.toInt := by have h := z_le c9; rw [show (30 : Int32).toInt = 30 from by decide +kernel] at h; exact h
        have hP := CH.fin (t := 6) (n := 0) hP (show oT P7 k0 = 20 + 6 from (hf26_0.T (exz4.T ht0 (by decide)) (by decide))) (by decide)
        have pvF : PV sa (sC (sT P7 k0 6) k0 (0)) := fin_6 hf26_1 (hf26_0.T (exz4.T ht0 (by decide)) (by decide)) ⟨k2, ((hf26_0.R (k := 9) (exz4.T ht0 (by decide)) (by decide) (by decide)).trans (Eq.trans (show oR (sR (newP (sR (sI κ.2.2.2.2 19 k0 k1) 9 k0 (some k2)) q3 9) 10 k0 (some q3)) 9 k0 = oR (newP (sR (sI κ.2.2.2.2 19 k0 k1) 9 k0 (some k2)) q3 9) 9 k0 from sR_nk (by decide)) ((exz4.R (k := 9) ht0 (by decide) (by decide)).trans sR_eq))), (hf26_0.T (exz4.T ht2 (by decide)) (by decide))⟩ ⟨q3, ((hf26_0.R (k := 10) (exz4.T ht0 (by decide)) (by decide) (by decide)).trans sR_eq), (hf26_0.T (by show oT (newP (sR (sI κ.2.2.2.2 19 k0 k1) 9 k0 (some k2)) q3 9) q3 = 9; rw [newP_T, if_pos rfl]) (by decide))⟩
        have xpF : EXP (fun a => ¬ a = k0) κ.2.2.2.2 (sC (sT P7 k0 6) k0 (0)) := (xpz5.trans (XP.ex hf26_0)).trans XP.xC
        have kpF : KPx False κ.2.2.2.2 (sC (sT P7 k0 6) k0 (0)) := hf26_2.fin9 (raw_le (hf26_0.T (exz4.T ht0 (by decide)) (by decide)) (by decide))
        have hP : CH D cy ad A (tP (tP (tP (tP (tP (tP κ (sI κ.2.2.2.2 19 k0 k1)) (sR (sI κ.2.2.2.2 19 k0 k1) 9 k0 (some k2))) (newP (sR (sI κ.2.2.2.2 19 k0 k1) 9 k0 (some k2)) q3 9)) (sR (newP (sR (sI κ.2.2.2.2 19 k0 k1) 9 k0 (some k2)) q3 9) 10 k0 (some q3))) P7) (sC (sT P7 k0 6) k0 (0))) H := hP
        have hP : CH D cy ad A (tP κ (sC (sT P7 k0 6) k0 (0))) H := CH.cong hP rfl rfl rfl rfl rfl rfl rfl rfl rfl rfl rfl rfl rfl rfl rfl rfl rfl rfl rfl rfl rfl rfl rfl rfl rfl rfl rfl
        exact c_retv C hsz hsl (sC (sT P7 k0 6) k0 (0)) ⟨⟨xpF, pvF, fin_T, kpF⟩, ⟨show oI P7 19 k0 = k1 from ((hf26_0.I (k := 19) (exz4.T ht0 (by decide)) (by decide) (by decide)).trans ((exz4.I (k := 19) ht0 (by decide) (by decide)).trans (show oI (sI κ.2.2.2.2 19 k0 k1) 19 k0 = k1 from sI_eq))), show oR P7 9 k0 = some k2 from ((hf26_0.R (k := 9) (exz4.T ht0 (by decide)) (by decide) (by decide)).trans (Eq.trans (show oR (sR (newP (sR (sI κ.2.2.2.2 19 k0 k1) 9 k0 (some k2)) q3 9) 10 k0 (some q3)) 9 k0 = oR (newP (sR (sI κ.2.2.2.2 19 k0 k1) 9 k0 (some k2)) q3 9) 9 k0 from sR_nk (by decide)) ((exz4.R (k := 9) ht0 (by decide) (by decide)).trans sR_eq))), q3, show oR P7 10 k0 = some q3 from ((hf26_0.R (k := 10) (exz4.T ht0 (by decide)) (by decide) (by decide)).trans (show oR (sR (newP (sR (sI κ.2.2.2.2 19 k0 k1) 9 k0 (some k2)) q3 9) 10 k0 (some q3)) 10 k0 = (some q3) from sR_eq)), show oT κ.2.2.2.2 q3 = 0 from h0q3, fin_o (show oT P7 q3 = 9 from (hf26_0.T (by show oT (newP (sR (sI κ.2.2.2.2 19 k0 k1) 9 k0 (some k2)) q3 9) q3 = 9; rw [newP_T, if_pos rfl]) (by decide))) (show oT P7 k0 = 20 + 6 from (hf26_0.T (exz4.T ht0 (by decide)) (by decide))) (by decide), (vX9_init_3 sa κ k0 k1 k2 k3 q3 y6 P7 ht0 ht2 ht3 hPV exz4 h0q3 hi26_0 hi26_1 hf26_0 hf26_2 hi26y c9)⟩⟩ hP hS ⟨(Nat.le_of_ble_eq_true rfl), (Nat.le_of_ble_eq_true rfl)⟩ ⟨(Nat.le_of_ble_eq_true rfl), (Nat.le_of_ble_eq_true rfl)⟩ dX9_init_50
      · have c9 : y6.toInt < 30 := by have h := z_nle c9; rw [show (30 : Int32).toInt = 30 from by decide +kernel] at h; exact h
        refine lv_aload_n C.x C.b dX9_init_36 rfl (lv_at hl 1 rfl) ?_
        refine pg_X9_2 (v := (some q3)) C hP (t20 (a := k0) (t := 26) (hf26_0.T (exz4.T ht0 (by decide)) (by decide))) ((hf26_0.R (k := 10) (exz4.T ht0 (by decide)) (by decide) (by decide)).trans sR_eq) cw_730 dX9_init_37 ?_
        refine lv_iload C.x C.b dX9_init_40 (lv_at hl 0 rfl) ?_
        refine lv_aload_n C.x C.b dX9_init_42 rfl (lv_at hl 4 rfl) ?_
        refine pw_9 C hP hS (t20 (a := q3) (t := 9) (hf26_0.T (by show oT (newP (sR (sI κ.2.2.2.2 19 k0 k1) 9 k0 (some k2)) q3 9) q3 = 9; rw [newP_T, if_pos rfl]) (by decide))) rfl (t20 (a := k3) (t := 1) (hf26_0.T (exz4.T ht3 (by decide)) (by decide))) (vX9_init_4 y6 hi26_0 hi26_1 c9) dX9_init_43 (fun H locs hP hS => ?_)
        have exz10 : EX P7 (sA P7 q3 (va_up (oA P7 q3) y6.toNatClampNeg (some k3))) := (EX.stA (hf26_0.T (by show oT (newP (sR (sI κ.2.2.2.2 19 k0 k1) 9 k0 (some k2)) q3 9) q3 = 9; rw [newP_T, if_pos rfl]) (by decide)))
        have kpz10 : KPx False κ.2.2.2.2 (sA P7 q3 (va_up (oA P7 q3) y6.toNatClampNeg (some k3))) := hf26_2.stA9
        have xpz10 : EXP (fun a => ¬ a = k0) κ.2.2.2.2 (sA P7 q3 (va_up (oA P7 q3) y6.toNatClampNeg (some k3))) := (xpz5.trans (XP.ex hf26_0)).trans (XP.ex exz10)
        have pvz10 : PV sa (sA P7 q3 (va_up (oA P7 q3) y6.toNatClampNeg (some k3))) := (hf26_1.stA (hf26_0.T (by show oT (newP (sR (sI κ.2.2.2.2 19 k0 k1) 9 k0 (some k2)) q3 9) q3 = 9; rw [newP_T, if_pos rfl]) (by decide)) (nt_up (hf26_1.t9 (hf26_0.T (by show oT (newP (sR (sI κ.2.2.2.2 19 k0 k1) 9 k0 (some k2)) q3 9) q3 = 9; rw [newP_T, if_pos rfl]) (by decide))) (nt_s (hf26_0.T (exz4.T ht3 (by decide)) (by decide)))))
        obtain ⟨x11, ex11⟩ : ∃ y : Int32, y = y6 + (1 : Int32) := ⟨_, rfl⟩
        have tx11 : x11.toInt = y6.toInt + 1 := (vX9_init_5 y6 x11 hi26_0 hi26_1 c9 ex11)
        refine lv_iinc (v := x11) (lv' := [(4, .int x11), (0, .ref k0), (1, .int k1), (2, .ref k2), (3, .ref k3)]) C.x C.b dX9_init_44 hl (k := 0) rfl (by rw [ex11]; rfl) (by decide) rfl (fun ls hl => ?_)
        refine lv_goto (tgt := 26) C.x C.b dX9_init_47 (by decide) ?_
        have hP : CH D cy ad A (tP (tP (tP (tP (tP κ (sI κ.2.2.2.2 19 k0 k1)) (sR (sI κ.2.2.2.2 19 k0 k1) 9 k0 (some k2))) (newP (sR (sI κ.2.2.2.2 19 k0 k1) 9 k0 (some k2)) q3 9)) (sR (newP (sR (sI κ.2.2.2.2 19 k0 k1) 9 k0 (some k2)) q3 9) 10 k0 (some q3))) (sA P7 q3 (va_up (oA P7 q3) y6.toNatClampNeg (some k3)))) H := CH.cong hP rfl rfl rfl rfl rfl rfl rfl rfl rfl rfl rfl rfl rfl rfl rfl rfl rfl rfl rfl rfl rfl rfl rfl rfl rfl rfl rfl
        refine W.widen (k := 0 + 1) (n := 0 + 30) (Nat.le_of_ble_eq_true rfl) (Nat.le_of_ble_eq_true rfl) ?_
        exact ih26 x11 (sA P7 q3 (va_up (oA P7 q3) y6.toNatClampNeg (some k3))) _ _ _ (Nat.lt_of_lt_of_le (vX9_init_8 y6 x11 hi26_0 hi26_1 c9 ex11 tx11) (Nat.le_of_lt_succ hn26)) (hf26_0.trans exz10) pvz10 kpz10 ⟨(vX9_init_6 y6 x11 hi26_0 hi26_1 c9 ex11 tx11), (vX9_init_7 sa κ k0 k1 k2 k3 q3 y6 P7 x11 ht0 ht2 ht3 hPV exz4 h0q3 hi26_0 hi26_1 hf26_0 hf26_2 hi26y c9 exz10 ex11 tx11)⟩ hP hS (lv_sub hl [0, 1, 2, 3, 4] rfl)
  have hP : CH D cy ad A (tP (tP (tP (tP (tP κ (sI κ.2.2.2.2 19 k0 k1)) (sR (sI κ.2.2.2.2 19 k0 k1) 9 k0 (some k2))) (newP (sR (sI κ.2.2.2.2 19 k0 k1) 9 k0 (some k2)) q3 9)) (sR (newP (sR (sI κ.2.2.2.2 19 k0 k1) 9 k0 (some k2)) q3 9) 10 k0 (some q3))) (sR (newP (sR (sI κ.2.2.2.2 19 k0 k1) 9 k0 (some k2)) q3 9) 10 k0 (some q3))) H := CH.cong hP rfl rfl rfl rfl rfl rfl rfl rfl rfl rfl rfl rfl rfl rfl rfl rfl rfl rfl rfl rfl rfl rfl rfl rfl rfl rfl rfl
  refine W.widen (k := 0 + 1) (n := 0 + 30) (Nat.le_of_ble_eq_true rfl) (Nat.le_of_ble_eq_true rfl) ?_
  exact lp26 ((30 - (0 : Int32).toInt.toNat) + 1) (0 : Int32) (sR (newP (sR (sI κ.2.2.2.2 19 k0 k1) 9 k0 (some k2)) q3 9) 10 k0 (some q3)) _ _ _ (Nat.lt_succ_self _) EX.rf pvz5 kpz5 ⟨(vX9_init_1  ), (vX9_init_2 sa κ k0 k1 k2 k3 q3 ht0 ht2 ht3 hPV exz4 h0q3)⟩ hP hS (lv_sub hl [0, 1, 2, 3, 4] rfl)
