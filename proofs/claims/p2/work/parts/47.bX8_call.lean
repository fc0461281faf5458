def KX8_eval (l : Launch) (D : va_G) (cy : Nat → ClassId) (ad : Nat → Nat) (A : Nat → Prop) (sz0 : Nat) (sa : Nat → Nat) (d : Nat) : Prop := ∀ (κ : KS) (sz sl : Nat) (hAF : ∀ q, A q → Fr sz0 q) (hAn : ∀ q : Nat, sz ≤ q → A q) (k0 : Option Nat) (k1 : Int32) (ht0 : NT κ.2.2.2.2 2 k0) (hPV : PV sa κ.2.2.2.2) (hSV : SV ad κ.2.2.2.2 (κ.2.1 0) (κ.2.1 1) (κ.2.2.2.1 6) (κ.2.2.2.1 7) (κ.2.2.2.1 8) (κ.2.2.2.1 13) (κ.2.2.2.1 15) (κ.2.2.2.1 17) (κ.1 1).toInt) (hpre : 0 ≤ (κ.1 8).toInt ∧ (κ.1 8).toInt ≤ 12 ∧ 0 ≤ k1.toInt ∧ k1.toInt ≤ 41 ∧ 41 ≤ k1.toInt + ((d : Nat) : Int)), Met l yX8_eval (Cond.code yX8_eval cX8_eval 3 (some (.object "PhraseDesk$Value")) :: GWc) ({ frames := 4 * d + 30, cells := 13 * cto κ.2.2.2.2 k0, slots := 120 * cto κ.2.2.2.2 k0, locals := 200 * d + 700 }) (PcC D cy ad A sz0 sa [.ref (ad 3), va_rf k0, .int k1] κ sz sl) (va_Qq (fun (r : Option Nat) (u : Int32 × Int32 × Int32 × Int32 × (Nat → Int32) × (Nat → Option Nat) × (Nat → Option Nat) × PL) => (EX κ.2.2.2.2 u.2.2.2.2.2.2.2) ∧ (PV sa u.2.2.2.2.2.2.2) ∧ (SV ad u.2.2.2.2.2.2.2 (κ.2.1 0) (κ.2.1 1) (κ.2.2.2.1 6) (κ.2.2.2.1 7) (κ.2.2.2.1 8) (κ.2.2.2.1 13) u.2.2.2.2.2.1 u.2.2.2.2.2.2.1 (κ.1 1).toInt) ∧ (NT u.2.2.2.2.2.2.2 1 r) ∧ (0 ≤ u.1.toInt ∧ u.1.toInt ≤ 12)) (fun (u : Int32 × Int32 × Int32 × Int32 × (Nat → Int32) × (Nat → Option Nat) × (Nat → Option Nat) × PL) (t : State) => Bx D cy ad A sz sl (tP (tQ (tQ (tA (tI (tI (tI (tI κ 8 u.1) 9 u.2.1) 10 u.2.2.1) 11 u.2.2.2.1) 16 u.2.2.2.2.1) 15 u.2.2.2.2.2.1) 17 u.2.2.2.2.2.2.1) u.2.2.2.2.2.2.2) (13 * cto κ.2.2.2.2 k0) (120 * cto κ.2.2.2.2 k0) t) A) (13 * cto κ.2.2.2.2 k0) (120 * cto κ.2.2.2.2 k0) A

-- frames @12
theorem vX8_eval_v0_1   : 0 + 1 ≤ 4 * 0 + 30 := by
  first | assumption | omega | (subst_vars; omega) | trivial
-- locals @12
theorem vX8_eval_v0_2   : 8 + (2 + 11) + 0 ≤ 200 * 0 + 700 := by
  first | assumption | omega | (subst_vars; omega) | trivial
-- room @12
theorem vX8_eval_v0_3 (κ : KS)  : 0 + 0 ≤ 13 * cto κ.2.2.2.2 none := by
  have zc0 : cto κ.2.2.2.2 none = 0 := rfl
  first | assumption | omega | (subst_vars; omega) | trivial
-- room @12
theorem vX8_eval_v0_4 (κ : KS)  : 0 + 0 ≤ 120 * cto κ.2.2.2.2 none := by
  have zc0 : cto κ.2.2.2.2 none = 0 := rfl
  first | assumption | omega | (subst_vars; omega) | trivial
-- post @15
theorem vX8_eval_v0_5 (κ : KS) (hpre_0 : 0 ≤ (κ.1 8).toInt) (hpre_1 : (κ.1 8).toInt ≤ 12) : 0 ≤ (κ.1 8).toInt ∧ (κ.1 8).toInt ≤ 12 := by
  refine ⟨?_, ?_⟩ <;> first | assumption | omega | (subst_vars; omega) | trivial
-- growm @15
theorem vX8_eval_v0_6 (κ : KS)  : 13 * cto κ.2.2.2.2 none ≤ 13 * cto κ.2.2.2.2 none := by
  have zc0 : cto κ.2.2.2.2 none = 0 := rfl
  first | assumption | omega | (subst_vars; omega) | trivial
-- growm @15
theorem vX8_eval_v0_7 (κ : KS)  : 120 * cto κ.2.2.2.2 none ≤ 120 * cto κ.2.2.2.2 none := by
  have zc0 : cto κ.2.2.2.2 none = 0 := rfl
  first | assumption | omega | (subst_vars; omega) | trivial
-- dead@7 @16
theorem vX8_eval_v0_8 (k1 : Int32) (hpre_2 : 0 ≤ k1.toInt) (hpre_3 : k1.toInt ≤ 41) (hpre_4 : 41 ≤ k1.toInt + ((0 : Nat) : Int)) (c4 : k1.toInt ≤ 40) : False := by
  first | assumption | omega | (subst_vars; omega) | trivial
-- room @12
theorem vX8_eval_v0_9 (κ : KS) (b1 : Nat)  : 0 + 0 ≤ 13 * cto κ.2.2.2.2 (some b1) := by
  first | assumption | omega | (subst_vars; omega) | trivial
-- room @12
theorem vX8_eval_v0_10 (κ : KS) (b1 : Nat)  : 0 + 0 ≤ 120 * cto κ.2.2.2.2 (some b1) := by
  first | assumption | omega | (subst_vars; omega) | trivial
-- growm @15
theorem vX8_eval_v0_11 (κ : KS) (b1 : Nat)  : 13 * cto κ.2.2.2.2 (some b1) ≤ 13 * cto κ.2.2.2.2 (some b1) := by
  first | assumption | omega | (subst_vars; omega) | trivial
-- growm @15
theorem vX8_eval_v0_12 (κ : KS) (b1 : Nat)  : 120 * cto κ.2.2.2.2 (some b1) ≤ 120 * cto κ.2.2.2.2 (some b1) := by
  first | assumption | omega | (subst_vars; omega) | trivial
set_option maxHeartbeats 4000000 in
set_option maxRecDepth 100000 in
theorem NX8_eval_v0 (l : Launch) (D : va_G) (cy : Nat → ClassId) (ad : Nat → Nat) (A : Nat → Prop) (sz0 : Nat) (sa : Nat → Nat)  : KX8_eval l D cy ad A sz0 sa 0 := by
  intro κ sz sl hAF hAn k0 k1 ht0 hPV hSV hpre
  refine CM_of (loc0 := [(0, .ref (ad 3)), (1, va_rf k0), (2, .int k1)]) (own := RX8) (nm := "eval") (by decide) rfl rfl (by cases k0 <;> rfl) (by cases k0 <;> exact Nat.le_of_ble_eq_true rfl) hAF hAn ?_
  intro p e s m below meth c ls hsz hsl C hP hS hl
  obtain ⟨hpre_0, hpre_1, hpre_2, hpre_3, hpre_4⟩ := hpre
  refine lq_aload_n C.x C.b dX8_eval_0 rfl (lv_at hl 1 rfl) ?_
  cases k0 with
  | none =>
    refine lv_ifnullN (tgt := 10) C.x C.b dX8_eval_1 (by decide) ?_
    refine lv_aload_n C.x C.b dX8_eval_10 rfl (lv_at hl 0 rfl) ?_
    refine lv_iconst (v := 1) C.x C.b dX8_eval_11 (by decide +kernel) ?_
    refine c_callVq (n := 1) (As := [.int 1]) (rest := []) C hP hS hl.1 (NX8_fail l D cy ad A sz0 sa κ s.heap.size (SLT s.heap) C.f (fun q h => C.a q (Nat.le_trans hS.1 h)) (1 : Int32) ) ⟨cw_702, cw_695, by decide +kernel⟩ ⟨cw_703, cw_704, cw_705⟩ rfl (hP.recvS (k := 3) (ci := 10) C.K rfl rfl) rfl rfl (lv_room (Nat.le_of_ble_eq_true rfl)) ⟨(vX8_eval_v0_1  ), (vX8_eval_v0_2  )⟩ ⟨(vX8_eval_v0_3 κ ), (vX8_eval_v0_4 κ )⟩ dX8_eval_12 (fun r2 u H locs hr2 hP hS => ?_)
    obtain ⟨n3, rfl⟩ : ∃ z, z = u := ⟨_, rfl⟩
    have hP : CH D cy ad A (tI κ 9 n3) H := hP
    have hr2 : (NT κ.2.2.2.2 1 r2) := hr2
    have hP : CH D cy ad A (tP (tQ (tQ (tA (tI (tI (tI (tI κ 8 (κ.1 8)) 9 n3) 10 (κ.1 10)) 11 (κ.1 11)) 16 (κ.2.2.1 16)) 15 (κ.2.2.2.1 15)) 17 (κ.2.2.2.1 17)) κ.2.2.2.2) H := CH.cong hP rfl rfl rfl rfl rfl rfl rfl rfl rfl rfl rfl rfl rfl rfl rfl rfl rfl rfl rfl rfl rfl rfl rfl rfl rfl rfl rfl
    exact c_retq (v := r2) (Or.inl ⟨_, rfl⟩) C hsz hsl ⟨(κ.1 8), n3, (κ.1 10), (κ.1 11), (κ.2.2.1 16), (κ.2.2.2.1 15), (κ.2.2.2.1 17), κ.2.2.2.2⟩ ⟨EX.rf, hPV, hSV, hr2, (vX8_eval_v0_5 κ hpre_0 hpre_1)⟩ hP hS ⟨(vX8_eval_v0_3 κ ), (vX8_eval_v0_4 κ )⟩ ⟨(vX8_eval_v0_6 κ ), (vX8_eval_v0_7 κ )⟩ dX8_eval_15
  | some b1 =>
    have hb1 : oT κ.2.2.2.2 b1 = 2 := ht0 b1 rfl
    refine lv_ifnull C.x C.b dX8_eval_1 ?_
    refine lv_iload_n C.x C.b dX8_eval_4 rfl (lv_at hl 2 rfl) ?_
    refine lv_bipush (v := 40) C.x C.b dX8_eval_5 (by decide +kernel) ?_
    refine lv_icmp_le (tgt := 16) C.x C.b dX8_eval_7 (by decide) (fun c4 => ?_) (fun c4 => ?_)
    · have c4 : k1.toInt ≤ 40 := by have h := z_le c4; rw [show (40 : Int32).toInt = 40 from by decide +kernel] at h; exact h
      exact absurd (vX8_eval_v0_8 k1 hpre_2 hpre_3 hpre_4 c4) id
    · have c4 : 40 < k1.toInt := by have h := z_nle c4; rw [show (40 : Int32).toInt = 40 from by decide +kernel] at h; exact h
      refine lv_aload_n C.x C.b dX8_eval_10 rfl (lv_at hl 0 rfl) ?_
      refine lv_iconst (v := 1) C.x C.b dX8_eval_11 (by decide +kernel) ?_
      refine c_callVq (n := 1) (As := [.int 1]) (rest := []) C hP hS hl.1 (NX8_fail l D cy ad A sz0 sa κ s.heap.size (SLT s.heap) C.f (fun q h => C.a q (Nat.le_trans hS.1 h)) (1 : Int32) ) ⟨cw_702, cw_695, by decide +kernel⟩ ⟨cw_703, cw_704, cw_705⟩ rfl (hP.recvS (k := 3) (ci := 10) C.K rfl rfl) rfl rfl (lv_room (Nat.le_of_ble_eq_true rfl)) ⟨(vX8_eval_v0_1  ), (vX8_eval_v0_2  )⟩ ⟨(vX8_eval_v0_9 κ b1 ), (vX8_eval_v0_10 κ b1 )⟩ dX8_eval_12 (fun r5 u H locs hr5 hP hS => ?_)
      obtain ⟨n6, rfl⟩ : ∃ z, z = u := ⟨_, rfl⟩
      have hP : CH D cy ad A (tI κ 9 n6) H := hP
      have hr5 : (NT κ.2.2.2.2 1 r5) := hr5
      have hP : CH D cy ad A (tP (tQ (tQ (tA (tI (tI (tI (tI κ 8 (κ.1 8)) 9 n6) 10 (κ.1 10)) 11 (κ.1 11)) 16 (κ.2.2.1 16)) 15 (κ.2.2.2.1 15)) 17 (κ.2.2.2.1 17)) κ.2.2.2.2) H := CH.cong hP rfl rfl rfl rfl rfl rfl rfl rfl rfl rfl rfl rfl rfl rfl rfl rfl rfl rfl rfl rfl rfl rfl rfl rfl rfl rfl rfl
      exact c_retq (v := r5) (Or.inl ⟨_, rfl⟩) C hsz hsl ⟨(κ.1 8), n6, (κ.1 10), (κ.1 11), (κ.2.2.1 16), (κ.2.2.2.1 15), (κ.2.2.2.1 17), κ.2.2.2.2⟩ ⟨EX.rf, hPV, hSV, hr5, (vX8_eval_v0_5 κ hpre_0 hpre_1)⟩ hP hS ⟨(vX8_eval_v0_9 κ b1 ), (vX8_eval_v0_10 κ b1 )⟩ ⟨(vX8_eval_v0_11 κ b1 ), (vX8_eval_v0_12 κ b1 )⟩ dX8_eval_15

-- nw@8 @8
theorem vX8_logic_1 (k1 : Int32) (d : Nat) (x4 : Int32) (hpre_2 : 0 ≤ k1.toInt) (hpre_3 : k1.toInt ≤ 40) (hpre_4 : 40 ≤ k1.toInt + ((d : Nat) : Int)) (ex4 : x4 = k1 + (1 : Int32)) : x4.toInt = k1.toInt + 1 := by
  have q1 : (1 : Int32).toInt = 1 := by decide +kernel
  have w1 : (1 : Int32).toInt = 1 := by decide +kernel
  rw [ex4, z_add (by omega) (by omega)]; first | done | omega
-- pre:X8_eval@9 @9
theorem vX8_logic_2 (κ : KS) (k1 : Int32) (d : Nat) (x4 : Int32) (hpre_0 : 0 ≤ (κ.1 8).toInt) (hpre_1 : (κ.1 8).toInt ≤ 12) (hpre_2 : 0 ≤ k1.toInt) (hpre_3 : k1.toInt ≤ 40) (hpre_4 : 40 ≤ k1.toInt + ((d : Nat) : Int)) (ex4 : x4 = k1 + (1 : Int32)) (tx4 : x4.toInt = k1.toInt + 1) : 0 ≤ (κ.1 8).toInt ∧ (κ.1 8).toInt ≤ 12 ∧ 0 ≤ x4.toInt ∧ x4.toInt ≤ 41 ∧ 41 ≤ x4.toInt + ((d : Nat) : Int) := by
  have q1 : (1 : Int32).toInt = 1 := by decide +kernel
  refine ⟨?_, ?_, ?_, ?_, ?_⟩ <;> first | assumption | omega | (subst_vars; omega) | trivial
-- frames @9
theorem vX8_logic_3 (d : Nat)  : 4 * d + 30 + 1 ≤ 4 * d + 33 := by
  first | assumption | omega | (subst_vars; omega) | trivial
-- locals @9
theorem vX8_logic_4 (d : Nat)  : 8 + (3 + 11) + (200 * d + 700) ≤ 200 * d + 860 := by
  first | assumption | omega | (subst_vars; omega) | trivial
-- room @9
theorem vX8_logic_5 (κ : KS) (k0 : Nat) (y1 : Option Nat) (y2 : Option Nat) (y3 : Option Nat) (kdy1 : 1 + cto κ.2.2.2.2 y1 + cto κ.2.2.2.2 y2 + cto κ.2.2.2.2 y3 ≤ cto κ.2.2.2.2 (some k0)) : 0 + (13 * cto κ.2.2.2.2 y1) ≤ 13 * cto κ.2.2.2.2 (some k0) := by
  first | assumption | omega | (subst_vars; omega) | trivial
-- room @9
theorem vX8_logic_6 (κ : KS) (k0 : Nat) (y1 : Option Nat) (y2 : Option Nat) (y3 : Option Nat) (kdy1 : 1 + cto κ.2.2.2.2 y1 + cto κ.2.2.2.2 y2 + cto κ.2.2.2.2 y3 ≤ cto κ.2.2.2.2 (some k0)) : 0 + (120 * cto κ.2.2.2.2 y1) ≤ 120 * cto κ.2.2.2.2 (some k0) := by
  first | assumption | omega | (subst_vars; omega) | trivial
-- frames @12
theorem vX8_logic_7 (d : Nat)  : 1 + 1 ≤ 4 * d + 33 := by
  first | assumption | omega | (subst_vars; omega) | trivial
-- locals @12
theorem vX8_logic_8 (d : Nat)  : 8 + (2 + 11) + 21 ≤ 200 * d + 860 := by
  first | assumption | omega | (subst_vars; omega) | trivial
-- room @12
theorem vX8_logic_9 (κ : KS) (k0 : Nat) (y1 : Option Nat) (y2 : Option Nat) (y3 : Option Nat) (P13 : PL) (kdy1 : 1 + cto κ.2.2.2.2 y1 + cto κ.2.2.2.2 y2 + cto κ.2.2.2.2 y3 ≤ cto κ.2.2.2.2 (some k0)) (kc14 : cto P13 y1 = cto κ.2.2.2.2 y1) (kc15 : cto P13 y2 = cto κ.2.2.2.2 y2) (kc16 : cto P13 y3 = cto κ.2.2.2.2 y3) (kc17 : cto P13 (some k0) = cto κ.2.2.2.2 (some k0)) : 0 + (13 * cto κ.2.2.2.2 y1) + 0 ≤ 13 * cto κ.2.2.2.2 (some k0) := by
  first | assumption | omega | (subst_vars; omega) | trivial
-- room @12
theorem vX8_logic_10 (κ : KS) (k0 : Nat) (y1 : Option Nat) (y2 : Option Nat) (y3 : Option Nat) (P13 : PL) (kdy1 : 1 + cto κ.2.2.2.2 y1 + cto κ.2.2.2.2 y2 + cto κ.2.2.2.2 y3 ≤ cto κ.2.2.2.2 (some k0)) (kc14 : cto P13 y1 = cto κ.2.2.2.2 y1) (kc15 : cto P13 y2 = cto κ.2.2.2.2 y2) (kc16 : cto P13 y3 = cto κ.2.2.2.2 y3) (kc17 : cto P13 (some k0) = cto κ.2.2.2.2 (some k0)) : 0 + (120 * cto κ.2.2.2.2 y1) + 0 ≤ 120 * cto κ.2.2.2.2 (some k0) := by
  first | assumption | omega | (subst_vars; omega) | trivial
-- post @43
theorem vX8_logic_11 (n6 : Int32) (hr5_4_0 : 0 ≤ n6.toInt) (hr5_4_1 : n6.toInt ≤ 12) : 0 ≤ n6.toInt ∧ n6.toInt ≤ 12 := by
  refine ⟨?_, ?_⟩ <;> first | assumption | omega | (subst_vars; omega) | trivial
-- growm @43
theorem vX8_logic_12 (κ : KS) (k0 : Nat) (y1 : Option Nat) (y2 : Option Nat) (y3 : Option Nat) (P13 : PL) (kdy1 : 1 + cto κ.2.2.2.2 y1 + cto κ.2.2.2.2 y2 + cto κ.2.2.2.2 y3 ≤ cto κ.2.2.2.2 (some k0)) (kc14 : cto P13 y1 = cto κ.2.2.2.2 y1) (kc15 : cto P13 y2 = cto κ.2.2.2.2 y2) (kc16 : cto P13 y3 = cto κ.2.2.2.2 y3) (kc17 : cto P13 (some k0) = cto κ.2.2.2.2 (some k0)) : 13 * cto κ.2.2.2.2 (some k0) ≤ 13 * cto κ.2.2.2.2 (some k0) := by
  first | assumption | omega | (subst_vars; omega) | trivial
-- growm @43
theorem vX8_logic_13 (κ : KS) (k0 : Nat) (y1 : Option Nat) (y2 : Option Nat) (y3 : Option Nat) (P13 : PL) (kdy1 : 1 + cto κ.2.2.2.2 y1 + cto κ.2.2.2.2 y2 + cto κ.2.2.2.2 y3 ≤ cto κ.2.2.2.2 (some k0)) (kc14 : cto P13 y1 = cto κ.2.2.2.2 y1) (kc15 : cto P13 y2 = cto κ.2.2.2.2 y2) (kc16 : cto P13 y3 = cto κ.2.2.2.2 y3) (kc17 : cto P13 (some k0) = cto κ.2.2.2.2 (some k0)) : 120 * cto κ.2.2.2.2 (some k0) ≤ 120 * cto κ.2.2.2.2 (some k0) := by
  first | assumption | omega | (subst_vars; omega) | trivial
-- frames @21
theorem vX8_logic_14 (d : Nat)  : 0 + 1 ≤ 4 * d + 33 := by
  first | assumption | omega | (subst_vars; omega) | trivial
-- locals @21
theorem vX8_logic_15 (d : Nat)  : 8 + (1 + 11) + 0 ≤ 200 * d + 860 := by
  first | assumption | omega | (subst_vars; omega) | trivial
-- room @21
theorem vX8_logic_16 (κ : KS) (k0 : Nat) (y1 : Option Nat) (y2 : Option Nat) (y3 : Option Nat) (P13 : PL) (kdy1 : 1 + cto κ.2.2.2.2 y1 + cto κ.2.2.2.2 y2 + cto κ.2.2.2.2 y3 ≤ cto κ.2.2.2.2 (some k0)) (kc14 : cto P13 y1 = cto κ.2.2.2.2 y1) (kc15 : cto P13 y2 = cto κ.2.2.2.2 y2) (kc16 : cto P13 y3 = cto κ.2.2.2.2 y3) (kc17 : cto P13 (some k0) = cto κ.2.2.2.2 (some k0)) : 0 + (13 * cto κ.2.2.2.2 y1) + 0 + 0 ≤ 13 * cto κ.2.2.2.2 (some k0) := by
  first | assumption | omega | (subst_vars; omega) | trivial
-- room @21
theorem vX8_logic_17 (κ : KS) (k0 : Nat) (y1 : Option Nat) (y2 : Option Nat) (y3 : Option Nat) (P13 : PL) (kdy1 : 1 + cto κ.2.2.2.2 y1 + cto κ.2.2.2.2 y2 + cto κ.2.2.2.2 y3 ≤ cto κ.2.2.2.2 (some k0)) (kc14 : cto P13 y1 = cto κ.2.2.2.2 y1) (kc15 : cto P13 y2 = cto κ.2.2.2.2 y2) (kc16 : cto P13 y3 = cto κ.2.2.2.2 y3) (kc17 : cto P13 (some k0) = cto κ.2.2.2.2 (some k0)) : 0 + (120 * cto κ.2.2.2.2 y1) + 0 + 0 ≤ 120 * cto κ.2.2.2.2 (some k0) := by
  first | assumption | omega | (subst_vars; omega) | trivial
-- nw@52 @52
theorem vX8_logic_18 (k1 : Int32) (d : Nat) (x4 : Int32) (x25 : Int32) (hpre_2 : 0 ≤ k1.toInt) (hpre_3 : k1.toInt ≤ 40) (hpre_4 : 40 ≤ k1.toInt + ((d : Nat) : Int)) (ex4 : x4 = k1 + (1 : Int32)) (tx4 : x4.toInt = k1.toInt + 1) (ex25 : x25 = k1 + (1 : Int32)) : x25.toInt = k1.toInt + 1 := by
  have q1 : (1 : Int32).toInt = 1 := by decide +kernel
  have w1 : (1 : Int32).toInt = 1 := by decide +kernel
  rw [ex25, z_add (by omega) (by omega)]; first | done | omega
-- pre:X8_eval@53 @53
theorem vX8_logic_19 (k1 : Int32) (d : Nat) (x4 : Int32) (n6 : Int32) (x25 : Int32) (hpre_2 : 0 ≤ k1.toInt) (hpre_3 : k1.toInt ≤ 40) (hpre_4 : 40 ≤ k1.toInt + ((d : Nat) : Int)) (ex4 : x4 = k1 + (1 : Int32)) (tx4 : x4.toInt = k1.toInt + 1) (hr5_4_0 : 0 ≤ n6.toInt) (hr5_4_1 : n6.toInt ≤ 12) (ex25 : x25 = k1 + (1 : Int32)) (tx25 : x25.toInt = k1.toInt + 1) : 0 ≤ n6.toInt ∧ n6.toInt ≤ 12 ∧ 0 ≤ x25.toInt ∧ x25.toInt ≤ 41 ∧ 41 ≤ x25.toInt + ((d : Nat) : Int) := by
  have q1 : (1 : Int32).toInt = 1 := by decide +kernel
  refine ⟨?_, ?_, ?_, ?_, ?_⟩ <;> first | assumption | omega | (subst_vars; omega) | trivial
-- room @53
theorem vX8_logic_20 (κ : KS) (k0 : Nat) (y1 : Option Nat) (y2 : Option Nat) (y3 : Option Nat) (P13 : PL) (x22 : Int32) (kdy1 : 1 + cto κ.2.2.2.2 y1 + cto κ.2.2.2.2 y2 + cto κ.2.2.2.2 y3 ≤ cto κ.2.2.2.2 (some k0)) (kc14 : cto P13 y1 = cto κ.2.2.2.2 y1) (kc15 : cto P13 y2 = cto κ.2.2.2.2 y2) (kc16 : cto P13 y3 = cto κ.2.2.2.2 y3) (kc17 : cto P13 (some k0) = cto κ.2.2.2.2 (some k0)) (ex22 : oI P13 2 k0 = x22) (c23 : ¬ x22.toInt = 31868) : 0 + (13 * cto κ.2.2.2.2 y1) + 0 + 0 + (13 * cto P13 y2) ≤ 13 * cto κ.2.2.2.2 (some k0) := by
  first | assumption | omega | (subst_vars; omega) | trivial
-- room @53
theorem vX8_logic_21 (κ : KS) (k0 : Nat) (y1 : Option Nat) (y2 : Option Nat) (y3 : Option Nat) (P13 : PL) (x22 : Int32) (kdy1 : 1 + cto κ.2.2.2.2 y1 + cto κ.2.2.2.2 y2 + cto κ.2.2.2.2 y3 ≤ cto κ.2.2.2.2 (some k0)) (kc14 : cto P13 y1 = cto κ.2.2.2.2 y1) (kc15 : cto P13 y2 = cto κ.2.2.2.2 y2) (kc16 : cto P13 y3 = cto κ.2.2.2.2 y3) (kc17 : cto P13 (some k0) = cto κ.2.2.2.2 (some k0)) (ex22 : oI P13 2 k0 = x22) (c23 : ¬ x22.toInt = 31868) : 0 + (120 * cto κ.2.2.2.2 y1) + 0 + 0 + (120 * cto P13 y2) ≤ 120 * cto κ.2.2.2.2 (some k0) := by
  first | assumption | omega | (subst_vars; omega) | trivial
-- room @56
theorem vX8_logic_22 (κ : KS) (k0 : Nat) (y1 : Option Nat) (y2 : Option Nat) (y3 : Option Nat) (P13 : PL) (x22 : Int32) (P34 : PL) (kdy1 : 1 + cto κ.2.2.2.2 y1 + cto κ.2.2.2.2 y2 + cto κ.2.2.2.2 y3 ≤ cto κ.2.2.2.2 (some k0)) (kc14 : cto P13 y1 = cto κ.2.2.2.2 y1) (kc15 : cto P13 y2 = cto κ.2.2.2.2 y2) (kc16 : cto P13 y3 = cto κ.2.2.2.2 y3) (kc17 : cto P13 (some k0) = cto κ.2.2.2.2 (some k0)) (ex22 : oI P13 2 k0 = x22) (c23 : ¬ x22.toInt = 31868) (kc35 : cto P34 y1 = cto P13 y1) (kc36 : cto P34 y2 = cto P13 y2) (kc37 : cto P34 y3 = cto P13 y3) (kc38 : cto P34 (some k0) = cto P13 (some k0)) : 0 + (13 * cto κ.2.2.2.2 y1) + 0 + 0 + (13 * cto P13 y2) + 0 ≤ 13 * cto κ.2.2.2.2 (some k0) := by
  first | assumption | omega | (subst_vars; omega) | trivial
-- room @56
theorem vX8_logic_23 (κ : KS) (k0 : Nat) (y1 : Option Nat) (y2 : Option Nat) (y3 : Option Nat) (P13 : PL) (x22 : Int32) (P34 : PL) (kdy1 : 1 + cto κ.2.2.2.2 y1 + cto κ.2.2.2.2 y2 + cto κ.2.2.2.2 y3 ≤ cto κ.2.2.2.2 (some k0)) (kc14 : cto P13 y1 = cto κ.2.2.2.2 y1) (kc15 : cto P13 y2 = cto κ.2.2.2.2 y2) (kc16 : cto P13 y3 = cto κ.2.2.2.2 y3) (kc17 : cto P13 (some k0) = cto κ.2.2.2.2 (some k0)) (ex22 : oI P13 2 k0 = x22) (c23 : ¬ x22.toInt = 31868) (kc35 : cto P34 y1 = cto P13 y1) (kc36 : cto P34 y2 = cto P13 y2) (kc37 : cto P34 y3 = cto P13 y3) (kc38 : cto P34 (some k0) = cto P13 (some k0)) : 0 + (120 * cto κ.2.2.2.2 y1) + 0 + 0 + (120 * cto P13 y2) + 0 ≤ 120 * cto κ.2.2.2.2 (some k0) := by
  first | assumption | omega | (subst_vars; omega) | trivial
-- post @59
theorem vX8_logic_24 (n27 : Int32) (hr26_4_0 : 0 ≤ n27.toInt) (hr26_4_1 : n27.toInt ≤ 12) : 0 ≤ n27.toInt ∧ n27.toInt ≤ 12 := by
  refine ⟨?_, ?_⟩ <;> first | assumption | omega | (subst_vars; omega) | trivial
-- growm @59
theorem vX8_logic_25 (κ : KS) (k0 : Nat) (y1 : Option Nat) (y2 : Option Nat) (y3 : Option Nat) (P13 : PL) (x22 : Int32) (P34 : PL) (kdy1 : 1 + cto κ.2.2.2.2 y1 + cto κ.2.2.2.2 y2 + cto κ.2.2.2.2 y3 ≤ cto κ.2.2.2.2 (some k0)) (kc14 : cto P13 y1 = cto κ.2.2.2.2 y1) (kc15 : cto P13 y2 = cto κ.2.2.2.2 y2) (kc16 : cto P13 y3 = cto κ.2.2.2.2 y3) (kc17 : cto P13 (some k0) = cto κ.2.2.2.2 (some k0)) (ex22 : oI P13 2 k0 = x22) (c23 : ¬ x22.toInt = 31868) (kc35 : cto P34 y1 = cto P13 y1) (kc36 : cto P34 y2 = cto P13 y2) (kc37 : cto P34 y3 = cto P13 y3) (kc38 : cto P34 (some k0) = cto P13 (some k0)) : 13 * cto κ.2.2.2.2 (some k0) ≤ 13 * cto κ.2.2.2.2 (some k0) := by
  first | assumption | omega | (subst_vars; omega) | trivial
-- growm @59
theorem vX8_logic_26 (κ : KS) (k0 : Nat) (y1 : Option Nat) (y2 : Option Nat) (y3 : Option Nat) (P13 : PL) (x22 : Int32) (P34 : PL) (kdy1 : 1 + cto κ.2.2.2.2 y1 + cto κ.2.2.2.2 y2 + cto κ.2.2.2.2 y3 ≤ cto κ.2.2.2.2 (some k0)) (kc14 : cto P13 y1 = cto κ.2.2.2.2 y1) (kc15 : cto P13 y2 = cto κ.2.2.2.2 y2) (kc16 : cto P13 y3 = cto κ.2.2.2.2 y3) (kc17 : cto P13 (some k0) = cto κ.2.2.2.2 (some k0)) (ex22 : oI P13 2 k0 = x22) (c23 : ¬ x22.toInt = 31868) (kc35 : cto P34 y1 = cto P13 y1) (kc36 : cto P34 y2 = cto P13 y2) (kc37 : cto P34 y3 = cto P13 y3) (kc38 : cto P34 (some k0) = cto P13 (some k0)) : 120 * cto κ.2.2.2.2 (some k0) ≤ 120 * cto κ.2.2.2.2 (some k0) := by
  first | assumption | omega | (subst_vars; omega) | trivial
-- grow @43
theorem vX8_logic_27 (κ : KS) (k0 : Nat) (y1 : Option Nat) (y2 : Option Nat) (y3 : Option Nat) (P13 : PL) (x22 : Int32) (kdy1 : 1 + cto κ.2.2.2.2 y1 + cto κ.2.2.2.2 y2 + cto κ.2.2.2.2 y3 ≤ cto κ.2.2.2.2 (some k0)) (kc14 : cto P13 y1 = cto κ.2.2.2.2 y1) (kc15 : cto P13 y2 = cto κ.2.2.2.2 y2) (kc16 : cto P13 y3 = cto κ.2.2.2.2 y3) (kc17 : cto P13 (some k0) = cto κ.2.2.2.2 (some k0)) (ex22 : oI P13 2 k0 = x22) (c23 : ¬ x22.toInt = 31868) : 0 + (13 * cto κ.2.2.2.2 y1) + 0 + 0 ≤ 13 * cto κ.2.2.2.2 (some k0) := by
  first | assumption | omega | (subst_vars; omega) | trivial
-- grow @43
theorem vX8_logic_28 (κ : KS) (k0 : Nat) (y1 : Option Nat) (y2 : Option Nat) (y3 : Option Nat) (P13 : PL) (x22 : Int32) (kdy1 : 1 + cto κ.2.2.2.2 y1 + cto κ.2.2.2.2 y2 + cto κ.2.2.2.2 y3 ≤ cto κ.2.2.2.2 (some k0)) (kc14 : cto P13 y1 = cto κ.2.2.2.2 y1) (kc15 : cto P13 y2 = cto κ.2.2.2.2 y2) (kc16 : cto P13 y3 = cto κ.2.2.2.2 y3) (kc17 : cto P13 (some k0) = cto κ.2.2.2.2 (some k0)) (ex22 : oI P13 2 k0 = x22) (c23 : ¬ x22.toInt = 31868) : 0 + (120 * cto κ.2.2.2.2 y1) + 0 + 0 ≤ 120 * cto κ.2.2.2.2 (some k0) := by
  first | assumption | omega | (subst_vars; omega) | trivial
-- growm @43
theorem vX8_logic_29 (κ : KS) (k0 : Nat) (y1 : Option Nat) (y2 : Option Nat) (y3 : Option Nat) (P13 : PL) (x22 : Int32) (kdy1 : 1 + cto κ.2.2.2.2 y1 + cto κ.2.2.2.2 y2 + cto κ.2.2.2.2 y3 ≤ cto κ.2.2.2.2 (some k0)) (kc14 : cto P13 y1 = cto κ.2.2.2.2 y1) (kc15 : cto P13 y2 = cto κ.2.2.2.2 y2) (kc16 : cto P13 y3 = cto κ.2.2.2.2 y3) (kc17 : cto P13 (some k0) = cto κ.2.2.2.2 (some k0)) (ex22 : oI P13 2 k0 = x22) (c23 : ¬ x22.toInt = 31868) : 13 * cto κ.2.2.2.2 (some k0) ≤ 13 * cto κ.2.2.2.2 (some k0) := by
  first | assumption | omega | (subst_vars; omega) | trivial
-- growm @43
theorem vX8_logic_30 (κ : KS) (k0 : Nat) (y1 : Option Nat) (y2 : Option Nat) (y3 : Option Nat) (P13 : PL) (x22 : Int32) (kdy1 : 1 + cto κ.2.2.2.2 y1 + cto κ.2.2.2.2 y2 + cto κ.2.2.2.2 y3 ≤ cto κ.2.2.2.2 (some k0)) (kc14 : cto P13 y1 = cto κ.2.2.2.2 y1) (kc15 : cto P13 y2 = cto κ.2.2.2.2 y2) (kc16 : cto P13 y3 = cto κ.2.2.2.2 y3) (kc17 : cto P13 (some k0) = cto κ.2.2.2.2 (some k0)) (ex22 : oI P13 2 k0 = x22) (c23 : ¬ x22.toInt = 31868) : 120 * cto κ.2.2.2.2 (some k0) ≤ 120 * cto κ.2.2.2.2 (some k0) := by
  first | assumption | omega | (subst_vars; omega) | trivial
-- nw@52 @52
theorem vX8_logic_31 (k1 : Int32) (d : Nat) (x4 : Int32) (x42 : Int32) (hpre_2 : 0 ≤ k1.toInt) (hpre_3 : k1.toInt ≤ 40) (hpre_4 : 40 ≤ k1.toInt + ((d : Nat) : Int)) (ex4 : x4 = k1 + (1 : Int32)) (tx4 : x4.toInt = k1.toInt + 1) (ex42 : x42 = k1 + (1 : Int32)) : x42.toInt = k1.toInt + 1 := by
  have q1 : (1 : Int32).toInt = 1 := by decide +kernel
  have w1 : (1 : Int32).toInt = 1 := by decide +kernel
  rw [ex42, z_add (by omega) (by omega)]; first | done | omega
-- pre:X8_eval@53 @53
theorem vX8_logic_32 (k1 : Int32) (d : Nat) (x4 : Int32) (n6 : Int32) (x42 : Int32) (hpre_2 : 0 ≤ k1.toInt) (hpre_3 : k1.toInt ≤ 40) (hpre_4 : 40 ≤ k1.toInt + ((d : Nat) : Int)) (ex4 : x4 = k1 + (1 : Int32)) (tx4 : x4.toInt = k1.toInt + 1) (hr5_4_0 : 0 ≤ n6.toInt) (hr5_4_1 : n6.toInt ≤ 12) (ex42 : x42 = k1 + (1 : Int32)) (tx42 : x42.toInt = k1.toInt + 1) : 0 ≤ n6.toInt ∧ n6.toInt ≤ 12 ∧ 0 ≤ x42.toInt ∧ x42.toInt ≤ 41 ∧ 41 ≤ x42.toInt + ((d : Nat) : Int) := by
  have q1 : (1 : Int32).toInt = 1 := by decide +kernel
  refine ⟨?_, ?_, ?_, ?_, ?_⟩ <;> first | assumption | omega | (subst_vars; omega) | trivial
-- room @53
theorem vX8_logic_33 (κ : KS) (k0 : Nat) (y1 : Option Nat) (y2 : Option Nat) (y3 : Option Nat) (P13 : PL) (x22 : Int32) (kdy1 : 1 + cto κ.2.2.2.2 y1 + cto κ.2.2.2.2 y2 + cto κ.2.2.2.2 y3 ≤ cto κ.2.2.2.2 (some k0)) (kc14 : cto P13 y1 = cto κ.2.2.2.2 y1) (kc15 : cto P13 y2 = cto κ.2.2.2.2 y2) (kc16 : cto P13 y3 = cto κ.2.2.2.2 y3) (kc17 : cto P13 (some k0) = cto κ.2.2.2.2 (some k0)) (ex22 : oI P13 2 k0 = x22) (c23 : x22.toInt = 31868) : 0 + (13 * cto κ.2.2.2.2 y1) + 0 + 0 + (13 * cto P13 y2) ≤ 13 * cto κ.2.2.2.2 (some k0) := by
  first | assumption | omega | (subst_vars; omega) | trivial
-- room @53
theorem vX8_logic_34 (κ : KS) (k0 : Nat) (y1 : Option Nat) (y2 : Option Nat) (y3 : Option Nat) (P13 : PL) (x22 : Int32) (kdy1 : 1 + cto κ.2.2.2.2 y1 + cto κ.2.2.2.2 y2 + cto κ.2.2.2.2 y3 ≤ cto κ.2.2.2.2 (some k0)) (kc14 : cto P13 y1 = cto κ.2.2.2.2 y1) (kc15 : cto P13 y2 = cto κ.2.2.2.2 y2) (kc16 : cto P13 y3 = cto κ.2.2.2.2 y3) (kc17 : cto P13 (some k0) = cto κ.2.2.2.2 (some k0)) (ex22 : oI P13 2 k0 = x22) (c23 : x22.toInt = 31868) : 0 + (120 * cto κ.2.2.2.2 y1) + 0 + 0 + (120 * cto P13 y2) ≤ 120 * cto κ.2.2.2.2 (some k0) := by
  first | assumption | omega | (subst_vars; omega) | trivial
-- room @56
theorem vX8_logic_35 (κ : KS) (k0 : Nat) (y1 : Option Nat) (y2 : Option Nat) (y3 : Option Nat) (P13 : PL) (x22 : Int32) (P51 : PL) (kdy1 : 1 + cto κ.2.2.2.2 y1 + cto κ.2.2.2.2 y2 + cto κ.2.2.2.2 y3 ≤ cto κ.2.2.2.2 (some k0)) (kc14 : cto P13 y1 = cto κ.2.2.2.2 y1) (kc15 : cto P13 y2 = cto κ.2.2.2.2 y2) (kc16 : cto P13 y3 = cto κ.2.2.2.2 y3) (kc17 : cto P13 (some k0) = cto κ.2.2.2.2 (some k0)) (ex22 : oI P13 2 k0 = x22) (c23 : x22.toInt = 31868) (kc52 : cto P51 y1 = cto P13 y1) (kc53 : cto P51 y2 = cto P13 y2) (kc54 : cto P51 y3 = cto P13 y3) (kc55 : cto P51 (some k0) = cto P13 (some k0)) : 0 + (13 * cto κ.2.2.2.2 y1) + 0 + 0 + (13 * cto P13 y2) + 0 ≤ 13 * cto κ.2.2.2.2 (some k0) := by
  first | assumption | omega | (subst_vars; omega) | trivial
-- room @56
theorem vX8_logic_36 (κ : KS) (k0 : Nat) (y1 : Option Nat) (y2 : Option Nat) (y3 : Option Nat) (P13 : PL) (x22 : Int32) (P51 : PL) (kdy1 : 1 + cto κ.2.2.2.2 y1 + cto κ.2.2.2.2 y2 + cto κ.2.2.2.2 y3 ≤ cto κ.2.2.2.2 (some k0)) (kc14 : cto P13 y1 = cto κ.2.2.2.2 y1) (kc15 : cto P13 y2 = cto κ.2.2.2.2 y2) (kc16 : cto P13 y3 = cto κ.2.2.2.2 y3) (kc17 : cto P13 (some k0) = cto κ.2.2.2.2 (some k0)) (ex22 : oI P13 2 k0 = x22) (c23 : x22.toInt = 31868) (kc52 : cto P51 y1 = cto P13 y1) (kc53 : cto P51 y2 = cto P13 y2) (kc54 : cto P51 y3 = cto P13 y3) (kc55 : cto P51 (some k0) = cto P13 (some k0)) : 0 + (120 * cto κ.2.2.2.2 y1) + 0 + 0 + (120 * cto P13 y2) + 0 ≤ 120 * cto κ.2.2.2.2 (some k0) := by
  first | assumption | omega | (subst_vars; omega) | trivial
-- post @59
theorem vX8_logic_37 (n44 : Int32) (hr43_4_0 : 0 ≤ n44.toInt) (hr43_4_1 : n44.toInt ≤ 12) : 0 ≤ n44.toInt ∧ n44.toInt ≤ 12 := by
  refine ⟨?_, ?_⟩ <;> first | assumption | omega | (subst_vars; omega) | trivial
-- growm @59
theorem vX8_logic_38 (κ : KS) (k0 : Nat) (y1 : Option Nat) (y2 : Option Nat) (y3 : Option Nat) (P13 : PL) (x22 : Int32) (P51 : PL) (kdy1 : 1 + cto κ.2.2.2.2 y1 + cto κ.2.2.2.2 y2 + cto κ.2.2.2.2 y3 ≤ cto κ.2.2.2.2 (some k0)) (kc14 : cto P13 y1 = cto κ.2.2.2.2 y1) (kc15 : cto P13 y2 = cto κ.2.2.2.2 y2) (kc16 : cto P13 y3 = cto κ.2.2.2.2 y3) (kc17 : cto P13 (some k0) = cto κ.2.2.2.2 (some k0)) (ex22 : oI P13 2 k0 = x22) (c23 : x22.toInt = 31868) (kc52 : cto P51 y1 = cto P13 y1) (kc53 : cto P51 y2 = cto P13 y2) (kc54 : cto P51 y3 = cto P13 y3) (kc55 : cto P51 (some k0) = cto P13 (some k0)) : 13 * cto κ.2.2.2.2 (some k0) ≤ 13 * cto κ.2.2.2.2 (some k0) := by
  first | assumption | omega | (subst_vars; omega) | trivial
-- growm @59
theorem vX8_logic_39 (κ : KS) (k0 : Nat) (y1 : Option Nat) (y2 : Option Nat) (y3 : Option Nat) (P13 : PL) (x22 : Int32) (P51 : PL) (kdy1 : 1 + cto κ.2.2.2.2 y1 + cto κ.2.2.2.2 y2 + cto κ.2.2.2.2 y3 ≤ cto κ.2.2.2.2 (some k0)) (kc14 : cto P13 y1 = cto κ.2.2.2.2 y1) (kc15 : cto P13 y2 = cto κ.2.2.2.2 y2) (kc16 : cto P13 y3 = cto κ.2.2.2.2 y3) (kc17 : cto P13 (some k0) = cto κ.2.2.2.2 (some k0)) (ex22 : oI P13 2 k0 = x22) (c23 : x22.toInt = 31868) (kc52 : cto P51 y1 = cto P13 y1) (kc53 : cto P51 y2 = cto P13 y2) (kc54 : cto P51 y3 = cto P13 y3) (kc55 : cto P51 (some k0) = cto P13 (some k0)) : 120 * cto κ.2.2.2.2 (some k0) ≤ 120 * cto κ.2.2.2.2 (some k0) := by
  first | assumption | omega | (subst_vars; omega) | trivial
-- grow @43
theorem vX8_logic_40 (κ : KS) (k0 : Nat) (y1 : Option Nat) (y2 : Option Nat) (y3 : Option Nat) (P13 : PL) (x22 : Int32) (kdy1 : 1 + cto κ.2.2.2.2 y1 + cto κ.2.2.2.2 y2 + cto κ.2.2.2.2 y3 ≤ cto κ.2.2.2.2 (some k0)) (kc14 : cto P13 y1 = cto κ.2.2.2.2 y1) (kc15 : cto P13 y2 = cto κ.2.2.2.2 y2) (kc16 : cto P13 y3 = cto κ.2.2.2.2 y3) (kc17 : cto P13 (some k0) = cto κ.2.2.2.2 (some k0)) (ex22 : oI P13 2 k0 = x22) (c23 : x22.toInt = 31868) : 0 + (13 * cto κ.2.2.2.2 y1) + 0 + 0 ≤ 13 * cto κ.2.2.2.2 (some k0) := by
  first | assumption | omega | (subst_vars; omega) | trivial
-- grow @43
theorem vX8_logic_41 (κ : KS) (k0 : Nat) (y1 : Option Nat) (y2 : Option Nat) (y3 : Option Nat) (P13 : PL) (x22 : Int32) (kdy1 : 1 + cto κ.2.2.2.2 y1 + cto κ.2.2.2.2 y2 + cto κ.2.2.2.2 y3 ≤ cto κ.2.2.2.2 (some k0)) (kc14 : cto P13 y1 = cto κ.2.2.2.2 y1) (kc15 : cto P13 y2 = cto κ.2.2.2.2 y2) (kc16 : cto P13 y3 = cto κ.2.2.2.2 y3) (kc17 : cto P13 (some k0) = cto κ.2.2.2.2 (some k0)) (ex22 : oI P13 2 k0 = x22) (c23 : x22.toInt = 31868) : 0 + (120 * cto κ.2.2.2.2 y1) + 0 + 0 ≤ 120 * cto κ.2.2.2.2 (some k0) := by
  first | assumption | omega | (subst_vars; omega) | trivial
-- growm @43
theorem vX8_logic_42 (κ : KS) (k0 : Nat) (y1 : Option Nat) (y2 : Option Nat) (y3 : Option Nat) (P13 : PL) (x22 : Int32) (kdy1 : 1 + cto κ.2.2.2.2 y1 + cto κ.2.2.2.2 y2 + cto κ.2.2.2.2 y3 ≤ cto κ.2.2.2.2 (some k0)) (kc14 : cto P13 y1 = cto κ.2.2.2.2 y1) (kc15 : cto P13 y2 = cto κ.2.2.2.2 y2) (kc16 : cto P13 y3 = cto κ.2.2.2.2 y3) (kc17 : cto P13 (some k0) = cto κ.2.2.2.2 (some k0)) (ex22 : oI P13 2 k0 = x22) (c23 : x22.toInt = 31868) : 13 * cto κ.2.2.2.2 (some k0) ≤ 13 * cto κ.2.2.2.2 (some k0) := by
  first | assumption | omega | (subst_vars; omega) | trivial
-- growm @43
theorem vX8_logic_43 (κ : KS) (k0 : Nat) (y1 : Option Nat) (y2 : Option Nat) (y3 : Option Nat) (P13 : PL) (x22 : Int32) (kdy1 : 1 + cto κ.2.2.2.2 y1 + cto κ.2.2.2.2 y2 + cto κ.2.2.2.2 y3 ≤ cto κ.2.2.2.2 (some k0)) (kc14 : cto P13 y1 = cto κ.2.2.2.2 y1) (kc15 : cto P13 y2 = cto κ.2.2.2.2 y2) (kc16 : cto P13 y3 = cto κ.2.2.2.2 y3) (kc17 : cto P13 (some k0) = cto κ.2.2.2.2 (some k0)) (ex22 : oI P13 2 k0 = x22) (c23 : x22.toInt = 31868) : 120 * cto κ.2.2.2.2 (some k0) ≤ 120 * cto κ.2.2.2.2 (some k0) := by
  first | assumption | omega | (subst_vars; omega) | trivial
set_option maxHeartbeats 4000000 in
set_option maxRecDepth 100000 in
theorem NX8_logic (l : Launch) (D : va_G) (cy : Nat → ClassId) (ad : Nat → Nat) (A : Nat → Prop) (sz0 : Nat) (sa : Nat → Nat) (d : Nat) (IH : KX8_eval l D cy ad A sz0 sa d) (κ : KS) (sz sl : Nat) (hAF : ∀ q, A q → Fr sz0 q) (hAn : ∀ q : Nat, sz ≤ q → A q) (k0 : Nat) (k1 : Int32) (ht0 : oT κ.2.2.2.2 k0 = 2) (hPV : PV sa κ.2.2.2.2) (hSV : SV ad κ.2.2.2.2 (κ.2.1 0) (κ.2.1 1) (κ.2.2.2.1 6) (κ.2.2.2.1 7) (κ.2.2.2.1 8) (κ.2.2.2.1 13) (κ.2.2.2.1 15) (κ.2.2.2.1 17) (κ.1 1).toInt) (hpre : 0 ≤ (κ.1 8).toInt ∧ (κ.1 8).toInt ≤ 12 ∧ 0 ≤ k1.toInt ∧ k1.toInt ≤ 40 ∧ 40 ≤ k1.toInt + ((d : Nat) : Int)) : Met l yX8_logic (Cond.code yX8_logic cX8_logic 4 (some (.object "PhraseDesk$Value")) :: GWc) ({ frames := 4 * d + 33, cells := 13 * cto κ.2.2.2.2 (some k0), slots := 120 * cto κ.2.2.2.2 (some k0), locals := 200 * d + 860 }) (PcC D cy ad A sz0 sa [.ref (ad 3), .ref k0, .int k1] κ sz sl) (va_Qq (fun (r : Option Nat) (u : Int32 × Int32 × Int32 × Int32 × (Nat → Int32) × (Nat → Option Nat) × (Nat → Option Nat) × PL) => (EX κ.2.2.2.2 u.2.2.2.2.2.2.2) ∧ (PV sa u.2.2.2.2.2.2.2) ∧ (SV ad u.2.2.2.2.2.2.2 (κ.2.1 0) (κ.2.1 1) (κ.2.2.2.1 6) (κ.2.2.2.1 7) (κ.2.2.2.1 8) (κ.2.2.2.1 13) u.2.2.2.2.2.1 u.2.2.2.2.2.2.1 (κ.1 1).toInt) ∧ (NT u.2.2.2.2.2.2.2 1 r) ∧ (0 ≤ u.1.toInt ∧ u.1.toInt ≤ 12)) (fun (u : Int32 × Int32 × Int32 × Int32 × (Nat → Int32) × (Nat → Option Nat) × (Nat → Option Nat) × PL) (t : State) => Bx D cy ad A sz sl (tP (tQ (tQ (tA (tI (tI (tI (tI κ 8 u.1) 9 u.2.1) 10 u.2.2.1) 11 u.2.2.2.1) 16 u.2.2.2.2.1) 15 u.2.2.2.2.2.1) 17 u.2.2.2.2.2.2.1) u.2.2.2.2.2.2.2) (13 * cto κ.2.2.2.2 (some k0)) (120 * cto κ.2.2.2.2 (some k0)) t) A) (13 * cto κ.2.2.2.2 (some k0)) (120 * cto κ.2.2.2.2 (some k0)) A := by
  refine CM_of (loc0 := [(0, .ref (ad 3)), (1, .ref k0), (2, .int k1)]) (own := RX8) (nm := "logic") (by decide) rfl rfl rfl (Nat.le_of_ble_eq_true rfl) hAF hAn ?_
  intro p e s m below meth c ls hsz hsl C hP hS hl
  obtain ⟨hpre_0, hpre_1, hpre_2, hpre_3, hpre_4⟩ := hpre
  obtain ⟨y1, ey1⟩ : ∃ z, oR κ.2.2.2.2 3 k0 = z := ⟨_, rfl⟩
  have ty1 : NT κ.2.2.2.2 2 y1 := by rw [← ey1]; exact (hPV.t2 ht0).2.1
  obtain ⟨y2, ey2⟩ : ∃ z, oR κ.2.2.2.2 4 k0 = z := ⟨_, rfl⟩
  have ty2 : NT κ.2.2.2.2 2 y2 := by rw [← ey2]; exact (hPV.t2 ht0).2.2.1
  obtain ⟨y3, ey3⟩ : ∃ z, oR κ.2.2.2.2 5 k0 = z := ⟨_, rfl⟩
  have ty3 : NT κ.2.2.2.2 2 y3 := by rw [← ey3]; exact (hPV.t2 ht0).2.2.2.1
  have kdy1 : 1 + cto κ.2.2.2.2 y1 + cto κ.2.2.2.2 y2 + cto κ.2.2.2.2 y3 ≤ cto κ.2.2.2.2 (some k0) := by rw [← ey1, ← ey2, ← ey3]; exact (hPV.t2 ht0).2.2.2.2
  refine lv_aload_n C.x C.b dX8_logic_0 rfl (lv_at hl 0 rfl) ?_
  refine lv_aload_n C.x C.b dX8_logic_1 rfl (lv_at hl 0 rfl) ?_
  refine lv_aload_n C.x C.b dX8_logic_2 rfl (lv_at hl 1 rfl) ?_
  refine pg_X5_3 (v := y1) C hP (t20 (a := k0) (t := 2) ht0) ey1 cw_700 dX8_logic_3 ?_
  refine lv_iload_n C.x C.b dX8_logic_6 rfl (lv_at hl 2 rfl) ?_
  refine lv_iconst (v := 1) C.x C.b dX8_logic_7 (by decide +kernel) ?_
  refine lv_iadd C.x C.b dX8_logic_8 ?_
  refine lv_topi (fun x4 ex4 => ?_)
  have tx4 : x4.toInt = k1.toInt + 1 := (vX8_logic_1 k1 d x4 hpre_2 hpre_3 hpre_4 ex4)
  refine c_callVq (n := 2) (As := [va_rf y1, .int x4]) (rest := [.ref (ad 3)]) C hP hS hl.1 (IH κ s.heap.size (SLT s.heap) C.f (fun q h => C.a q (Nat.le_trans hS.1 h)) y1 x4 ty1 hPV hSV (vX8_logic_2 κ k1 d x4 hpre_0 hpre_1 hpre_2 hpre_3 hpre_4 ex4 tx4)) ⟨cw_711, cw_696, by decide +kernel⟩ ⟨cw_712, cw_713, cw_705⟩ rfl (hP.recvS (k := 3) (ci := 10) C.K rfl rfl) rfl rfl (lv_room (Nat.le_of_ble_eq_true rfl)) ⟨(vX8_logic_3 d ), (vX8_logic_4 d )⟩ ⟨(vX8_logic_5 κ k0 y1 y2 y3 kdy1), (vX8_logic_6 κ k0 y1 y2 y3 kdy1)⟩ dX8_logic_9 (fun r5 u H locs hr5 hP hS => ?_)
  obtain ⟨n6, n7, n8, n9, F10, Z11, Z12, P13⟩ := u
  have hP : CH D cy ad A (tP (tQ (tQ (tA (tI (tI (tI (tI κ 8 n6) 9 n7) 10 n8) 11 n9) 16 F10) 15 Z11) 17 Z12) P13) H := hP
  have hr5 : (EX κ.2.2.2.2 P13) ∧ (PV sa P13) ∧ (SV ad P13 (κ.2.1 0) (κ.2.1 1) (κ.2.2.2.1 6) (κ.2.2.2.1 7) (κ.2.2.2.1 8) (κ.2.2.2.1 13) Z11 Z12 (κ.1 1).toInt) ∧ (NT P13 1 r5) ∧ (0 ≤ n6.toInt ∧ n6.toInt ≤ 12) := hr5
  obtain ⟨hr5_0, hr5_1, hr5_2, hr5_3, hr5_4⟩ := hr5
  have kc14 : cto P13 y1 = cto κ.2.2.2.2 y1 := hr5_0.ct ty1 (by decide)
  have kc15 : cto P13 y2 = cto κ.2.2.2.2 y2 := hr5_0.ct ty2 (by decide)
  have kc16 : cto P13 y3 = cto κ.2.2.2.2 y3 := hr5_0.ct ty3 (by decide)
  have kc17 : cto P13 (some k0) = cto κ.2.2.2.2 (some k0) := hr5_0.ct (nt_s ht0) (by decide)
  obtain ⟨hr5_4_0, hr5_4_1⟩ := hr5_4
  refine c_callVq (n := 1) (As := [va_rf r5]) (rest := []) C hP hS hl.1 (NX8_bool l D cy ad A sz0 sa (tP (tQ (tQ (tA (tI (tI (tI (tI κ 8 n6) 9 n7) 10 n8) 11 n9) 16 F10) 15 Z11) 17 Z12) P13) H.size (SLT H) C.f (fun q h => C.a q (Nat.le_trans hS.1 h)) r5 hr5_3 hr5_1 hr5_2) ⟨cw_823, cw_826, by decide +kernel⟩ ⟨cw_824, cw_825, cw_705⟩ rfl (hP.recvS (k := 3) (ci := 10) C.K rfl rfl) rfl rfl (lv_room (Nat.le_of_ble_eq_true rfl)) ⟨(vX8_logic_7 d ), (vX8_logic_8 d )⟩ ⟨(vX8_logic_9 κ k0 y1 y2 y3 P13 kdy1 kc14 kc15 kc16 kc17), (vX8_logic_10 κ k0 y1 y2 y3 P13 kdy1 kc14 kc15 kc16 kc17)⟩ dX8_logic_12 (fun r18 u H locs hr18 hP hS => ?_)
  obtain ⟨n19, rfl⟩ : ∃ z, z = u := ⟨_, rfl⟩
  have hP : CH D cy ad A (tI (tP (tQ (tQ (tA (tI (tI (tI (tI κ 8 n6) 9 n7) 10 n8) 11 n9) 16 F10) 15 Z11) 17 Z12) P13) 9 n19) H := hP
  have hr18 : (NT P13 1 r18) := hr18
  refine lq_astore_n (lv' := [(3, va_rf r18), (0, .ref (ad 3)), (1, .ref k0), (2, .int k1)]) C.x C.b dX8_logic_15 rfl hl (by decide) (by cases r18 <;> rfl) (fun ls hl => ?_)
  refine lq_aload_n C.x C.b dX8_logic_16 rfl (lv_at hl 0 rfl) ?_
  cases r18 with
  | none =>
    refine lv_ifnullN (tgt := 42) C.x C.b dX8_logic_17 (by decide) ?_
    refine lv_aload_nN C.x C.b dX8_logic_42 rfl (lv_at hl 0 rfl) ?_
    have hP : CH D cy ad A (tP (tQ (tQ (tA (tI (tI (tI (tI κ 8 n6) 9 n19) 10 n8) 11 n9) 16 F10) 15 Z11) 17 Z12) P13) H := CH.cong hP rfl rfl rfl rfl rfl rfl rfl rfl rfl rfl rfl rfl rfl rfl rfl rfl rfl rfl rfl rfl rfl rfl rfl rfl rfl rfl rfl
    exact c_retq (v := none) (Or.inl ⟨_, rfl⟩) C hsz hsl ⟨n6, n19, n8, n9, F10, Z11, Z12, P13⟩ ⟨hr5_0, hr5_1, hr5_2, nt_n, (vX8_logic_11 n6 hr5_4_0 hr5_4_1)⟩ hP hS ⟨(vX8_logic_9 κ k0 y1 y2 y3 P13 kdy1 kc14 kc15 kc16 kc17), (vX8_logic_10 κ k0 y1 y2 y3 P13 kdy1 kc14 kc15 kc16 kc17)⟩ ⟨(vX8_logic_12 κ k0 y1 y2 y3 P13 kdy1 kc14 kc15 kc16 kc17), (vX8_logic_13 κ k0 y1 y2 y3 P13 kdy1 kc14 kc15 kc16 kc17)⟩ dX8_logic_43
  | some b20 =>
    have hb20 : oT P13 b20 = 1 := hr18 b20 rfl
    refine lv_ifnull C.x C.b dX8_logic_17 ?_
    refine lv_aload_n C.x C.b dX8_logic_20 rfl (lv_at hl 0 rfl) ?_
    refine c_callVi (n := 0) (As := []) (rest := []) C hP hS hl.1 (NX10_isTrue l D cy ad A sz0 sa (tI (tP (tQ (tQ (tA (tI (tI (tI (tI κ 8 n6) 9 n7) 10 n8) 11 n9) 16 F10) 15 Z11) 17 Z12) P13) 9 n19) H.size (SLT H) C.f (fun q h => C.a q (Nat.le_trans hS.1 h)) b20 hb20 hr5_1) ⟨cw_748, cw_751, by decide +kernel⟩ ⟨cw_749, cw_750, cw_40⟩ rfl (hP.recvP (t := 1) (ci := 12) C.K (t20 (a := b20) (t := 1) hb20) (by decide) rfl rfl) rfl rfl (lv_room (Nat.le_of_ble_eq_true rfl)) ⟨(vX8_logic_14 d ), (vX8_logic_15 d )⟩ ⟨(vX8_logic_16 κ k0 y1 y2 y3 P13 kdy1 kc14 kc15 kc16 kc17), (vX8_logic_17 κ k0 y1 y2 y3 P13 kdy1 kc14 kc15 kc16 kc17)⟩ dX8_logic_21 (fun r21 u H locs hr21 hP hS => ?_)
    have hr21 : (0 ≤ r21.toInt ∧ r21.toInt ≤ 1) := hr21
    obtain ⟨hr21_0, hr21_1⟩ := hr21
    refine lv_aload_n C.x C.b dX8_logic_24 rfl (lv_at hl 2 rfl) ?_
    obtain ⟨x22, ex22⟩ : ∃ z, oI P13 2 k0 = z := ⟨_, rfl⟩
    refine pg_X5_0 (v := x22) C hP (t20 (a := k0) (t := 2) (hr5_0.T ht0 (by decide))) ex22 cw_697 dX8_logic_25 ?_
    refine lv_sipush (v := 31868) C.x C.b dX8_logic_28 (by decide +kernel) ?_
    refine lv_icmp_ne (tgt := 38) C.x C.b dX8_logic_31 (by decide) (fun c23 => ?_) (fun c23 => ?_)
    · have c23 : ¬ x22.toInt = 31868 := by have h := z_ne c23; rw [show (31868 : Int32).toInt = 31868 from by decide +kernel] at h; exact h
      refine lv_iconst (v := 0) C.x C.b dX8_logic_38 (by decide +kernel) ?_
      refine lv_icmp_ne (tgt := 44) C.x C.b dX8_logic_39 (by decide) (fun c24 => ?_) (fun c24 => ?_)
      · have c24 : ¬ r21.toInt = 0 := by have h := z_ne c24; rw [show (0 : Int32).toInt = 0 from by decide +kernel] at h; exact h
        refine lv_aload_n C.x C.b dX8_logic_44 rfl (lv_at hl 1 rfl) ?_
        refine lv_aload_n C.x C.b dX8_logic_45 rfl (lv_at hl 1 rfl) ?_
        refine lv_aload_n C.x C.b dX8_logic_46 rfl (lv_at hl 2 rfl) ?_
        refine pg_X5_4 (v := y2) C hP (t20 (a := k0) (t := 2) (hr5_0.T ht0 (by decide))) ((hr5_0.R (k := 4) ht0 (by decide) (by decide)).trans ey2) cw_769 dX8_logic_47 ?_
        refine lv_iload_n C.x C.b dX8_logic_50 rfl (lv_at hl 3 rfl) ?_
        refine lv_iconst (v := 1) C.x C.b dX8_logic_51 (by decide +kernel) ?_
        refine lv_iadd C.x C.b dX8_logic_52 ?_
        refine lv_topi (fun x25 ex25 => ?_)
        have tx25 : x25.toInt = k1.toInt + 1 := (vX8_logic_18 k1 d x4 x25 hpre_2 hpre_3 hpre_4 ex4 tx4 ex25)
        refine c_callVq (n := 2) (As := [va_rf y2, .int x25]) (rest := [.ref (ad 3)]) C hP hS hl.1 (IH (tI (tP (tQ (tQ (tA (tI (tI (tI (tI κ 8 n6) 9 n7) 10 n8) 11 n9) 16 F10) 15 Z11) 17 Z12) P13) 9 n19) H.size (SLT H) C.f (fun q h => C.a q (Nat.le_trans hS.1 h)) y2 x25 (hr5_0.nt ty2 (by decide)) hr5_1 hr5_2 (vX8_logic_19 k1 d x4 n6 x25 hpre_2 hpre_3 hpre_4 ex4 tx4 hr5_4_0 hr5_4_1 ex25 tx25)) ⟨cw_711, cw_696, by decide +kernel⟩ ⟨cw_712, cw_713, cw_705⟩ rfl (hP.recvS (k := 3) (ci := 10) C.K rfl rfl) rfl rfl (lv_room (Nat.le_of_ble_eq_true rfl)) ⟨(vX8_logic_3 d ), (vX8_logic_4 d )⟩ ⟨(vX8_logic_20 κ k0 y1 y2 y3 P13 x22 kdy1 kc14 kc15 kc16 kc17 ex22 c23), (vX8_logic_21 κ k0 y1 y2 y3 P13 x22 kdy1 kc14 kc15 kc16 kc17 ex22 c23)⟩ dX8_logic_53 (fun r26 u H locs hr26 hP hS => ?_)
        obtain ⟨n27, n28, n29, n30, F31, Z32, Z33, P34⟩ := u
        have hP : CH D cy ad A (tP (tQ (tQ (tA (tI (tI (tI (tI (tI (tP (tQ (tQ (tA (tI (tI (tI (tI κ 8 n6) 9 n7) 10 n8) 11 n9) 16 F10) 15 Z11) 17 Z12) P13) 9 n19) 8 n27) 9 n28) 10 n29) 11 n30) 16 F31) 15 Z32) 17 Z33) P34) H := hP
        have hr26 : (EX P13 P34) ∧ (PV sa P34) ∧ (SV ad P34 (κ.2.1 0) (κ.2.1 1) (κ.2.2.2.1 6) (κ.2.2.2.1 7) (κ.2.2.2.1 8) (κ.2.2.2.1 13) Z32 Z33 (κ.1 1).toInt) ∧ (NT P34 1 r26) ∧ (0 ≤ n27.toInt ∧ n27.toInt ≤ 12) := hr26
        obtain ⟨hr26_0, hr26_1, hr26_2, hr26_3, hr26_4⟩ := hr26
        have kc35 : cto P34 y1 = cto P13 y1 := hr26_0.ct (hr5_0.nt ty1 (by decide)) (by decide)
        have kc36 : cto P34 y2 = cto P13 y2 := hr26_0.ct (hr5_0.nt ty2 (by decide)) (by decide)
        have kc37 : cto P34 y3 = cto P13 y3 := hr26_0.ct (hr5_0.nt ty3 (by decide)) (by decide)
        have kc38 : cto P34 (some k0) = cto P13 (some k0) := hr26_0.ct (nt_s (hr5_0.T ht0 (by decide))) (by decide)
        obtain ⟨hr26_4_0, hr26_4_1⟩ := hr26_4
        refine c_callVq (n := 1) (As := [va_rf r26]) (rest := []) C hP hS hl.1 (NX8_bool l D cy ad A sz0 sa (tP (tQ (tQ (tA (tI (tI (tI (tI (tI (tP (tQ (tQ (tA (tI (tI (tI (tI κ 8 n6) 9 n7) 10 n8) 11 n9) 16 F10) 15 Z11) 17 Z12) P13) 9 n19) 8 n27) 9 n28) 10 n29) 11 n30) 16 F31) 15 Z32) 17 Z33) P34) H.size (SLT H) C.f (fun q h => C.a q (Nat.le_trans hS.1 h)) r26 hr26_3 hr26_1 hr26_2) ⟨cw_823, cw_826, by decide +kernel⟩ ⟨cw_824, cw_825, cw_705⟩ rfl (hP.recvS (k := 3) (ci := 10) C.K rfl rfl) rfl rfl (lv_room (Nat.le_of_ble_eq_true rfl)) ⟨(vX8_logic_7 d ), (vX8_logic_8 d )⟩ ⟨(vX8_logic_22 κ k0 y1 y2 y3 P13 x22 P34 kdy1 kc14 kc15 kc16 kc17 ex22 c23 kc35 kc36 kc37 kc38), (vX8_logic_23 κ k0 y1 y2 y3 P13 x22 P34 kdy1 kc14 kc15 kc16 kc17 ex22 c23 kc35 kc36 kc37 kc38)⟩ dX8_logic_56 (fun r39 u H locs hr39 hP hS => ?_)
        obtain ⟨n40, rfl⟩ : ∃ z, z = u := ⟨_, rfl⟩
        have hP : CH D cy ad A (tI (tP (tQ (tQ (tA (tI (tI (tI (tI (tI (tP (tQ (tQ (tA (tI (tI (tI (tI κ 8 n6) 9 n7) 10 n8) 11 n9) 16 F10) 15 Z11) 17 Z12) P13) 9 n19) 8 n27) 9 n28) 10 n29) 11 n30) 16 F31) 15 Z32) 17 Z33) P34) 9 n40) H := hP
        have hr39 : (NT P34 1 r39) := hr39
        have hP : CH D cy ad A (tP (tQ (tQ (tA (tI (tI (tI (tI κ 8 n27) 9 n40) 10 n29) 11 n30) 16 F31) 15 Z32) 17 Z33) P34) H := CH.cong hP rfl rfl rfl rfl rfl rfl rfl rfl rfl rfl rfl rfl rfl rfl rfl rfl rfl rfl rfl rfl rfl rfl rfl rfl rfl rfl rfl
        exact c_retq (v := r39) (Or.inl ⟨_, rfl⟩) C hsz hsl ⟨n27, n40, n29, n30, F31, Z32, Z33, P34⟩ ⟨(hr5_0.trans hr26_0), hr26_1, hr26_2, hr39, (vX8_logic_24 n27 hr26_4_0 hr26_4_1)⟩ hP hS ⟨(vX8_logic_22 κ k0 y1 y2 y3 P13 x22 P34 kdy1 kc14 kc15 kc16 kc17 ex22 c23 kc35 kc36 kc37 kc38), (vX8_logic_23 κ k0 y1 y2 y3 P13 x22 P34 kdy1 kc14 kc15 kc16 kc17 ex22 c23 kc35 kc36 kc37 kc38)⟩ ⟨(vX8_logic_25 κ k0 y1 y2 y3 P13 x22 P34 kdy1 kc14 kc15 kc16 kc17 ex22 c23 kc35 kc36 kc37 kc38), (vX8_logic_26 κ k0 y1 y2 y3 P13 x22 P34 kdy1 kc14 kc15 kc16 kc17 ex22 c23 kc35 kc36 kc37 kc38)⟩ dX8_logic_59
      · have c24 : r21.toInt = 0 := by have h := z_eq c24; rw [show (0 : Int32).toInt = 0 from by decide +kernel] at h; exact h
        refine lv_aload_n C.x C.b dX8_logic_42 rfl (lv_at hl 0 rfl) ?_
        have hP : CH D cy ad A (tP (tQ (tQ (tA (tI (tI (tI (tI κ 8 n6) 9 n19) 10 n8) 11 n9) 16 F10) 15 Z11) 17 Z12) P13) H := CH.cong hP rfl rfl rfl rfl rfl rfl rfl rfl rfl rfl rfl rfl rfl rfl rfl rfl rfl rfl rfl rfl rfl rfl rfl rfl rfl rfl rfl
        exact c_retq (v := (some b20)) (Or.inl ⟨_, rfl⟩) C hsz hsl ⟨n6, n19, n8, n9, F10, Z11, Z12, P13⟩ ⟨hr5_0, hr5_1, hr5_2, (nt_s hb20), (vX8_logic_11 n6 hr5_4_0 hr5_4_1)⟩ hP hS ⟨(vX8_logic_27 κ k0 y1 y2 y3 P13 x22 kdy1 kc14 kc15 kc16 kc17 ex22 c23), (vX8_logic_28 κ k0 y1 y2 y3 P13 x22 kdy1 kc14 kc15 kc16 kc17 ex22 c23)⟩ ⟨(vX8_logic_29 κ k0 y1 y2 y3 P13 x22 kdy1 kc14 kc15 kc16 kc17 ex22 c23), (vX8_logic_30 κ k0 y1 y2 y3 P13 x22 kdy1 kc14 kc15 kc16 kc17 ex22 c23)⟩ dX8_logic_43
    · have c23 : x22.toInt = 31868 := by have h := z_eq c23; rw [show (31868 : Int32).toInt = 31868 from by decide +kernel] at h; exact h
      refine lv_iconst (v := 1) C.x C.b dX8_logic_34 (by decide +kernel) ?_
      refine lv_goto (tgt := 39) C.x C.b dX8_logic_35 (by decide) ?_
      refine lv_icmp_ne (tgt := 44) C.x C.b dX8_logic_39 (by decide) (fun c41 => ?_) (fun c41 => ?_)
      · have c41 : ¬ r21.toInt = 1 := by have h := z_ne c41; rw [show (1 : Int32).toInt = 1 from by decide +kernel] at h; exact h
        refine lv_aload_n C.x C.b dX8_logic_44 rfl (lv_at hl 1 rfl) ?_
        refine lv_aload_n C.x C.b dX8_logic_45 rfl (lv_at hl 1 rfl) ?_
        refine lv_aload_n C.x C.b dX8_logic_46 rfl (lv_at hl 2 rfl) ?_
        refine pg_X5_4 (v := y2) C hP (t20 (a := k0) (t := 2) (hr5_0.T ht0 (by decide))) ((hr5_0.R (k := 4) ht0 (by decide) (by decide)).trans ey2) cw_769 dX8_logic_47 ?_
        refine lv_iload_n C.x C.b dX8_logic_50 rfl (lv_at hl 3 rfl) ?_
        refine lv_iconst (v := 1) C.x C.b dX8_logic_51 (by decide +kernel) ?_
        refine lv_iadd C.x C.b dX8_logic_52 ?_
        refine lv_topi (fun x42 ex42 => ?_)
        have tx42 : x42.toInt = k1.toInt + 1 := (vX8_logic_31 k1 d x4 x42 hpre_2 hpre_3 hpre_4 ex4 tx4 ex42)
        refine c_callVq (n := 2) (As := [va_rf y2, .int x42]) (rest := [.ref (ad 3)]) C hP hS hl.1 (IH (tI (tP (tQ (tQ (tA (tI (tI (tI (tI κ 8 n6) 9 n7) 10 n8) 11 n9) 16 F10) 15 Z11) 17 Z12) P13) 9 n19) H.size (SLT H) C.f (fun q h => C.a q (Nat.le_trans hS.1 h)) y2 x42 (hr5_0.nt ty2 (by decide)) hr5_1 hr5_2 (vX8_logic_32 k1 d x4 n6 x42 hpre_2 hpre_3 hpre_4 ex4 tx4 hr5_4_0 hr5_4_1 ex42 tx42)) ⟨cw_711, cw_696, by decide +kernel⟩ ⟨cw_712, cw_713, cw_705⟩ rfl (hP.recvS (k := 3) (ci := 10) C.K rfl rfl) rfl rfl (lv_room (Nat.le_of_ble_eq_true rfl)) ⟨(vX8_logic_3 d ), (vX8_logic_4 d )⟩ ⟨(vX8_logic_33 κ k0 y1 y2 y3 P13 x22 kdy1 kc14 kc15 kc16 kc17 ex22 c23), (vX8_logic_34 κ k0 y1 y2 y3 P13 x22 kdy1 kc14 kc15 kc16 kc17 ex22 c23)⟩ dX8_logic_53 (fun r43 u H locs hr43 hP hS => ?_)
        obtain ⟨n44, n45, n46, n47, F48, Z49, Z50, P51⟩ := u
        have hP : CH D cy ad A (tP (tQ (tQ (tA (tI (tI (tI (tI (tI (tP (tQ (tQ (tA (tI (tI (tI (tI κ 8 n6) 9 n7) 10 n8) 11 n9) 16 F10) 15 Z11) 17 Z12) P13) 9 n19) 8 n44) 9 n45) 10 n46) 11 n47) 16 F48) 15 Z49) 17 Z50) P51) H := hP
        have hr43 : (EX P13 P51) ∧ (PV sa P51) ∧ (SV ad P51 (κ.2.1 0) (κ.2.1 1) (κ.2.2.2.1 6) (κ.2.2.2.1 7) (κ.2.2.2.1 8) (κ.2.2.2.1 13) Z49 Z50 (κ.1 1).toInt) ∧ (NT P51 1 r43) ∧ (0 ≤ n44.toInt ∧ n44.toInt ≤ 12) := hr43
        obtain ⟨hr43_0, hr43_1, hr43_2, hr43_3, hr43_4⟩ := hr43
        have kc52 : cto P51 y1 = cto P13 y1 := hr43_0.ct (hr5_0.nt ty1 (by decide)) (by decide)
        have kc53 : cto P51 y2 = cto P13 y2 := hr43_0.ct (hr5_0.nt ty2 (by decide)) (by decide)
        have kc54 : cto P51 y3 = cto P13 y3 := hr43_0.ct (hr5_0.nt ty3 (by decide)) (by decide)
        have kc55 : cto P51 (some k0) = cto P13 (some k0) := hr43_0.ct (nt_s (hr5_0.T ht0 (by decide))) (by decide)
        obtain ⟨hr43_4_0, hr43_4_1⟩ := hr43_4
        refine c_callVq (n := 1) (As := [va_rf r43]) (rest := []) C hP hS hl.1 (NX8_bool l D cy ad A sz0 sa (tP (tQ (tQ (tA (tI (tI (tI (tI (tI (tP (tQ (tQ (tA (tI (tI (tI (tI κ 8 n6) 9 n7) 10 n8) 11 n9) 16 F10) 15 Z11) 17 Z12) P13) 9 n19) 8 n44) 9 n45) 10 n46) 11 n47) 16 F48) 15 Z49) 17 Z50) P51) H.size (SLT H) C.f (fun q h => C.a q (Nat.le_trans hS.1 h)) r43 hr43_3 hr43_1 hr43_2) ⟨cw_823, cw_826, by decide +kernel⟩ ⟨cw_824, cw_825, cw_705⟩ rfl (hP.recvS (k := 3) (ci := 10) C.K rfl rfl) rfl rfl (lv_room (Nat.le_of_ble_eq_true rfl)) ⟨(vX8_logic_7 d ), (vX8_logic_8 d )⟩ ⟨(vX8_logic_35 κ k0 y1 y2 y3 P13 x22 P51 kdy1 kc14 kc15 kc16 kc17 ex22 c23 kc52 kc53 kc54 kc55), (vX8_logic_36 κ k0 y1 y2 y3 P13 x22 P51 kdy1 kc14 kc15 kc16 kc17 ex22 c23 kc52 kc53 kc54 kc55)⟩ dX8_logic_56 (fun r56 u H locs hr56 hP hS => ?_)
        obtain ⟨n57, rfl⟩ : ∃ z, z = u := ⟨_, rfl⟩
        have hP : CH D cy ad A (tI (tP (tQ (tQ (tA (tI (tI (tI (tI (tI (tP (tQ (tQ (tA (tI (tI (tI (tI κ 8 n6) 9 n7) 10 n8) 11 n9) 16 F10) 15 Z11) 17 Z12) P13) 9 n19) 8 n44) 9 n45) 10 n46) 11 n47) 16 F48) 15 Z49) 17 Z50) P51) 9 n57) H := hP
        have hr56 : (NT P51 1 r56) := hr56
        have hP : CH D cy ad A (tP (tQ (tQ (tA (tI (tI (tI (tI κ 8 n44) 9 n57) 10 n46) 11 n47) 16 F48) 15 Z49) 17 Z50) P51) H := CH.cong hP rfl rfl rfl rfl rfl rfl rfl rfl rfl rfl rfl rfl rfl rfl rfl rfl rfl rfl rfl rfl rfl rfl rfl rfl rfl rfl rfl
        exact c_retq (v := r56) (Or.inl ⟨_, rfl⟩) C hsz hsl ⟨n44, n57, n46, n47, F48, Z49, Z50, P51⟩ ⟨(hr5_0.trans hr43_0), hr43_1, hr43_2, hr56, (vX8_logic_37 n44 hr43_4_0 hr43_4_1)⟩ hP hS ⟨(vX8_logic_35 κ k0 y1 y2 y3 P13 x22 P51 kdy1 kc14 kc15 kc16 kc17 ex22 c23 kc52 kc53 kc54 kc55), (vX8_logic_36 κ k0 y1 y2 y3 P13 x22 P51 kdy1 kc14 kc15 kc16 kc17 ex22 c23 kc52 kc53 kc54 kc55)⟩ ⟨(vX8_logic_38 κ k0 y1 y2 y3 P13 x22 P51 kdy1 kc14 kc15 kc16 kc17 ex22 c23 kc52 kc53 kc54 kc55), (vX8_logic_39 κ k0 y1 y2 y3 P13 x22 P51 kdy1 kc14 kc15 kc16 kc17 ex22 c23 kc52 kc53 kc54 kc55)⟩ dX8_logic_59
      · have c41 : r21.toInt = 1 := by have h := z_eq c41; rw [show (1 : Int32).toInt = 1 from by decide +kernel] at h; exact h
        refine lv_aload_n C.x C.b dX8_logic_42 rfl (lv_at hl 0 rfl) ?_
        have hP : CH D cy ad A (tP (tQ (tQ (tA (tI (tI (tI (tI κ 8 n6) 9 n19) 10 n8) 11 n9) 16 F10) 15 Z11) 17 Z12) P13) H := CH.cong hP rfl rfl rfl rfl rfl rfl rfl rfl rfl rfl rfl rfl rfl rfl rfl rfl rfl rfl rfl rfl rfl rfl rfl rfl rfl rfl rfl
        exact c_retq (v := (some b20)) (Or.inl ⟨_, rfl⟩) C hsz hsl ⟨n6, n19, n8, n9, F10, Z11, Z12, P13⟩ ⟨hr5_0, hr5_1, hr5_2, (nt_s hb20), (vX8_logic_11 n6 hr5_4_0 hr5_4_1)⟩ hP hS ⟨(vX8_logic_40 κ k0 y1 y2 y3 P13 x22 kdy1 kc14 kc15 kc16 kc17 ex22 c23), (vX8_logic_41 κ k0 y1 y2 y3 P13 x22 kdy1 kc14 kc15 kc16 kc17 ex22 c23)⟩ ⟨(vX8_logic_42 κ k0 y1 y2 y3 P13 x22 kdy1 kc14 kc15 kc16 kc17 ex22 c23), (vX8_logic_43 κ k0 y1 y2 y3 P13 x22 kdy1 kc14 kc15 kc16 kc17 ex22 c23)⟩ dX8_logic_43

-- nw@8 @8
theorem vX8_chosen_1 (k1 : Int32) (d : Nat) (x4 : Int32) (hpre_2 : 0 ≤ k1.toInt) (hpre_3 : k1.toInt ≤ 40) (hpre_4 : 40 ≤ k1.toInt + ((d : Nat) : Int)) (ex4 : x4 = k1 + (1 : Int32)) : x4.toInt = k1.toInt + 1 := by
  have q1 : (1 : Int32).toInt = 1 := by decide +kernel
  have w1 : (1 : Int32).toInt = 1 := by decide +kernel
  rw [ex4, z_add (by omega) (by omega)]; first | done | omega
-- pre:X8_eval@9 @9
theorem vX8_chosen_2 (κ : KS) (k1 : Int32) (d : Nat) (x4 : Int32) (hpre_0 : 0 ≤ (κ.1 8).toInt) (hpre_1 : (κ.1 8).toInt ≤ 12) (hpre_2 : 0 ≤ k1.toInt) (hpre_3 : k1.toInt ≤ 40) (hpre_4 : 40 ≤ k1.toInt + ((d : Nat) : Int)) (ex4 : x4 = k1 + (1 : Int32)) (tx4 : x4.toInt = k1.toInt + 1) : 0 ≤ (κ.1 8).toInt ∧ (κ.1 8).toInt ≤ 12 ∧ 0 ≤ x4.toInt ∧ x4.toInt ≤ 41 ∧ 41 ≤ x4.toInt + ((d : Nat) : Int) := by
  have q1 : (1 : Int32).toInt = 1 := by decide +kernel
  refine ⟨?_, ?_, ?_, ?_, ?_⟩ <;> first | assumption | omega | (subst_vars; omega) | trivial
-- frames @9
theorem vX8_chosen_3 (d : Nat)  : 4 * d + 30 + 1 ≤ 4 * d + 33 := by
  first | assumption | omega | (subst_vars; omega) | trivial
-- locals @9
theorem vX8_chosen_4 (d : Nat)  : 8 + (3 + 11) + (200 * d + 700) ≤ 200 * d + 860 := by
  first | assumption | omega | (subst_vars; omega) | trivial
-- room @9
theorem vX8_chosen_5 (κ : KS) (k0 : Nat) (y1 : Option Nat) (y2 : Option Nat) (y3 : Option Nat) (kdy1 : 1 + cto κ.2.2.2.2 y1 + cto κ.2.2.2.2 y2 + cto κ.2.2.2.2 y3 ≤ cto κ.2.2.2.2 (some k0)) : 0 + (13 * cto κ.2.2.2.2 y1) ≤ 13 * cto κ.2.2.2.2 (some k0) := by
  first | assumption | omega | (subst_vars; omega) | trivial
-- room @9
theorem vX8_chosen_6 (κ : KS) (k0 : Nat) (y1 : Option Nat) (y2 : Option Nat) (y3 : Option Nat) (kdy1 : 1 + cto κ.2.2.2.2 y1 + cto κ.2.2.2.2 y2 + cto κ.2.2.2.2 y3 ≤ cto κ.2.2.2.2 (some k0)) : 0 + (120 * cto κ.2.2.2.2 y1) ≤ 120 * cto κ.2.2.2.2 (some k0) := by
  first | assumption | omega | (subst_vars; omega) | trivial
-- frames @12
theorem vX8_chosen_7 (d : Nat)  : 1 + 1 ≤ 4 * d + 33 := by
  first | assumption | omega | (subst_vars; omega) | trivial
-- locals @12
theorem vX8_chosen_8 (d : Nat)  : 8 + (2 + 11) + 21 ≤ 200 * d + 860 := by
  first | assumption | omega | (subst_vars; omega) | trivial
-- room @12
theorem vX8_chosen_9 (κ : KS) (k0 : Nat) (y1 : Option Nat) (y2 : Option Nat) (y3 : Option Nat) (P13 : PL) (kdy1 : 1 + cto κ.2.2.2.2 y1 + cto κ.2.2.2.2 y2 + cto κ.2.2.2.2 y3 ≤ cto κ.2.2.2.2 (some k0)) (kc14 : cto P13 y1 = cto κ.2.2.2.2 y1) (kc15 : cto P13 y2 = cto κ.2.2.2.2 y2) (kc16 : cto P13 y3 = cto κ.2.2.2.2 y3) (kc17 : cto P13 (some k0) = cto κ.2.2.2.2 (some k0)) : 0 + (13 * cto κ.2.2.2.2 y1) + 0 ≤ 13 * cto κ.2.2.2.2 (some k0) := by
  first | assumption | omega | (subst_vars; omega) | trivial
-- room @12
theorem vX8_chosen_10 (κ : KS) (k0 : Nat) (y1 : Option Nat) (y2 : Option Nat) (y3 : Option Nat) (P13 : PL) (kdy1 : 1 + cto κ.2.2.2.2 y1 + cto κ.2.2.2.2 y2 + cto κ.2.2.2.2 y3 ≤ cto κ.2.2.2.2 (some k0)) (kc14 : cto P13 y1 = cto κ.2.2.2.2 y1) (kc15 : cto P13 y2 = cto κ.2.2.2.2 y2) (kc16 : cto P13 y3 = cto κ.2.2.2.2 y3) (kc17 : cto P13 (some k0) = cto κ.2.2.2.2 (some k0)) : 0 + (120 * cto κ.2.2.2.2 y1) + 0 ≤ 120 * cto κ.2.2.2.2 (some k0) := by
  first | assumption | omega | (subst_vars; omega) | trivial
-- post @21
theorem vX8_chosen_11 (n6 : Int32) (hr5_4_0 : 0 ≤ n6.toInt) (hr5_4_1 : n6.toInt ≤ 12) : 0 ≤ n6.toInt ∧ n6.toInt ≤ 12 := by
  refine ⟨?_, ?_⟩ <;> first | assumption | omega | (subst_vars; omega) | trivial
-- growm @21
theorem vX8_chosen_12 (κ : KS) (k0 : Nat) (y1 : Option Nat) (y2 : Option Nat) (y3 : Option Nat) (P13 : PL) (kdy1 : 1 + cto κ.2.2.2.2 y1 + cto κ.2.2.2.2 y2 + cto κ.2.2.2.2 y3 ≤ cto κ.2.2.2.2 (some k0)) (kc14 : cto P13 y1 = cto κ.2.2.2.2 y1) (kc15 : cto P13 y2 = cto κ.2.2.2.2 y2) (kc16 : cto P13 y3 = cto κ.2.2.2.2 y3) (kc17 : cto P13 (some k0) = cto κ.2.2.2.2 (some k0)) : 13 * cto κ.2.2.2.2 (some k0) ≤ 13 * cto κ.2.2.2.2 (some k0) := by
  first | assumption | omega | (subst_vars; omega) | trivial
-- growm @21
theorem vX8_chosen_13 (κ : KS) (k0 : Nat) (y1 : Option Nat) (y2 : Option Nat) (y3 : Option Nat) (P13 : PL) (kdy1 : 1 + cto κ.2.2.2.2 y1 + cto κ.2.2.2.2 y2 + cto κ.2.2.2.2 y3 ≤ cto κ.2.2.2.2 (some k0)) (kc14 : cto P13 y1 = cto κ.2.2.2.2 y1) (kc15 : cto P13 y2 = cto κ.2.2.2.2 y2) (kc16 : cto P13 y3 = cto κ.2.2.2.2 y3) (kc17 : cto P13 (some k0) = cto κ.2.2.2.2 (some k0)) : 120 * cto κ.2.2.2.2 (some k0) ≤ 120 * cto κ.2.2.2.2 (some k0) := by
  first | assumption | omega | (subst_vars; omega) | trivial
-- frames @24
theorem vX8_chosen_14 (d : Nat)  : 0 + 1 ≤ 4 * d + 33 := by
  first | assumption | omega | (subst_vars; omega) | trivial
-- locals @24
theorem vX8_chosen_15 (d : Nat)  : 8 + (1 + 11) + 0 ≤ 200 * d + 860 := by
  first | assumption | omega | (subst_vars; omega) | trivial
-- room @24
theorem vX8_chosen_16 (κ : KS) (k0 : Nat) (y1 : Option Nat) (y2 : Option Nat) (y3 : Option Nat) (P13 : PL) (kdy1 : 1 + cto κ.2.2.2.2 y1 + cto κ.2.2.2.2 y2 + cto κ.2.2.2.2 y3 ≤ cto κ.2.2.2.2 (some k0)) (kc14 : cto P13 y1 = cto κ.2.2.2.2 y1) (kc15 : cto P13 y2 = cto κ.2.2.2.2 y2) (kc16 : cto P13 y3 = cto κ.2.2.2.2 y3) (kc17 : cto P13 (some k0) = cto κ.2.2.2.2 (some k0)) : 0 + (13 * cto κ.2.2.2.2 y1) + 0 + 0 ≤ 13 * cto κ.2.2.2.2 (some k0) := by
  first | assumption | omega | (subst_vars; omega) | trivial
-- room @24
theorem vX8_chosen_17 (κ : KS) (k0 : Nat) (y1 : Option Nat) (y2 : Option Nat) (y3 : Option Nat) (P13 : PL) (kdy1 : 1 + cto κ.2.2.2.2 y1 + cto κ.2.2.2.2 y2 + cto κ.2.2.2.2 y3 ≤ cto κ.2.2.2.2 (some k0)) (kc14 : cto P13 y1 = cto κ.2.2.2.2 y1) (kc15 : cto P13 y2 = cto κ.2.2.2.2 y2) (kc16 : cto P13 y3 = cto κ.2.2.2.2 y3) (kc17 : cto P13 (some k0) = cto κ.2.2.2.2 (some k0)) : 0 + (120 * cto κ.2.2.2.2 y1) + 0 + 0 ≤ 120 * cto κ.2.2.2.2 (some k0) := by
  first | assumption | omega | (subst_vars; omega) | trivial
-- nw@43 @43
theorem vX8_chosen_18 (k1 : Int32) (d : Nat) (x4 : Int32) (x23 : Int32) (hpre_2 : 0 ≤ k1.toInt) (hpre_3 : k1.toInt ≤ 40) (hpre_4 : 40 ≤ k1.toInt + ((d : Nat) : Int)) (ex4 : x4 = k1 + (1 : Int32)) (tx4 : x4.toInt = k1.toInt + 1) (ex23 : x23 = k1 + (1 : Int32)) : x23.toInt = k1.toInt + 1 := by
  have q1 : (1 : Int32).toInt = 1 := by decide +kernel
  have w1 : (1 : Int32).toInt = 1 := by decide +kernel
  rw [ex23, z_add (by omega) (by omega)]; first | done | omega
-- pre:X8_eval@44 @44
theorem vX8_chosen_19 (k1 : Int32) (d : Nat) (x4 : Int32) (n6 : Int32) (x23 : Int32) (hpre_2 : 0 ≤ k1.toInt) (hpre_3 : k1.toInt ≤ 40) (hpre_4 : 40 ≤ k1.toInt + ((d : Nat) : Int)) (ex4 : x4 = k1 + (1 : Int32)) (tx4 : x4.toInt = k1.toInt + 1) (hr5_4_0 : 0 ≤ n6.toInt) (hr5_4_1 : n6.toInt ≤ 12) (ex23 : x23 = k1 + (1 : Int32)) (tx23 : x23.toInt = k1.toInt + 1) : 0 ≤ n6.toInt ∧ n6.toInt ≤ 12 ∧ 0 ≤ x23.toInt ∧ x23.toInt ≤ 41 ∧ 41 ≤ x23.toInt + ((d : Nat) : Int) := by
  have q1 : (1 : Int32).toInt = 1 := by decide +kernel
  refine ⟨?_, ?_, ?_, ?_, ?_⟩ <;> first | assumption | omega | (subst_vars; omega) | trivial
-- room @44
theorem vX8_chosen_20 (κ : KS) (k0 : Nat) (y1 : Option Nat) (y2 : Option Nat) (y3 : Option Nat) (P13 : PL) (kdy1 : 1 + cto κ.2.2.2.2 y1 + cto κ.2.2.2.2 y2 + cto κ.2.2.2.2 y3 ≤ cto κ.2.2.2.2 (some k0)) (kc14 : cto P13 y1 = cto κ.2.2.2.2 y1) (kc15 : cto P13 y2 = cto κ.2.2.2.2 y2) (kc16 : cto P13 y3 = cto κ.2.2.2.2 y3) (kc17 : cto P13 (some k0) = cto κ.2.2.2.2 (some k0)) : 0 + (13 * cto κ.2.2.2.2 y1) + 0 + 0 + (13 * cto P13 y3) ≤ 13 * cto κ.2.2.2.2 (some k0) := by
  first | assumption | omega | (subst_vars; omega) | trivial
-- room @44
theorem vX8_chosen_21 (κ : KS) (k0 : Nat) (y1 : Option Nat) (y2 : Option Nat) (y3 : Option Nat) (P13 : PL) (kdy1 : 1 + cto κ.2.2.2.2 y1 + cto κ.2.2.2.2 y2 + cto κ.2.2.2.2 y3 ≤ cto κ.2.2.2.2 (some k0)) (kc14 : cto P13 y1 = cto κ.2.2.2.2 y1) (kc15 : cto P13 y2 = cto κ.2.2.2.2 y2) (kc16 : cto P13 y3 = cto κ.2.2.2.2 y3) (kc17 : cto P13 (some k0) = cto κ.2.2.2.2 (some k0)) : 0 + (120 * cto κ.2.2.2.2 y1) + 0 + 0 + (120 * cto P13 y3) ≤ 120 * cto κ.2.2.2.2 (some k0) := by
  first | assumption | omega | (subst_vars; omega) | trivial
-- post @47
theorem vX8_chosen_22 (n25 : Int32) (hr24_4_0 : 0 ≤ n25.toInt) (hr24_4_1 : n25.toInt ≤ 12) : 0 ≤ n25.toInt ∧ n25.toInt ≤ 12 := by
  refine ⟨?_, ?_⟩ <;> first | assumption | omega | (subst_vars; omega) | trivial
-- grow @47
theorem vX8_chosen_23 (κ : KS) (k0 : Nat) (y1 : Option Nat) (y2 : Option Nat) (y3 : Option Nat) (P13 : PL) (P32 : PL) (kdy1 : 1 + cto κ.2.2.2.2 y1 + cto κ.2.2.2.2 y2 + cto κ.2.2.2.2 y3 ≤ cto κ.2.2.2.2 (some k0)) (kc14 : cto P13 y1 = cto κ.2.2.2.2 y1) (kc15 : cto P13 y2 = cto κ.2.2.2.2 y2) (kc16 : cto P13 y3 = cto κ.2.2.2.2 y3) (kc17 : cto P13 (some k0) = cto κ.2.2.2.2 (some k0)) (kc33 : cto P32 y1 = cto P13 y1) (kc34 : cto P32 y2 = cto P13 y2) (kc35 : cto P32 y3 = cto P13 y3) (kc36 : cto P32 (some k0) = cto P13 (some k0)) : 0 + (13 * cto κ.2.2.2.2 y1) + 0 + 0 + (13 * cto P13 y3) ≤ 13 * cto κ.2.2.2.2 (some k0) := by
  first | assumption | omega | (subst_vars; omega) | trivial
-- grow @47
theorem vX8_chosen_24 (κ : KS) (k0 : Nat) (y1 : Option Nat) (y2 : Option Nat) (y3 : Option Nat) (P13 : PL) (P32 : PL) (kdy1 : 1 + cto κ.2.2.2.2 y1 + cto κ.2.2.2.2 y2 + cto κ.2.2.2.2 y3 ≤ cto κ.2.2.2.2 (some k0)) (kc14 : cto P13 y1 = cto κ.2.2.2.2 y1) (kc15 : cto P13 y2 = cto κ.2.2.2.2 y2) (kc16 : cto P13 y3 = cto κ.2.2.2.2 y3) (kc17 : cto P13 (some k0) = cto κ.2.2.2.2 (some k0)) (kc33 : cto P32 y1 = cto P13 y1) (kc34 : cto P32 y2 = cto P13 y2) (kc35 : cto P32 y3 = cto P13 y3) (kc36 : cto P32 (some k0) = cto P13 (some k0)) : 0 + (120 * cto κ.2.2.2.2 y1) + 0 + 0 + (120 * cto P13 y3) ≤ 120 * cto κ.2.2.2.2 (some k0) := by
  first | assumption | omega | (subst_vars; omega) | trivial
-- growm @47
theorem vX8_chosen_25 (κ : KS) (k0 : Nat) (y1 : Option Nat) (y2 : Option Nat) (y3 : Option Nat) (P13 : PL) (P32 : PL) (kdy1 : 1 + cto κ.2.2.2.2 y1 + cto κ.2.2.2.2 y2 + cto κ.2.2.2.2 y3 ≤ cto κ.2.2.2.2 (some k0)) (kc14 : cto P13 y1 = cto κ.2.2.2.2 y1) (kc15 : cto P13 y2 = cto κ.2.2.2.2 y2) (kc16 : cto P13 y3 = cto κ.2.2.2.2 y3) (kc17 : cto P13 (some k0) = cto κ.2.2.2.2 (some k0)) (kc33 : cto P32 y1 = cto P13 y1) (kc34 : cto P32 y2 = cto P13 y2) (kc35 : cto P32 y3 = cto P13 y3) (kc36 : cto P32 (some k0) = cto P13 (some k0)) : 13 * cto κ.2.2.2.2 (some k0) ≤ 13 * cto κ.2.2.2.2 (some k0) := by
  first | assumption | omega | (subst_vars; omega) | trivial
-- growm @47
theorem vX8_chosen_26 (κ : KS) (k0 : Nat) (y1 : Option Nat) (y2 : Option Nat) (y3 : Option Nat) (P13 : PL) (P32 : PL) (kdy1 : 1 + cto κ.2.2.2.2 y1 + cto κ.2.2.2.2 y2 + cto κ.2.2.2.2 y3 ≤ cto κ.2.2.2.2 (some k0)) (kc14 : cto P13 y1 = cto κ.2.2.2.2 y1) (kc15 : cto P13 y2 = cto κ.2.2.2.2 y2) (kc16 : cto P13 y3 = cto κ.2.2.2.2 y3) (kc17 : cto P13 (some k0) = cto κ.2.2.2.2 (some k0)) (kc33 : cto P32 y1 = cto P13 y1) (kc34 : cto P32 y2 = cto P13 y2) (kc35 : cto P32 y3 = cto P13 y3) (kc36 : cto P32 (some k0) = cto P13 (some k0)) : 120 * cto κ.2.2.2.2 (some k0) ≤ 120 * cto κ.2.2.2.2 (some k0) := by
  first | assumption | omega | (subst_vars; omega) | trivial
-- nw@43 @43
theorem vX8_chosen_27 (k1 : Int32) (d : Nat) (x4 : Int32) (x37 : Int32) (hpre_2 : 0 ≤ k1.toInt) (hpre_3 : k1.toInt ≤ 40) (hpre_4 : 40 ≤ k1.toInt + ((d : Nat) : Int)) (ex4 : x4 = k1 + (1 : Int32)) (tx4 : x4.toInt = k1.toInt + 1) (ex37 : x37 = k1 + (1 : Int32)) : x37.toInt = k1.toInt + 1 := by
  have q1 : (1 : Int32).toInt = 1 := by decide +kernel
  have w1 : (1 : Int32).toInt = 1 := by decide +kernel
  rw [ex37, z_add (by omega) (by omega)]; first | done | omega
-- pre:X8_eval@44 @44
theorem vX8_chosen_28 (k1 : Int32) (d : Nat) (x4 : Int32) (n6 : Int32) (x37 : Int32) (hpre_2 : 0 ≤ k1.toInt) (hpre_3 : k1.toInt ≤ 40) (hpre_4 : 40 ≤ k1.toInt + ((d : Nat) : Int)) (ex4 : x4 = k1 + (1 : Int32)) (tx4 : x4.toInt = k1.toInt + 1) (hr5_4_0 : 0 ≤ n6.toInt) (hr5_4_1 : n6.toInt ≤ 12) (ex37 : x37 = k1 + (1 : Int32)) (tx37 : x37.toInt = k1.toInt + 1) : 0 ≤ n6.toInt ∧ n6.toInt ≤ 12 ∧ 0 ≤ x37.toInt ∧ x37.toInt ≤ 41 ∧ 41 ≤ x37.toInt + ((d : Nat) : Int) := by
  have q1 : (1 : Int32).toInt = 1 := by decide +kernel
  refine ⟨?_, ?_, ?_, ?_, ?_⟩ <;> first | assumption | omega | (subst_vars; omega) | trivial
-- room @44
theorem vX8_chosen_29 (κ : KS) (k0 : Nat) (y1 : Option Nat) (y2 : Option Nat) (y3 : Option Nat) (P13 : PL) (kdy1 : 1 + cto κ.2.2.2.2 y1 + cto κ.2.2.2.2 y2 + cto κ.2.2.2.2 y3 ≤ cto κ.2.2.2.2 (some k0)) (kc14 : cto P13 y1 = cto κ.2.2.2.2 y1) (kc15 : cto P13 y2 = cto κ.2.2.2.2 y2) (kc16 : cto P13 y3 = cto κ.2.2.2.2 y3) (kc17 : cto P13 (some k0) = cto κ.2.2.2.2 (some k0)) : 0 + (13 * cto κ.2.2.2.2 y1) + 0 + 0 + (13 * cto P13 y2) ≤ 13 * cto κ.2.2.2.2 (some k0) := by
  first | assumption | omega | (subst_vars; omega) | trivial
-- room @44
theorem vX8_chosen_30 (κ : KS) (k0 : Nat) (y1 : Option Nat) (y2 : Option Nat) (y3 : Option Nat) (P13 : PL) (kdy1 : 1 + cto κ.2.2.2.2 y1 + cto κ.2.2.2.2 y2 + cto κ.2.2.2.2 y3 ≤ cto κ.2.2.2.2 (some k0)) (kc14 : cto P13 y1 = cto κ.2.2.2.2 y1) (kc15 : cto P13 y2 = cto κ.2.2.2.2 y2) (kc16 : cto P13 y3 = cto κ.2.2.2.2 y3) (kc17 : cto P13 (some k0) = cto κ.2.2.2.2 (some k0)) : 0 + (120 * cto κ.2.2.2.2 y1) + 0 + 0 + (120 * cto P13 y2) ≤ 120 * cto κ.2.2.2.2 (some k0) := by
  first | assumption | omega | (subst_vars; omega) | trivial
-- post @47
theorem vX8_chosen_31 (n39 : Int32) (hr38_4_0 : 0 ≤ n39.toInt) (hr38_4_1 : n39.toInt ≤ 12) : 0 ≤ n39.toInt ∧ n39.toInt ≤ 12 := by
  refine ⟨?_, ?_⟩ <;> first | assumption | omega | (subst_vars; omega) | trivial
-- grow @47
theorem vX8_chosen_32 (κ : KS) (k0 : Nat) (y1 : Option Nat) (y2 : Option Nat) (y3 : Option Nat) (P13 : PL) (P46 : PL) (kdy1 : 1 + cto κ.2.2.2.2 y1 + cto κ.2.2.2.2 y2 + cto κ.2.2.2.2 y3 ≤ cto κ.2.2.2.2 (some k0)) (kc14 : cto P13 y1 = cto κ.2.2.2.2 y1) (kc15 : cto P13 y2 = cto κ.2.2.2.2 y2) (kc16 : cto P13 y3 = cto κ.2.2.2.2 y3) (kc17 : cto P13 (some k0) = cto κ.2.2.2.2 (some k0)) (kc47 : cto P46 y1 = cto P13 y1) (kc48 : cto P46 y2 = cto P13 y2) (kc49 : cto P46 y3 = cto P13 y3) (kc50 : cto P46 (some k0) = cto P13 (some k0)) : 0 + (13 * cto κ.2.2.2.2 y1) + 0 + 0 + (13 * cto P13 y2) ≤ 13 * cto κ.2.2.2.2 (some k0) := by
  first | assumption | omega | (subst_vars; omega) | trivial
-- grow @47
theorem vX8_chosen_33 (κ : KS) (k0 : Nat) (y1 : Option Nat) (y2 : Option Nat) (y3 : Option Nat) (P13 : PL) (P46 : PL) (kdy1 : 1 + cto κ.2.2.2.2 y1 + cto κ.2.2.2.2 y2 + cto κ.2.2.2.2 y3 ≤ cto κ.2.2.2.2 (some k0)) (kc14 : cto P13 y1 = cto κ.2.2.2.2 y1) (kc15 : cto P13 y2 = cto κ.2.2.2.2 y2) (kc16 : cto P13 y3 = cto κ.2.2.2.2 y3) (kc17 : cto P13 (some k0) = cto κ.2.2.2.2 (some k0)) (kc47 : cto P46 y1 = cto P13 y1) (kc48 : cto P46 y2 = cto P13 y2) (kc49 : cto P46 y3 = cto P13 y3) (kc50 : cto P46 (some k0) = cto P13 (some k0)) : 0 + (120 * cto κ.2.2.2.2 y1) + 0 + 0 + (120 * cto P13 y2) ≤ 120 * cto κ.2.2.2.2 (some k0) := by
  first | assumption | omega | (subst_vars; omega) | trivial
-- growm @47
theorem vX8_chosen_34 (κ : KS) (k0 : Nat) (y1 : Option Nat) (y2 : Option Nat) (y3 : Option Nat) (P13 : PL) (P46 : PL) (kdy1 : 1 + cto κ.2.2.2.2 y1 + cto κ.2.2.2.2 y2 + cto κ.2.2.2.2 y3 ≤ cto κ.2.2.2.2 (some k0)) (kc14 : cto P13 y1 = cto κ.2.2.2.2 y1) (kc15 : cto P13 y2 = cto κ.2.2.2.2 y2) (kc16 : cto P13 y3 = cto κ.2.2.2.2 y3) (kc17 : cto P13 (some k0) = cto κ.2.2.2.2 (some k0)) (kc47 : cto P46 y1 = cto P13 y1) (kc48 : cto P46 y2 = cto P13 y2) (kc49 : cto P46 y3 = cto P13 y3) (kc50 : cto P46 (some k0) = cto P13 (some k0)) : 13 * cto κ.2.2.2.2 (some k0) ≤ 13 * cto κ.2.2.2.2 (some k0) := by
  first | assumption | omega | (subst_vars; omega) | trivial
-- growm @47
theorem vX8_chosen_35 (κ : KS) (k0 : Nat) (y1 : Option Nat) (y2 : Option Nat) (y3 : Option Nat) (P13 : PL) (P46 : PL) (kdy1 : 1 + cto κ.2.2.2.2 y1 + cto κ.2.2.2.2 y2 + cto κ.2.2.2.2 y3 ≤ cto κ.2.2.2.2 (some k0)) (kc14 : cto P13 y1 = cto κ.2.2.2.2 y1) (kc15 : cto P13 y2 = cto κ.2.2.2.2 y2) (kc16 : cto P13 y3 = cto κ.2.2.2.2 y3) (kc17 : cto P13 (some k0) = cto κ.2.2.2.2 (some k0)) (kc47 : cto P46 y1 = cto P13 y1) (kc48 : cto P46 y2 = cto P13 y2) (kc49 : cto P46 y3 = cto P13 y3) (kc50 : cto P46 (some k0) = cto P13 (some k0)) : 120 * cto κ.2.2.2.2 (some k0) ≤ 120 * cto κ.2.2.2.2 (some k0) := by
  first | assumption | omega | (subst_vars; omega) | trivial
set_option maxHeartbeats 4000000 in
set_option maxRecDepth 100000 in
theorem NX8_chosen (l : Launch) (D : va_G) (cy : Nat → ClassId) (ad : Nat → Nat) (A : Nat → Prop) (sz0 : Nat) (sa : Nat → Nat) (d : Nat) (IH : KX8_eval l D cy ad A sz0 sa d) (κ : KS) (sz sl : Nat) (hAF : ∀ q, A q → Fr sz0 q) (hAn : ∀ q : Nat, sz ≤ q → A q) (k0 : Nat) (k1 : Int32) (ht0 : oT κ.2.2.2.2 k0 = 2) (hPV : PV sa κ.2.2.2.2) (hSV : SV ad κ.2.2.2.2 (κ.2.1 0) (κ.2.1 1) (κ.2.2.2.1 6) (κ.2.2.2.1 7) (κ.2.2.2.1 8) (κ.2.2.2.1 13) (κ.2.2.2.1 15) (κ.2.2.2.1 17) (κ.1 1).toInt) (hpre : 0 ≤ (κ.1 8).toInt ∧ (κ.1 8).toInt ≤ 12 ∧ 0 ≤ k1.toInt ∧ k1.toInt ≤ 40 ∧ 40 ≤ k1.toInt + ((d : Nat) : Int)) : Met l yX8_chosen (Cond.code yX8_chosen cX8_chosen 4 (some (.object "PhraseDesk$Value")) :: GWc) ({ frames := 4 * d + 33, cells := 13 * cto κ.2.2.2.2 (some k0), slots := 120 * cto κ.2.2.2.2 (some k0), locals := 200 * d + 860 }) (PcC D cy ad A sz0 sa [.ref (ad 3), .ref k0, .int k1] κ sz sl) (va_Qq (fun (r : Option Nat) (u : Int32 × Int32 × Int32 × Int32 × (Nat → Int32) × (Nat → Option Nat) × (Nat → Option Nat) × PL) => (EX κ.2.2.2.2 u.2.2.2.2.2.2.2) ∧ (PV sa u.2.2.2.2.2.2.2) ∧ (SV ad u.2.2.2.2.2.2.2 (κ.2.1 0) (κ.2.1 1) (κ.2.2.2.1 6) (κ.2.2.2.1 7) (κ.2.2.2.1 8) (κ.2.2.2.1 13) u.2.2.2.2.2.1 u.2.2.2.2.2.2.1 (κ.1 1).toInt) ∧ (NT u.2.2.2.2.2.2.2 1 r) ∧ (0 ≤ u.1.toInt ∧ u.1.toInt ≤ 12)) (fun (u : Int32 × Int32 × Int32 × Int32 × (Nat → Int32) × (Nat → Option Nat) × (Nat → Option Nat) × PL) (t : State) => Bx D cy ad A sz sl (tP (tQ (tQ (tA (tI (tI (tI (tI κ 8 u.1) 9 u.2.1) 10 u.2.2.1) 11 u.2.2.2.1) 16 u.2.2.2.2.1) 15 u.2.2.2.2.2.1) 17 u.2.2.2.2.2.2.1) u.2.2.2.2.2.2.2) (13 * cto κ.2.2.2.2 (some k0)) (120 * cto κ.2.2.2.2 (some k0)) t) A) (13 * cto κ.2.2.2.2 (some k0)) (120 * cto κ.2.2.2.2 (some k0)) A := by
  refine CM_of (loc0 := [(0, .ref (ad 3)), (1, .ref k0), (2, .int k1)]) (own := RX8) (nm := "chosen") (by decide) rfl rfl rfl (Nat.le_of_ble_eq_true rfl) hAF hAn ?_
  intro p e s m below meth c ls hsz hsl C hP hS hl
  obtain ⟨hpre_0, hpre_1, hpre_2, hpre_3, hpre_4⟩ := hpre
  obtain ⟨y1, ey1⟩ : ∃ z, oR κ.2.2.2.2 3 k0 = z := ⟨_, rfl⟩
  have ty1 : NT κ.2.2.2.2 2 y1 := by rw [← ey1]; exact (hPV.t2 ht0).2.1
  obtain ⟨y2, ey2⟩ : ∃ z, oR κ.2.2.2.2 4 k0 = z := ⟨_, rfl⟩
  have ty2 : NT κ.2.2.2.2 2 y2 := by rw [← ey2]; exact (hPV.t2 ht0).2.2.1
  obtain ⟨y3, ey3⟩ : ∃ z, oR κ.2.2.2.2 5 k0 = z := ⟨_, rfl⟩
  have ty3 : NT κ.2.2.2.2 2 y3 := by rw [← ey3]; exact (hPV.t2 ht0).2.2.2.1
  have kdy1 : 1 + cto κ.2.2.2.2 y1 + cto κ.2.2.2.2 y2 + cto κ.2.2.2.2 y3 ≤ cto κ.2.2.2.2 (some k0) := by rw [← ey1, ← ey2, ← ey3]; exact (hPV.t2 ht0).2.2.2.2
  refine lv_aload_n C.x C.b dX8_chosen_0 rfl (lv_at hl 0 rfl) ?_
  refine lv_aload_n C.x C.b dX8_chosen_1 rfl (lv_at hl 0 rfl) ?_
  refine lv_aload_n C.x C.b dX8_chosen_2 rfl (lv_at hl 1 rfl) ?_
  refine pg_X5_3 (v := y1) C hP (t20 (a := k0) (t := 2) ht0) ey1 cw_700 dX8_chosen_3 ?_
  refine lv_iload_n C.x C.b dX8_chosen_6 rfl (lv_at hl 2 rfl) ?_
  refine lv_iconst (v := 1) C.x C.b dX8_chosen_7 (by decide +kernel) ?_
  refine lv_iadd C.x C.b dX8_chosen_8 ?_
  refine lv_topi (fun x4 ex4 => ?_)
  have tx4 : x4.toInt = k1.toInt + 1 := (vX8_chosen_1 k1 d x4 hpre_2 hpre_3 hpre_4 ex4)
  refine c_callVq (n := 2) (As := [va_rf y1, .int x4]) (rest := [.ref (ad 3)]) C hP hS hl.1 (IH κ s.heap.size (SLT s.heap) C.f (fun q h => C.a q (Nat.le_trans hS.1 h)) y1 x4 ty1 hPV hSV (vX8_chosen_2 κ k1 d x4 hpre_0 hpre_1 hpre_2 hpre_3 hpre_4 ex4 tx4)) ⟨cw_711, cw_696, by decide +kernel⟩ ⟨cw_712, cw_713, cw_705⟩ rfl (hP.recvS (k := 3) (ci := 10) C.K rfl rfl) rfl rfl (lv_room (Nat.le_of_ble_eq_true rfl)) ⟨(vX8_chosen_3 d ), (vX8_chosen_4 d )⟩ ⟨(vX8_chosen_5 κ k0 y1 y2 y3 kdy1), (vX8_chosen_6 κ k0 y1 y2 y3 kdy1)⟩ dX8_chosen_9 (fun r5 u H locs hr5 hP hS => ?_)
  obtain ⟨n6, n7, n8, n9, F10, Z11, Z12, P13⟩ := u
  have hP : CH D cy ad A (tP (tQ (tQ (tA (tI (tI (tI (tI κ 8 n6) 9 n7) 10 n8) 11 n9) 16 F10) 15 Z11) 17 Z12) P13) H := hP
  have hr5 : (EX κ.2.2.2.2 P13) ∧ (PV sa P13) ∧ (SV ad P13 (κ.2.1 0) (κ.2.1 1) (κ.2.2.2.1 6) (κ.2.2.2.1 7) (κ.2.2.2.1 8) (κ.2.2.2.1 13) Z11 Z12 (κ.1 1).toInt) ∧ (NT P13 1 r5) ∧ (0 ≤ n6.toInt ∧ n6.toInt ≤ 12) := hr5
  obtain ⟨hr5_0, hr5_1, hr5_2, hr5_3, hr5_4⟩ := hr5
  have kc14 : cto P13 y1 = cto κ.2.2.2.2 y1 := hr5_0.ct ty1 (by decide)
  have kc15 : cto P13 y2 = cto κ.2.2.2.2 y2 := hr5_0.ct ty2 (by decide)
  have kc16 : cto P13 y3 = cto κ.2.2.2.2 y3 := hr5_0.ct ty3 (by decide)
  have kc17 : cto P13 (some k0) = cto κ.2.2.2.2 (some k0) := hr5_0.ct (nt_s ht0) (by decide)
  obtain ⟨hr5_4_0, hr5_4_1⟩ := hr5_4
  refine c_callVq (n := 1) (As := [va_rf r5]) (rest := []) C hP hS hl.1 (NX8_bool l D cy ad A sz0 sa (tP (tQ (tQ (tA (tI (tI (tI (tI κ 8 n6) 9 n7) 10 n8) 11 n9) 16 F10) 15 Z11) 17 Z12) P13) H.size (SLT H) C.f (fun q h => C.a q (Nat.le_trans hS.1 h)) r5 hr5_3 hr5_1 hr5_2) ⟨cw_823, cw_826, by decide +kernel⟩ ⟨cw_824, cw_825, cw_705⟩ rfl (hP.recvS (k := 3) (ci := 10) C.K rfl rfl) rfl rfl (lv_room (Nat.le_of_ble_eq_true rfl)) ⟨(vX8_chosen_7 d ), (vX8_chosen_8 d )⟩ ⟨(vX8_chosen_9 κ k0 y1 y2 y3 P13 kdy1 kc14 kc15 kc16 kc17), (vX8_chosen_10 κ k0 y1 y2 y3 P13 kdy1 kc14 kc15 kc16 kc17)⟩ dX8_chosen_12 (fun r18 u H locs hr18 hP hS => ?_)
  obtain ⟨n19, rfl⟩ : ∃ z, z = u := ⟨_, rfl⟩
  have hP : CH D cy ad A (tI (tP (tQ (tQ (tA (tI (tI (tI (tI κ 8 n6) 9 n7) 10 n8) 11 n9) 16 F10) 15 Z11) 17 Z12) P13) 9 n19) H := hP
  have hr18 : (NT P13 1 r18) := hr18
  refine lq_astore_n (lv' := [(3, va_rf r18), (0, .ref (ad 3)), (1, .ref k0), (2, .int k1)]) C.x C.b dX8_chosen_15 rfl hl (by decide) (by cases r18 <;> rfl) (fun ls hl => ?_)
  refine lq_aload_n C.x C.b dX8_chosen_16 rfl (lv_at hl 0 rfl) ?_
  cases r18 with
  | none =>
    refine lv_ifnonnullN C.x C.b dX8_chosen_17 ?_
    refine lv_null C.x C.b dX8_chosen_20 ?_
    have hP : CH D cy ad A (tP (tQ (tQ (tA (tI (tI (tI (tI κ 8 n6) 9 n19) 10 n8) 11 n9) 16 F10) 15 Z11) 17 Z12) P13) H := CH.cong hP rfl rfl rfl rfl rfl rfl rfl rfl rfl rfl rfl rfl rfl rfl rfl rfl rfl rfl rfl rfl rfl rfl rfl rfl rfl rfl rfl
    exact c_retq (v := none) (Or.inl ⟨_, rfl⟩) C hsz hsl ⟨n6, n19, n8, n9, F10, Z11, Z12, P13⟩ ⟨hr5_0, hr5_1, hr5_2, nt_n, (vX8_chosen_11 n6 hr5_4_0 hr5_4_1)⟩ hP hS ⟨(vX8_chosen_9 κ k0 y1 y2 y3 P13 kdy1 kc14 kc15 kc16 kc17), (vX8_chosen_10 κ k0 y1 y2 y3 P13 kdy1 kc14 kc15 kc16 kc17)⟩ ⟨(vX8_chosen_12 κ k0 y1 y2 y3 P13 kdy1 kc14 kc15 kc16 kc17), (vX8_chosen_13 κ k0 y1 y2 y3 P13 kdy1 kc14 kc15 kc16 kc17)⟩ dX8_chosen_21
  | some b20 =>
    have hb20 : oT P13 b20 = 1 := hr18 b20 rfl
    refine lv_ifnonnull (tgt := 22) C.x C.b dX8_chosen_17 (by decide) ?_
    refine lv_aload_n C.x C.b dX8_chosen_22 rfl (lv_at hl 1 rfl) ?_
    refine lv_aload_n C.x C.b dX8_chosen_23 rfl (lv_at hl 0 rfl) ?_
    refine c_callVi (n := 0) (As := []) (rest := [.ref (ad 3)]) C hP hS hl.1 (NX10_isTrue l D cy ad A sz0 sa (tI (tP (tQ (tQ (tA (tI (tI (tI (tI κ 8 n6) 9 n7) 10 n8) 11 n9) 16 F10) 15 Z11) 17 Z12) P13) 9 n19) H.size (SLT H) C.f (fun q h => C.a q (Nat.le_trans hS.1 h)) b20 hb20 hr5_1) ⟨cw_748, cw_751, by decide +kernel⟩ ⟨cw_749, cw_750, cw_40⟩ rfl (hP.recvP (t := 1) (ci := 12) C.K (t20 (a := b20) (t := 1) hb20) (by decide) rfl rfl) rfl rfl (lv_room (Nat.le_of_ble_eq_true rfl)) ⟨(vX8_chosen_14 d ), (vX8_chosen_15 d )⟩ ⟨(vX8_chosen_16 κ k0 y1 y2 y3 P13 kdy1 kc14 kc15 kc16 kc17), (vX8_chosen_17 κ k0 y1 y2 y3 P13 kdy1 kc14 kc15 kc16 kc17)⟩ dX8_chosen_24 (fun r21 u H locs hr21 hP hS => ?_)
    have hr21 : (0 ≤ r21.toInt ∧ r21.toInt ≤ 1) := hr21
    obtain ⟨hr21_0, hr21_1⟩ := hr21
    refine lv_if_eq (tgt := 37) C.x C.b dX8_chosen_27 (by decide) (fun c22 => ?_) (fun c22 => ?_)
    · have c22 : r21.toInt = 0 := by have h := z_eq c22; rw [show (0 : Int32).toInt = 0 from by decide +kernel] at h; exact h
      refine lv_aload_n C.x C.b dX8_chosen_37 rfl (lv_at hl 2 rfl) ?_
      refine pg_X5_5 (v := y3) C hP (t20 (a := k0) (t := 2) (hr5_0.T ht0 (by decide))) ((hr5_0.R (k := 5) ht0 (by decide) (by decide)).trans ey3) cw_770 dX8_chosen_38 ?_
      refine lv_iload_n C.x C.b dX8_chosen_41 rfl (lv_at hl 3 rfl) ?_
      refine lv_iconst (v := 1) C.x C.b dX8_chosen_42 (by decide +kernel) ?_
      refine lv_iadd C.x C.b dX8_chosen_43 ?_
      refine lv_topi (fun x23 ex23 => ?_)
      have tx23 : x23.toInt = k1.toInt + 1 := (vX8_chosen_18 k1 d x4 x23 hpre_2 hpre_3 hpre_4 ex4 tx4 ex23)
      refine c_callVq (n := 2) (As := [va_rf y3, .int x23]) (rest := []) C hP hS hl.1 (IH (tI (tP (tQ (tQ (tA (tI (tI (tI (tI κ 8 n6) 9 n7) 10 n8) 11 n9) 16 F10) 15 Z11) 17 Z12) P13) 9 n19) H.size (SLT H) C.f (fun q h => C.a q (Nat.le_trans hS.1 h)) y3 x23 (hr5_0.nt ty3 (by decide)) hr5_1 hr5_2 (vX8_chosen_19 k1 d x4 n6 x23 hpre_2 hpre_3 hpre_4 ex4 tx4 hr5_4_0 hr5_4_1 ex23 tx23)) ⟨cw_711, cw_696, by decide +kernel⟩ ⟨cw_712, cw_713, cw_705⟩ rfl (hP.recvS (k := 3) (ci := 10) C.K rfl rfl) rfl rfl (lv_room (Nat.le_of_ble_eq_true rfl)) ⟨(vX8_chosen_3 d ), (vX8_chosen_4 d )⟩ ⟨(vX8_chosen_20 κ k0 y1 y2 y3 P13 kdy1 kc14 kc15 kc16 kc17), (vX8_chosen_21 κ k0 y1 y2 y3 P13 kdy1 kc14 kc15 kc16 kc17)⟩ dX8_chosen_44 (fun r24 u H locs hr24 hP hS => ?_)
      obtain ⟨n25, n26, n27, n28, F29, Z30, Z31, P32⟩ := u
      have hP : CH D cy ad A (tP (tQ (tQ (tA (tI (tI (tI (tI (tI (tP (tQ (tQ (tA (tI (tI (tI (tI κ 8 n6) 9 n7) 10 n8) 11 n9) 16 F10) 15 Z11) 17 Z12) P13) 9 n19) 8 n25) 9 n26) 10 n27) 11 n28) 16 F29) 15 Z30) 17 Z31) P32) H := hP
      have hr24 : (EX P13 P32) ∧ (PV sa P32) ∧ (SV ad P32 (κ.2.1 0) (κ.2.1 1) (κ.2.2.2.1 6) (κ.2.2.2.1 7) (κ.2.2.2.1 8) (κ.2.2.2.1 13) Z30 Z31 (κ.1 1).toInt) ∧ (NT P32 1 r24) ∧ (0 ≤ n25.toInt ∧ n25.toInt ≤ 12) := hr24
      obtain ⟨hr24_0, hr24_1, hr24_2, hr24_3, hr24_4⟩ := hr24
      have kc33 : cto P32 y1 = cto P13 y1 := hr24_0.ct (hr5_0.nt ty1 (by decide)) (by decide)
      have kc34 : cto P32 y2 = cto P13 y2 := hr24_0.ct (hr5_0.nt ty2 (by decide)) (by decide)
      have kc35 : cto P32 y3 = cto P13 y3 := hr24_0.ct (hr5_0.nt ty3 (by decide)) (by decide)
      have kc36 : cto P32 (some k0) = cto P13 (some k0) := hr24_0.ct (nt_s (hr5_0.T ht0 (by decide))) (by decide)
      obtain ⟨hr24_4_0, hr24_4_1⟩ := hr24_4
      have hP : CH D cy ad A (tP (tQ (tQ (tA (tI (tI (tI (tI κ 8 n25) 9 n26) 10 n27) 11 n28) 16 F29) 15 Z30) 17 Z31) P32) H := CH.cong hP rfl rfl rfl rfl rfl rfl rfl rfl rfl rfl rfl rfl rfl rfl rfl rfl rfl rfl rfl rfl rfl rfl rfl rfl rfl rfl rfl
      exact c_retq (v := r24) (Or.inl ⟨_, rfl⟩) C hsz hsl ⟨n25, n26, n27, n28, F29, Z30, Z31, P32⟩ ⟨(hr5_0.trans hr24_0), hr24_1, hr24_2, hr24_3, (vX8_chosen_22 n25 hr24_4_0 hr24_4_1)⟩ hP hS ⟨(vX8_chosen_23 κ k0 y1 y2 y3 P13 P32 kdy1 kc14 kc15 kc16 kc17 kc33 kc34 kc35 kc36), (vX8_chosen_24 κ k0 y1 y2 y3 P13 P32 kdy1 kc14 kc15 kc16 kc17 kc33 kc34 kc35 kc36)⟩ ⟨(vX8_chosen_25 κ k0 y1 y2 y3 P13 P32 kdy1 kc14 kc15 kc16 kc17 kc33 kc34 kc35 kc36), (vX8_chosen_26 κ k0 y1 y2 y3 P13 P32 kdy1 kc14 kc15 kc16 kc17 kc33 kc34 kc35 kc36)⟩ dX8_chosen_47
    · have c22 : ¬ r21.toInt = 0 := by have h := z_ne c22; rw [show (0 : Int32).toInt = 0 from by decide +kernel] at h; exact h
      refine lv_aload_n C.x C.b dX8_chosen_30 rfl (lv_at hl 2 rfl) ?_
      refine pg_X5_4 (v := y2) C hP (t20 (a := k0) (t := 2) (hr5_0.T ht0 (by decide))) ((hr5_0.R (k := 4) ht0 (by decide) (by decide)).trans ey2) cw_769 dX8_chosen_31 ?_
      refine lv_goto (tgt := 41) C.x C.b dX8_chosen_34 (by decide) ?_
      refine lv_iload_n C.x C.b dX8_chosen_41 rfl (lv_at hl 3 rfl) ?_
      refine lv_iconst (v := 1) C.x C.b dX8_chosen_42 (by decide +kernel) ?_
      refine lv_iadd C.x C.b dX8_chosen_43 ?_
      refine lv_topi (fun x37 ex37 => ?_)
      have tx37 : x37.toInt = k1.toInt + 1 := (vX8_chosen_27 k1 d x4 x37 hpre_2 hpre_3 hpre_4 ex4 tx4 ex37)
      refine c_callVq (n := 2) (As := [va_rf y2, .int x37]) (rest := []) C hP hS hl.1 (IH (tI (tP (tQ (tQ (tA (tI (tI (tI (tI κ 8 n6) 9 n7) 10 n8) 11 n9) 16 F10) 15 Z11) 17 Z12) P13) 9 n19) H.size (SLT H) C.f (fun q h => C.a q (Nat.le_trans hS.1 h)) y2 x37 (hr5_0.nt ty2 (by decide)) hr5_1 hr5_2 (vX8_chosen_28 k1 d x4 n6 x37 hpre_2 hpre_3 hpre_4 ex4 tx4 hr5_4_0 hr5_4_1 ex37 tx37)) ⟨cw_711, cw_696, by decide +kernel⟩ ⟨cw_712, cw_713, cw_705⟩ rfl (hP.recvS (k := 3) (ci := 10) C.K rfl rfl) rfl rfl (lv_room (Nat.le_of_ble_eq_true rfl)) ⟨(vX8_chosen_3 d ), (vX8_chosen_4 d )⟩ ⟨(vX8_chosen_29 κ k0 y1 y2 y3 P13 kdy1 kc14 kc15 kc16 kc17), (vX8_chosen_30 κ k0 y1 y2 y3 P13 kdy1 kc14 kc15 kc16 kc17)⟩ dX8_chosen_44 (fun r38 u H locs hr38 hP hS => ?_)
      obtain ⟨n39, n40, n41, n42, F43, Z44, Z45, P46⟩ := u
      have hP : CH D cy ad A (tP (tQ (tQ (tA (tI (tI (tI (tI (tI (tP (tQ (tQ (tA (tI (tI (tI (tI κ 8 n6) 9 n7) 10 n8) 11 n9) 16 F10) 15 Z11) 17 Z12) P13) 9 n19) 8 n39) 9 n40) 10 n41) 11 n42) 16 F43) 15 Z44) 17 Z45) P46) H := hP
      have hr38 : (EX P13 P46) ∧ (PV sa P46) ∧ (SV ad P46 (κ.2.1 0) (κ.2.1 1) (κ.2.2.2.1 6) (κ.2.2.2.1 7) (κ.2.2.2.1 8) (κ.2.2.2.1 13) Z44 Z45 (κ.1 1).toInt) ∧ (NT P46 1 r38) ∧ (0 ≤ n39.toInt ∧ n39.toInt ≤ 12) := hr38
      obtain ⟨hr38_0, hr38_1, hr38_2, hr38_3, hr38_4⟩ := hr38
      have kc47 : cto P46 y1 = cto P13 y1 := hr38_0.ct (hr5_0.nt ty1 (by decide)) (by decide)
      have kc48 : cto P46 y2 = cto P13 y2 := hr38_0.ct (hr5_0.nt ty2 (by decide)) (by decide)
      have kc49 : cto P46 y3 = cto P13 y3 := hr38_0.ct (hr5_0.nt ty3 (by decide)) (by decide)
      have kc50 : cto P46 (some k0) = cto P13 (some k0) := hr38_0.ct (nt_s (hr5_0.T ht0 (by decide))) (by decide)
      obtain ⟨hr38_4_0, hr38_4_1⟩ := hr38_4
      have hP : CH D cy ad A (tP (tQ (tQ (tA (tI (tI (tI (tI κ 8 n39) 9 n40) 10 n41) 11 n42) 16 F43) 15 Z44) 17 Z45) P46) H := CH.cong hP rfl rfl rfl rfl rfl rfl rfl rfl rfl rfl rfl rfl rfl rfl rfl rfl rfl rfl rfl rfl rfl rfl rfl rfl rfl rfl rfl
      exact c_retq (v := r38) (Or.inl ⟨_, rfl⟩) C hsz hsl ⟨n39, n40, n41, n42, F43, Z44, Z45, P46⟩ ⟨(hr5_0.trans hr38_0), hr38_1, hr38_2, hr38_3, (vX8_chosen_31 n39 hr38_4_0 hr38_4_1)⟩ hP hS ⟨(vX8_chosen_32 κ k0 y1 y2 y3 P13 P46 kdy1 kc14 kc15 kc16 kc17 kc47 kc48 kc49 kc50), (vX8_chosen_33 κ k0 y1 y2 y3 P13 P46 kdy1 kc14 kc15 kc16 kc17 kc47 kc48 kc49 kc50)⟩ ⟨(vX8_chosen_34 κ k0 y1 y2 y3 P13 P46 kdy1 kc14 kc15 kc16 kc17 kc47 kc48 kc49 kc50), (vX8_chosen_35 κ k0 y1 y2 y3 P13 P46 kdy1 kc14 kc15 kc16 kc17 kc47 kc48 kc49 kc50)⟩ dX8_chosen_47

-- nw@7 @7
theorem vX8_orElse_1 (k1 : Int32) (d : Nat) (x4 : Int32) (hpre_2 : 0 ≤ k1.toInt) (hpre_3 : k1.toInt ≤ 40) (hpre_4 : 40 ≤ k1.toInt + ((d : Nat) : Int)) (ex4 : x4 = k1 + (1 : Int32)) : x4.toInt = k1.toInt + 1 := by
  have q1 : (1 : Int32).toInt = 1 := by decide +kernel
  have w1 : (1 : Int32).toInt = 1 := by decide +kernel
  rw [ex4, z_add (by omega) (by omega)]; first | done | omega
-- pre:X8_eval@8 @8
theorem vX8_orElse_2 (κ : KS) (k1 : Int32) (d : Nat) (x4 : Int32) (hpre_0 : 0 ≤ (κ.1 8).toInt) (hpre_1 : (κ.1 8).toInt ≤ 12) (hpre_2 : 0 ≤ k1.toInt) (hpre_3 : k1.toInt ≤ 40) (hpre_4 : 40 ≤ k1.toInt + ((d : Nat) : Int)) (ex4 : x4 = k1 + (1 : Int32)) (tx4 : x4.toInt = k1.toInt + 1) : 0 ≤ (κ.1 8).toInt ∧ (κ.1 8).toInt ≤ 12 ∧ 0 ≤ x4.toInt ∧ x4.toInt ≤ 41 ∧ 41 ≤ x4.toInt + ((d : Nat) : Int) := by
  have q1 : (1 : Int32).toInt = 1 := by decide +kernel
  refine ⟨?_, ?_, ?_, ?_, ?_⟩ <;> first | assumption | omega | (subst_vars; omega) | trivial
-- frames @8
theorem vX8_orElse_3 (d : Nat)  : 4 * d + 30 + 1 ≤ 4 * d + 33 := by
  first | assumption | omega | (subst_vars; omega) | trivial
-- locals @8
theorem vX8_orElse_4 (d : Nat)  : 8 + (3 + 11) + (200 * d + 700) ≤ 200 * d + 860 := by
  first | assumption | omega | (subst_vars; omega) | trivial
-- room @8
theorem vX8_orElse_5 (κ : KS) (k0 : Nat) (y1 : Option Nat) (y2 : Option Nat) (y3 : Option Nat) (kdy1 : 1 + cto κ.2.2.2.2 y1 + cto κ.2.2.2.2 y2 + cto κ.2.2.2.2 y3 ≤ cto κ.2.2.2.2 (some k0)) : 0 + (13 * cto κ.2.2.2.2 y1) ≤ 13 * cto κ.2.2.2.2 (some k0) := by
  first | assumption | omega | (subst_vars; omega) | trivial
-- room @8
theorem vX8_orElse_6 (κ : KS) (k0 : Nat) (y1 : Option Nat) (y2 : Option Nat) (y3 : Option Nat) (kdy1 : 1 + cto κ.2.2.2.2 y1 + cto κ.2.2.2.2 y2 + cto κ.2.2.2.2 y3 ≤ cto κ.2.2.2.2 (some k0)) : 0 + (120 * cto κ.2.2.2.2 y1) ≤ 120 * cto κ.2.2.2.2 (some k0) := by
  first | assumption | omega | (subst_vars; omega) | trivial
-- post @17
theorem vX8_orElse_7 (n6 : Int32) (hr5_4_0 : 0 ≤ n6.toInt) (hr5_4_1 : n6.toInt ≤ 12) : 0 ≤ n6.toInt ∧ n6.toInt ≤ 12 := by
  refine ⟨?_, ?_⟩ <;> first | assumption | omega | (subst_vars; omega) | trivial
-- grow @17
theorem vX8_orElse_8 (κ : KS) (k0 : Nat) (y1 : Option Nat) (y2 : Option Nat) (y3 : Option Nat) (P13 : PL) (kdy1 : 1 + cto κ.2.2.2.2 y1 + cto κ.2.2.2.2 y2 + cto κ.2.2.2.2 y3 ≤ cto κ.2.2.2.2 (some k0)) (kc14 : cto P13 y1 = cto κ.2.2.2.2 y1) (kc15 : cto P13 y2 = cto κ.2.2.2.2 y2) (kc16 : cto P13 y3 = cto κ.2.2.2.2 y3) (kc17 : cto P13 (some k0) = cto κ.2.2.2.2 (some k0)) : 0 + (13 * cto κ.2.2.2.2 y1) ≤ 13 * cto κ.2.2.2.2 (some k0) := by
  first | assumption | omega | (subst_vars; omega) | trivial
-- grow @17
theorem vX8_orElse_9 (κ : KS) (k0 : Nat) (y1 : Option Nat) (y2 : Option Nat) (y3 : Option Nat) (P13 : PL) (kdy1 : 1 + cto κ.2.2.2.2 y1 + cto κ.2.2.2.2 y2 + cto κ.2.2.2.2 y3 ≤ cto κ.2.2.2.2 (some k0)) (kc14 : cto P13 y1 = cto κ.2.2.2.2 y1) (kc15 : cto P13 y2 = cto κ.2.2.2.2 y2) (kc16 : cto P13 y3 = cto κ.2.2.2.2 y3) (kc17 : cto P13 (some k0) = cto κ.2.2.2.2 (some k0)) : 0 + (120 * cto κ.2.2.2.2 y1) ≤ 120 * cto κ.2.2.2.2 (some k0) := by
  first | assumption | omega | (subst_vars; omega) | trivial
-- growm @17
theorem vX8_orElse_10 (κ : KS) (k0 : Nat) (y1 : Option Nat) (y2 : Option Nat) (y3 : Option Nat) (P13 : PL) (kdy1 : 1 + cto κ.2.2.2.2 y1 + cto κ.2.2.2.2 y2 + cto κ.2.2.2.2 y3 ≤ cto κ.2.2.2.2 (some k0)) (kc14 : cto P13 y1 = cto κ.2.2.2.2 y1) (kc15 : cto P13 y2 = cto κ.2.2.2.2 y2) (kc16 : cto P13 y3 = cto κ.2.2.2.2 y3) (kc17 : cto P13 (some k0) = cto κ.2.2.2.2 (some k0)) : 13 * cto κ.2.2.2.2 (some k0) ≤ 13 * cto κ.2.2.2.2 (some k0) := by
  first | assumption | omega | (subst_vars; omega) | trivial
-- growm @17
theorem vX8_orElse_11 (κ : KS) (k0 : Nat) (y1 : Option Nat) (y2 : Option Nat) (y3 : Option Nat) (P13 : PL) (kdy1 : 1 + cto κ.2.2.2.2 y1 + cto κ.2.2.2.2 y2 + cto κ.2.2.2.2 y3 ≤ cto κ.2.2.2.2 (some k0)) (kc14 : cto P13 y1 = cto κ.2.2.2.2 y1) (kc15 : cto P13 y2 = cto κ.2.2.2.2 y2) (kc16 : cto P13 y3 = cto κ.2.2.2.2 y3) (kc17 : cto P13 (some k0) = cto κ.2.2.2.2 (some k0)) : 120 * cto κ.2.2.2.2 (some k0) ≤ 120 * cto κ.2.2.2.2 (some k0) := by
  first | assumption | omega | (subst_vars; omega) | trivial
-- nw@62 @62
theorem vX8_orElse_12 (k1 : Int32) (d : Nat) (x4 : Int32) (x22 : Int32) (hpre_2 : 0 ≤ k1.toInt) (hpre_3 : k1.toInt ≤ 40) (hpre_4 : 40 ≤ k1.toInt + ((d : Nat) : Int)) (ex4 : x4 = k1 + (1 : Int32)) (tx4 : x4.toInt = k1.toInt + 1) (ex22 : x22 = k1 + (1 : Int32)) : x22.toInt = k1.toInt + 1 := by
  have q1 : (1 : Int32).toInt = 1 := by decide +kernel
  have w1 : (1 : Int32).toInt = 1 := by decide +kernel
  rw [ex22, z_add (by omega) (by omega)]; first | done | omega
-- pre:X8_eval@63 @63
theorem vX8_orElse_13 (k1 : Int32) (d : Nat) (x4 : Int32) (n6 : Int32) (x22 : Int32) (hpre_2 : 0 ≤ k1.toInt) (hpre_3 : k1.toInt ≤ 40) (hpre_4 : 40 ≤ k1.toInt + ((d : Nat) : Int)) (ex4 : x4 = k1 + (1 : Int32)) (tx4 : x4.toInt = k1.toInt + 1) (hr5_4_0 : 0 ≤ n6.toInt) (hr5_4_1 : n6.toInt ≤ 12) (ex22 : x22 = k1 + (1 : Int32)) (tx22 : x22.toInt = k1.toInt + 1) : 0 ≤ n6.toInt ∧ n6.toInt ≤ 12 ∧ 0 ≤ x22.toInt ∧ x22.toInt ≤ 41 ∧ 41 ≤ x22.toInt + ((d : Nat) : Int) := by
  have q1 : (1 : Int32).toInt = 1 := by decide +kernel
  refine ⟨?_, ?_, ?_, ?_, ?_⟩ <;> first | assumption | omega | (subst_vars; omega) | trivial
-- room @63
theorem vX8_orElse_14 (κ : KS) (k0 : Nat) (y1 : Option Nat) (y2 : Option Nat) (y3 : Option Nat) (P13 : PL) (b18 : Nat) (x19 : Int32) (kdy1 : 1 + cto κ.2.2.2.2 y1 + cto κ.2.2.2.2 y2 + cto κ.2.2.2.2 y3 ≤ cto κ.2.2.2.2 (some k0)) (kc14 : cto P13 y1 = cto κ.2.2.2.2 y1) (kc15 : cto P13 y2 = cto κ.2.2.2.2 y2) (kc16 : cto P13 y3 = cto κ.2.2.2.2 y3) (kc17 : cto P13 (some k0) = cto κ.2.2.2.2 (some k0)) (ex19 : oI P13 0 b18 = x19) (c20 : x19.toInt = 0) : 0 + (13 * cto κ.2.2.2.2 y1) + (13 * cto P13 y2) ≤ 13 * cto κ.2.2.2.2 (some k0) := by
  first | assumption | omega | (subst_vars; omega) | trivial
-- room @63
theorem vX8_orElse_15 (κ : KS) (k0 : Nat) (y1 : Option Nat) (y2 : Option Nat) (y3 : Option Nat) (P13 : PL) (b18 : Nat) (x19 : Int32) (kdy1 : 1 + cto κ.2.2.2.2 y1 + cto κ.2.2.2.2 y2 + cto κ.2.2.2.2 y3 ≤ cto κ.2.2.2.2 (some k0)) (kc14 : cto P13 y1 = cto κ.2.2.2.2 y1) (kc15 : cto P13 y2 = cto κ.2.2.2.2 y2) (kc16 : cto P13 y3 = cto κ.2.2.2.2 y3) (kc17 : cto P13 (some k0) = cto κ.2.2.2.2 (some k0)) (ex19 : oI P13 0 b18 = x19) (c20 : x19.toInt = 0) : 0 + (120 * cto κ.2.2.2.2 y1) + (120 * cto P13 y2) ≤ 120 * cto κ.2.2.2.2 (some k0) := by
  first | assumption | omega | (subst_vars; omega) | trivial
-- post @70
theorem vX8_orElse_16 (n24 : Int32) (hr23_4_0 : 0 ≤ n24.toInt) (hr23_4_1 : n24.toInt ≤ 12) : 0 ≤ n24.toInt ∧ n24.toInt ≤ 12 := by
  refine ⟨?_, ?_⟩ <;> first | assumption | omega | (subst_vars; omega) | trivial
-- grow @70
theorem vX8_orElse_17 (κ : KS) (k0 : Nat) (y1 : Option Nat) (y2 : Option Nat) (y3 : Option Nat) (P13 : PL) (b18 : Nat) (x19 : Int32) (P31 : PL) (kdy1 : 1 + cto κ.2.2.2.2 y1 + cto κ.2.2.2.2 y2 + cto κ.2.2.2.2 y3 ≤ cto κ.2.2.2.2 (some k0)) (kc14 : cto P13 y1 = cto κ.2.2.2.2 y1) (kc15 : cto P13 y2 = cto κ.2.2.2.2 y2) (kc16 : cto P13 y3 = cto κ.2.2.2.2 y3) (kc17 : cto P13 (some k0) = cto κ.2.2.2.2 (some k0)) (ex19 : oI P13 0 b18 = x19) (c20 : x19.toInt = 0) (kc32 : cto P31 y1 = cto P13 y1) (kc33 : cto P31 y2 = cto P13 y2) (kc34 : cto P31 y3 = cto P13 y3) (kc35 : cto P31 (some k0) = cto P13 (some k0)) : 0 + (13 * cto κ.2.2.2.2 y1) + (13 * cto P13 y2) ≤ 13 * cto κ.2.2.2.2 (some k0) := by
  first | assumption | omega | (subst_vars; omega) | trivial
-- grow @70
theorem vX8_orElse_18 (κ : KS) (k0 : Nat) (y1 : Option Nat) (y2 : Option Nat) (y3 : Option Nat) (P13 : PL) (b18 : Nat) (x19 : Int32) (P31 : PL) (kdy1 : 1 + cto κ.2.2.2.2 y1 + cto κ.2.2.2.2 y2 + cto κ.2.2.2.2 y3 ≤ cto κ.2.2.2.2 (some k0)) (kc14 : cto P13 y1 = cto κ.2.2.2.2 y1) (kc15 : cto P13 y2 = cto κ.2.2.2.2 y2) (kc16 : cto P13 y3 = cto κ.2.2.2.2 y3) (kc17 : cto P13 (some k0) = cto κ.2.2.2.2 (some k0)) (ex19 : oI P13 0 b18 = x19) (c20 : x19.toInt = 0) (kc32 : cto P31 y1 = cto P13 y1) (kc33 : cto P31 y2 = cto P13 y2) (kc34 : cto P31 y3 = cto P13 y3) (kc35 : cto P31 (some k0) = cto P13 (some k0)) : 0 + (120 * cto κ.2.2.2.2 y1) + (120 * cto P13 y2) ≤ 120 * cto κ.2.2.2.2 (some k0) := by
  first | assumption | omega | (subst_vars; omega) | trivial
-- growm @70
theorem vX8_orElse_19 (κ : KS) (k0 : Nat) (y1 : Option Nat) (y2 : Option Nat) (y3 : Option Nat) (P13 : PL) (b18 : Nat) (x19 : Int32) (P31 : PL) (kdy1 : 1 + cto κ.2.2.2.2 y1 + cto κ.2.2.2.2 y2 + cto κ.2.2.2.2 y3 ≤ cto κ.2.2.2.2 (some k0)) (kc14 : cto P13 y1 = cto κ.2.2.2.2 y1) (kc15 : cto P13 y2 = cto κ.2.2.2.2 y2) (kc16 : cto P13 y3 = cto κ.2.2.2.2 y3) (kc17 : cto P13 (some k0) = cto κ.2.2.2.2 (some k0)) (ex19 : oI P13 0 b18 = x19) (c20 : x19.toInt = 0) (kc32 : cto P31 y1 = cto P13 y1) (kc33 : cto P31 y2 = cto P13 y2) (kc34 : cto P31 y3 = cto P13 y3) (kc35 : cto P31 (some k0) = cto P13 (some k0)) : 13 * cto κ.2.2.2.2 (some k0) ≤ 13 * cto κ.2.2.2.2 (some k0) := by
  first | assumption | omega | (subst_vars; omega) | trivial
-- growm @70
theorem vX8_orElse_20 (κ : KS) (k0 : Nat) (y1 : Option Nat) (y2 : Option Nat) (y3 : Option Nat) (P13 : PL) (b18 : Nat) (x19 : Int32) (P31 : PL) (kdy1 : 1 + cto κ.2.2.2.2 y1 + cto κ.2.2.2.2 y2 + cto κ.2.2.2.2 y3 ≤ cto κ.2.2.2.2 (some k0)) (kc14 : cto P13 y1 = cto κ.2.2.2.2 y1) (kc15 : cto P13 y2 = cto κ.2.2.2.2 y2) (kc16 : cto P13 y3 = cto κ.2.2.2.2 y3) (kc17 : cto P13 (some k0) = cto κ.2.2.2.2 (some k0)) (ex19 : oI P13 0 b18 = x19) (c20 : x19.toInt = 0) (kc32 : cto P31 y1 = cto P13 y1) (kc33 : cto P31 y2 = cto P13 y2) (kc34 : cto P31 y3 = cto P13 y3) (kc35 : cto P31 (some k0) = cto P13 (some k0)) : 120 * cto κ.2.2.2.2 (some k0) ≤ 120 * cto κ.2.2.2.2 (some k0) := by
  first | assumption | omega | (subst_vars; omega) | trivial
-- grow @70
theorem vX8_orElse_21 (κ : KS) (k0 : Nat) (y1 : Option Nat) (y2 : Option Nat) (y3 : Option Nat) (P13 : PL) (b18 : Nat) (x19 : Int32) (kdy1 : 1 + cto κ.2.2.2.2 y1 + cto κ.2.2.2.2 y2 + cto κ.2.2.2.2 y3 ≤ cto κ.2.2.2.2 (some k0)) (kc14 : cto P13 y1 = cto κ.2.2.2.2 y1) (kc15 : cto P13 y2 = cto κ.2.2.2.2 y2) (kc16 : cto P13 y3 = cto κ.2.2.2.2 y3) (kc17 : cto P13 (some k0) = cto κ.2.2.2.2 (some k0)) (ex19 : oI P13 0 b18 = x19) (c20 : ¬ x19.toInt = 0) (c36 : ¬ x19.toInt = 4) : 0 + (13 * cto κ.2.2.2.2 y1) ≤ 13 * cto κ.2.2.2.2 (some k0) := by
  first | assumption | omega | (subst_vars; omega) | trivial
-- grow @70
theorem vX8_orElse_22 (κ : KS) (k0 : Nat) (y1 : Option Nat) (y2 : Option Nat) (y3 : Option Nat) (P13 : PL) (b18 : Nat) (x19 : Int32) (kdy1 : 1 + cto κ.2.2.2.2 y1 + cto κ.2.2.2.2 y2 + cto κ.2.2.2.2 y3 ≤ cto κ.2.2.2.2 (some k0)) (kc14 : cto P13 y1 = cto κ.2.2.2.2 y1) (kc15 : cto P13 y2 = cto κ.2.2.2.2 y2) (kc16 : cto P13 y3 = cto κ.2.2.2.2 y3) (kc17 : cto P13 (some k0) = cto κ.2.2.2.2 (some k0)) (ex19 : oI P13 0 b18 = x19) (c20 : ¬ x19.toInt = 0) (c36 : ¬ x19.toInt = 4) : 0 + (120 * cto κ.2.2.2.2 y1) ≤ 120 * cto κ.2.2.2.2 (some k0) := by
  first | assumption | omega | (subst_vars; omega) | trivial
-- growm @70
theorem vX8_orElse_23 (κ : KS) (k0 : Nat) (y1 : Option Nat) (y2 : Option Nat) (y3 : Option Nat) (P13 : PL) (b18 : Nat) (x19 : Int32) (kdy1 : 1 + cto κ.2.2.2.2 y1 + cto κ.2.2.2.2 y2 + cto κ.2.2.2.2 y3 ≤ cto κ.2.2.2.2 (some k0)) (kc14 : cto P13 y1 = cto κ.2.2.2.2 y1) (kc15 : cto P13 y2 = cto κ.2.2.2.2 y2) (kc16 : cto P13 y3 = cto κ.2.2.2.2 y3) (kc17 : cto P13 (some k0) = cto κ.2.2.2.2 (some k0)) (ex19 : oI P13 0 b18 = x19) (c20 : ¬ x19.toInt = 0) (c36 : ¬ x19.toInt = 4) : 13 * cto κ.2.2.2.2 (some k0) ≤ 13 * cto κ.2.2.2.2 (some k0) := by
  first | assumption | omega | (subst_vars; omega) | trivial
-- growm @70
theorem vX8_orElse_24 (κ : KS) (k0 : Nat) (y1 : Option Nat) (y2 : Option Nat) (y3 : Option Nat) (P13 : PL) (b18 : Nat) (x19 : Int32) (kdy1 : 1 + cto κ.2.2.2.2 y1 + cto κ.2.2.2.2 y2 + cto κ.2.2.2.2 y3 ≤ cto κ.2.2.2.2 (some k0)) (kc14 : cto P13 y1 = cto κ.2.2.2.2 y1) (kc15 : cto P13 y2 = cto κ.2.2.2.2 y2) (kc16 : cto P13 y3 = cto κ.2.2.2.2 y3) (kc17 : cto P13 (some k0) = cto κ.2.2.2.2 (some k0)) (ex19 : oI P13 0 b18 = x19) (c20 : ¬ x19.toInt = 0) (c36 : ¬ x19.toInt = 4) : 120 * cto κ.2.2.2.2 (some k0) ≤ 120 * cto κ.2.2.2.2 (some k0) := by
  first | assumption | omega | (subst_vars; omega) | trivial
-- frames @37
theorem vX8_orElse_25 (d : Nat)  : 0 + 1 ≤ 4 * d + 33 := by
  first | assumption | omega | (subst_vars; omega) | trivial
-- locals @37
theorem vX8_orElse_26 (d : Nat)  : 8 + (1 + 11) + 0 ≤ 200 * d + 860 := by
  first | assumption | omega | (subst_vars; omega) | trivial
-- room @37
theorem vX8_orElse_27 (κ : KS) (k0 : Nat) (y1 : Option Nat) (y2 : Option Nat) (y3 : Option Nat) (P13 : PL) (b18 : Nat) (x19 : Int32) (kdy1 : 1 + cto κ.2.2.2.2 y1 + cto κ.2.2.2.2 y2 + cto κ.2.2.2.2 y3 ≤ cto κ.2.2.2.2 (some k0)) (kc14 : cto P13 y1 = cto κ.2.2.2.2 y1) (kc15 : cto P13 y2 = cto κ.2.2.2.2 y2) (kc16 : cto P13 y3 = cto κ.2.2.2.2 y3) (kc17 : cto P13 (some k0) = cto κ.2.2.2.2 (some k0)) (ex19 : oI P13 0 b18 = x19) (c20 : ¬ x19.toInt = 0) (c36 : x19.toInt = 4) : 0 + (13 * cto κ.2.2.2.2 y1) + 0 ≤ 13 * cto κ.2.2.2.2 (some k0) := by
  first | assumption | omega | (subst_vars; omega) | trivial
-- room @37
theorem vX8_orElse_28 (κ : KS) (k0 : Nat) (y1 : Option Nat) (y2 : Option Nat) (y3 : Option Nat) (P13 : PL) (b18 : Nat) (x19 : Int32) (kdy1 : 1 + cto κ.2.2.2.2 y1 + cto κ.2.2.2.2 y2 + cto κ.2.2.2.2 y3 ≤ cto κ.2.2.2.2 (some k0)) (kc14 : cto P13 y1 = cto κ.2.2.2.2 y1) (kc15 : cto P13 y2 = cto κ.2.2.2.2 y2) (kc16 : cto P13 y3 = cto κ.2.2.2.2 y3) (kc17 : cto P13 (some k0) = cto κ.2.2.2.2 (some k0)) (ex19 : oI P13 0 b18 = x19) (c20 : ¬ x19.toInt = 0) (c36 : x19.toInt = 4) : 0 + (120 * cto κ.2.2.2.2 y1) + 0 ≤ 120 * cto κ.2.2.2.2 (some k0) := by
  first | assumption | omega | (subst_vars; omega) | trivial
-- growm @70
theorem vX8_orElse_29 (κ : KS) (k0 : Nat) (y1 : Option Nat) (y2 : Option Nat) (y3 : Option Nat) (P13 : PL) (b18 : Nat) (x19 : Int32) (kdy1 : 1 + cto κ.2.2.2.2 y1 + cto κ.2.2.2.2 y2 + cto κ.2.2.2.2 y3 ≤ cto κ.2.2.2.2 (some k0)) (kc14 : cto P13 y1 = cto κ.2.2.2.2 y1) (kc15 : cto P13 y2 = cto κ.2.2.2.2 y2) (kc16 : cto P13 y3 = cto κ.2.2.2.2 y3) (kc17 : cto P13 (some k0) = cto κ.2.2.2.2 (some k0)) (ex19 : oI P13 0 b18 = x19) (c20 : ¬ x19.toInt = 0) (c36 : x19.toInt = 4) : 13 * cto κ.2.2.2.2 (some k0) ≤ 13 * cto κ.2.2.2.2 (some k0) := by
  first | assumption | omega | (subst_vars; omega) | trivial
-- growm @70
theorem vX8_orElse_30 (κ : KS) (k0 : Nat) (y1 : Option Nat) (y2 : Option Nat) (y3 : Option Nat) (P13 : PL) (b18 : Nat) (x19 : Int32) (kdy1 : 1 + cto κ.2.2.2.2 y1 + cto κ.2.2.2.2 y2 + cto κ.2.2.2.2 y3 ≤ cto κ.2.2.2.2 (some k0)) (kc14 : cto P13 y1 = cto κ.2.2.2.2 y1) (kc15 : cto P13 y2 = cto κ.2.2.2.2 y2) (kc16 : cto P13 y3 = cto κ.2.2.2.2 y3) (kc17 : cto P13 (some k0) = cto κ.2.2.2.2 (some k0)) (ex19 : oI P13 0 b18 = x19) (c20 : ¬ x19.toInt = 0) (c36 : x19.toInt = 4) : 120 * cto κ.2.2.2.2 (some k0) ≤ 120 * cto κ.2.2.2.2 (some k0) := by
  first | assumption | omega | (subst_vars; omega) | trivial
-- nw@62 @62
theorem vX8_orElse_31 (k1 : Int32) (d : Nat) (x4 : Int32) (x43 : Int32) (hpre_2 : 0 ≤ k1.toInt) (hpre_3 : k1.toInt ≤ 40) (hpre_4 : 40 ≤ k1.toInt + ((d : Nat) : Int)) (ex4 : x4 = k1 + (1 : Int32)) (tx4 : x4.toInt = k1.toInt + 1) (ex43 : x43 = k1 + (1 : Int32)) : x43.toInt = k1.toInt + 1 := by
  have q1 : (1 : Int32).toInt = 1 := by decide +kernel
  have w1 : (1 : Int32).toInt = 1 := by decide +kernel
  rw [ex43, z_add (by omega) (by omega)]; first | done | omega
-- pre:X8_eval@63 @63
theorem vX8_orElse_32 (k1 : Int32) (d : Nat) (x4 : Int32) (n6 : Int32) (x43 : Int32) (hpre_2 : 0 ≤ k1.toInt) (hpre_3 : k1.toInt ≤ 40) (hpre_4 : 40 ≤ k1.toInt + ((d : Nat) : Int)) (ex4 : x4 = k1 + (1 : Int32)) (tx4 : x4.toInt = k1.toInt + 1) (hr5_4_0 : 0 ≤ n6.toInt) (hr5_4_1 : n6.toInt ≤ 12) (ex43 : x43 = k1 + (1 : Int32)) (tx43 : x43.toInt = k1.toInt + 1) : 0 ≤ n6.toInt ∧ n6.toInt ≤ 12 ∧ 0 ≤ x43.toInt ∧ x43.toInt ≤ 41 ∧ 41 ≤ x43.toInt + ((d : Nat) : Int) := by
  have q1 : (1 : Int32).toInt = 1 := by decide +kernel
  refine ⟨?_, ?_, ?_, ?_, ?_⟩ <;> first | assumption | omega | (subst_vars; omega) | trivial
-- room @63
theorem vX8_orElse_33 (κ : KS) (k0 : Nat) (y1 : Option Nat) (y2 : Option Nat) (y3 : Option Nat) (P13 : PL) (b18 : Nat) (x19 : Int32) (kdy1 : 1 + cto κ.2.2.2.2 y1 + cto κ.2.2.2.2 y2 + cto κ.2.2.2.2 y3 ≤ cto κ.2.2.2.2 (some k0)) (kc14 : cto P13 y1 = cto κ.2.2.2.2 y1) (kc15 : cto P13 y2 = cto κ.2.2.2.2 y2) (kc16 : cto P13 y3 = cto κ.2.2.2.2 y3) (kc17 : cto P13 (some k0) = cto κ.2.2.2.2 (some k0)) (ex19 : oI P13 0 b18 = x19) (c20 : ¬ x19.toInt = 0) (c36 : x19.toInt = 4) : 0 + (13 * cto κ.2.2.2.2 y1) + 0 + (13 * cto P13 y2) ≤ 13 * cto κ.2.2.2.2 (some k0) := by
  first | assumption | omega | (subst_vars; omega) | trivial
-- room @63
theorem vX8_orElse_34 (κ : KS) (k0 : Nat) (y1 : Option Nat) (y2 : Option Nat) (y3 : Option Nat) (P13 : PL) (b18 : Nat) (x19 : Int32) (kdy1 : 1 + cto κ.2.2.2.2 y1 + cto κ.2.2.2.2 y2 + cto κ.2.2.2.2 y3 ≤ cto κ.2.2.2.2 (some k0)) (kc14 : cto P13 y1 = cto κ.2.2.2.2 y1) (kc15 : cto P13 y2 = cto κ.2.2.2.2 y2) (kc16 : cto P13 y3 = cto κ.2.2.2.2 y3) (kc17 : cto P13 (some k0) = cto κ.2.2.2.2 (some k0)) (ex19 : oI P13 0 b18 = x19) (c20 : ¬ x19.toInt = 0) (c36 : x19.toInt = 4) : 0 + (120 * cto κ.2.2.2.2 y1) + 0 + (120 * cto P13 y2) ≤ 120 * cto κ.2.2.2.2 (some k0) := by
  first | assumption | omega | (subst_vars; omega) | trivial
-- post @70
theorem vX8_orElse_35 (n45 : Int32) (hr44_4_0 : 0 ≤ n45.toInt) (hr44_4_1 : n45.toInt ≤ 12) : 0 ≤ n45.toInt ∧ n45.toInt ≤ 12 := by
  refine ⟨?_, ?_⟩ <;> first | assumption | omega | (subst_vars; omega) | trivial
-- grow @70
theorem vX8_orElse_36 (κ : KS) (k0 : Nat) (y1 : Option Nat) (y2 : Option Nat) (y3 : Option Nat) (P13 : PL) (b18 : Nat) (x19 : Int32) (P52 : PL) (kdy1 : 1 + cto κ.2.2.2.2 y1 + cto κ.2.2.2.2 y2 + cto κ.2.2.2.2 y3 ≤ cto κ.2.2.2.2 (some k0)) (kc14 : cto P13 y1 = cto κ.2.2.2.2 y1) (kc15 : cto P13 y2 = cto κ.2.2.2.2 y2) (kc16 : cto P13 y3 = cto κ.2.2.2.2 y3) (kc17 : cto P13 (some k0) = cto κ.2.2.2.2 (some k0)) (ex19 : oI P13 0 b18 = x19) (c20 : ¬ x19.toInt = 0) (c36 : x19.toInt = 4) (kc53 : cto P52 y1 = cto P13 y1) (kc54 : cto P52 y2 = cto P13 y2) (kc55 : cto P52 y3 = cto P13 y3) (kc56 : cto P52 (some k0) = cto P13 (some k0)) : 0 + (13 * cto κ.2.2.2.2 y1) + 0 + (13 * cto P13 y2) ≤ 13 * cto κ.2.2.2.2 (some k0) := by
  first | assumption | omega | (subst_vars; omega) | trivial
-- grow @70
theorem vX8_orElse_37 (κ : KS) (k0 : Nat) (y1 : Option Nat) (y2 : Option Nat) (y3 : Option Nat) (P13 : PL) (b18 : Nat) (x19 : Int32) (P52 : PL) (kdy1 : 1 + cto κ.2.2.2.2 y1 + cto κ.2.2.2.2 y2 + cto κ.2.2.2.2 y3 ≤ cto κ.2.2.2.2 (some k0)) (kc14 : cto P13 y1 = cto κ.2.2.2.2 y1) (kc15 : cto P13 y2 = cto κ.2.2.2.2 y2) (kc16 : cto P13 y3 = cto κ.2.2.2.2 y3) (kc17 : cto P13 (some k0) = cto κ.2.2.2.2 (some k0)) (ex19 : oI P13 0 b18 = x19) (c20 : ¬ x19.toInt = 0) (c36 : x19.toInt = 4) (kc53 : cto P52 y1 = cto P13 y1) (kc54 : cto P52 y2 = cto P13 y2) (kc55 : cto P52 y3 = cto P13 y3) (kc56 : cto P52 (some k0) = cto P13 (some k0)) : 0 + (120 * cto κ.2.2.2.2 y1) + 0 + (120 * cto P13 y2) ≤ 120 * cto κ.2.2.2.2 (some k0) := by
  first | assumption | omega | (subst_vars; omega) | trivial
-- growm @70
theorem vX8_orElse_38 (κ : KS) (k0 : Nat) (y1 : Option Nat) (y2 : Option Nat) (y3 : Option Nat) (P13 : PL) (b18 : Nat) (x19 : Int32) (P52 : PL) (kdy1 : 1 + cto κ.2.2.2.2 y1 + cto κ.2.2.2.2 y2 + cto κ.2.2.2.2 y3 ≤ cto κ.2.2.2.2 (some k0)) (kc14 : cto P13 y1 = cto κ.2.2.2.2 y1) (kc15 : cto P13 y2 = cto κ.2.2.2.2 y2) (kc16 : cto P13 y3 = cto κ.2.2.2.2 y3) (kc17 : cto P13 (some k0) = cto κ.2.2.2.2 (some k0)) (ex19 : oI P13 0 b18 = x19) (c20 : ¬ x19.toInt = 0) (c36 : x19.toInt = 4) (kc53 : cto P52 y1 = cto P13 y1) (kc54 : cto P52 y2 = cto P13 y2) (kc55 : cto P52 y3 = cto P13 y3) (kc56 : cto P52 (some k0) = cto P13 (some k0)) : 13 * cto κ.2.2.2.2 (some k0) ≤ 13 * cto κ.2.2.2.2 (some k0) := by
  first | assumption | omega | (subst_vars; omega) | trivial
-- growm @70
theorem vX8_orElse_39 (κ : KS) (k0 : Nat) (y1 : Option Nat) (y2 : Option Nat) (y3 : Option Nat) (P13 : PL) (b18 : Nat) (x19 : Int32) (P52 : PL) (kdy1 : 1 + cto κ.2.2.2.2 y1 + cto κ.2.2.2.2 y2 + cto κ.2.2.2.2 y3 ≤ cto κ.2.2.2.2 (some k0)) (kc14 : cto P13 y1 = cto κ.2.2.2.2 y1) (kc15 : cto P13 y2 = cto κ.2.2.2.2 y2) (kc16 : cto P13 y3 = cto κ.2.2.2.2 y3) (kc17 : cto P13 (some k0) = cto κ.2.2.2.2 (some k0)) (ex19 : oI P13 0 b18 = x19) (c20 : ¬ x19.toInt = 0) (c36 : x19.toInt = 4) (kc53 : cto P52 y1 = cto P13 y1) (kc54 : cto P52 y2 = cto P13 y2) (kc55 : cto P52 y3 = cto P13 y3) (kc56 : cto P52 (some k0) = cto P13 (some k0)) : 120 * cto κ.2.2.2.2 (some k0) ≤ 120 * cto κ.2.2.2.2 (some k0) := by
  first | assumption | omega | (subst_vars; omega) | trivial
set_option maxHeartbeats 4000000 in
set_option maxRecDepth 100000 in
theorem NX8_orElse (l : Launch) (D : va_G) (cy : Nat → ClassId) (ad : Nat → Nat) (A : Nat → Prop) (sz0 : Nat) (sa : Nat → Nat) (d : Nat) (IH : KX8_eval l D cy ad A sz0 sa d) (κ : KS) (sz sl : Nat) (hAF : ∀ q, A q → Fr sz0 q) (hAn : ∀ q : Nat, sz ≤ q → A q) (k0 : Nat) (k1 : Int32) (ht0 : oT κ.2.2.2.2 k0 = 2) (hPV : PV sa κ.2.2.2.2) (hSV : SV ad κ.2.2.2.2 (κ.2.1 0) (κ.2.1 1) (κ.2.2.2.1 6) (κ.2.2.2.1 7) (κ.2.2.2.1 8) (κ.2.2.2.1 13) (κ.2.2.2.1 15) (κ.2.2.2.1 17) (κ.1 1).toInt) (hpre : 0 ≤ (κ.1 8).toInt ∧ (κ.1 8).toInt ≤ 12 ∧ 0 ≤ k1.toInt ∧ k1.toInt ≤ 40 ∧ 40 ≤ k1.toInt + ((d : Nat) : Int)) : Met l yX8_orElse (Cond.code yX8_orElse cX8_orElse 5 (some (.object "PhraseDesk$Value")) :: GWc) ({ frames := 4 * d + 33, cells := 13 * cto κ.2.2.2.2 (some k0), slots := 120 * cto κ.2.2.2.2 (some k0), locals := 200 * d + 860 }) (PcC D cy ad A sz0 sa [.ref (ad 3), .ref k0, .int k1] κ sz sl) (va_Qq (fun (r : Option Nat) (u : Int32 × Int32 × Int32 × Int32 × (Nat → Int32) × (Nat → Option Nat) × (Nat → Option Nat) × PL) => (EX κ.2.2.2.2 u.2.2.2.2.2.2.2) ∧ (PV sa u.2.2.2.2.2.2.2) ∧ (SV ad u.2.2.2.2.2.2.2 (κ.2.1 0) (κ.2.1 1) (κ.2.2.2.1 6) (κ.2.2.2.1 7) (κ.2.2.2.1 8) (κ.2.2.2.1 13) u.2.2.2.2.2.1 u.2.2.2.2.2.2.1 (κ.1 1).toInt) ∧ (NT u.2.2.2.2.2.2.2 1 r) ∧ (0 ≤ u.1.toInt ∧ u.1.toInt ≤ 12)) (fun (u : Int32 × Int32 × Int32 × Int32 × (Nat → Int32) × (Nat → Option Nat) × (Nat → Option Nat) × PL) (t : State) => Bx D cy ad A sz sl (tP (tQ (tQ (tA (tI (tI (tI (tI κ 8 u.1) 9 u.2.1) 10 u.2.2.1) 11 u.2.2.2.1) 16 u.2.2.2.2.1) 15 u.2.2.2.2.2.1) 17 u.2.2.2.2.2.2.1) u.2.2.2.2.2.2.2) (13 * cto κ.2.2.2.2 (some k0)) (120 * cto κ.2.2.2.2 (some k0)) t) A) (13 * cto κ.2.2.2.2 (some k0)) (120 * cto κ.2.2.2.2 (some k0)) A := by
  refine CM_of (loc0 := [(0, .ref (ad 3)), (1, .ref k0), (2, .int k1)]) (own := RX8) (nm := "orElse") (by decide) rfl rfl rfl (Nat.le_of_ble_eq_true rfl) hAF hAn ?_
  intro p e s m below meth c ls hsz hsl C hP hS hl
  obtain ⟨hpre_0, hpre_1, hpre_2, hpre_3, hpre_4⟩ := hpre
  obtain ⟨y1, ey1⟩ : ∃ z, oR κ.2.2.2.2 3 k0 = z := ⟨_, rfl⟩
  have ty1 : NT κ.2.2.2.2 2 y1 := by rw [← ey1]; exact (hPV.t2 ht0).2.1
  obtain ⟨y2, ey2⟩ : ∃ z, oR κ.2.2.2.2 4 k0 = z := ⟨_, rfl⟩
  have ty2 : NT κ.2.2.2.2 2 y2 := by rw [← ey2]; exact (hPV.t2 ht0).2.2.1
  obtain ⟨y3, ey3⟩ : ∃ z, oR κ.2.2.2.2 5 k0 = z := ⟨_, rfl⟩
  have ty3 : NT κ.2.2.2.2 2 y3 := by rw [← ey3]; exact (hPV.t2 ht0).2.2.2.1
  have kdy1 : 1 + cto κ.2.2.2.2 y1 + cto κ.2.2.2.2 y2 + cto κ.2.2.2.2 y3 ≤ cto κ.2.2.2.2 (some k0) := by rw [← ey1, ← ey2, ← ey3]; exact (hPV.t2 ht0).2.2.2.2
  refine lv_aload_n C.x C.b dX8_orElse_0 rfl (lv_at hl 0 rfl) ?_
  refine lv_aload_n C.x C.b dX8_orElse_1 rfl (lv_at hl 1 rfl) ?_
  refine pg_X5_3 (v := y1) C hP (t20 (a := k0) (t := 2) ht0) ey1 cw_700 dX8_orElse_2 ?_
  refine lv_iload_n C.x C.b dX8_orElse_5 rfl (lv_at hl 2 rfl) ?_
  refine lv_iconst (v := 1) C.x C.b dX8_orElse_6 (by decide +kernel) ?_
  refine lv_iadd C.x C.b dX8_orElse_7 ?_
  refine lv_topi (fun x4 ex4 => ?_)
  have tx4 : x4.toInt = k1.toInt + 1 := (vX8_orElse_1 k1 d x4 hpre_2 hpre_3 hpre_4 ex4)
  refine c_callVq (n := 2) (As := [va_rf y1, .int x4]) (rest := []) C hP hS hl.1 (IH κ s.heap.size (SLT s.heap) C.f (fun q h => C.a q (Nat.le_trans hS.1 h)) y1 x4 ty1 hPV hSV (vX8_orElse_2 κ k1 d x4 hpre_0 hpre_1 hpre_2 hpre_3 hpre_4 ex4 tx4)) ⟨cw_711, cw_696, by decide +kernel⟩ ⟨cw_712, cw_713, cw_705⟩ rfl (hP.recvS (k := 3) (ci := 10) C.K rfl rfl) rfl rfl (lv_room (Nat.le_of_ble_eq_true rfl)) ⟨(vX8_orElse_3 d ), (vX8_orElse_4 d )⟩ ⟨(vX8_orElse_5 κ k0 y1 y2 y3 kdy1), (vX8_orElse_6 κ k0 y1 y2 y3 kdy1)⟩ dX8_orElse_8 (fun r5 u H locs hr5 hP hS => ?_)
  obtain ⟨n6, n7, n8, n9, F10, Z11, Z12, P13⟩ := u
  have hP : CH D cy ad A (tP (tQ (tQ (tA (tI (tI (tI (tI κ 8 n6) 9 n7) 10 n8) 11 n9) 16 F10) 15 Z11) 17 Z12) P13) H := hP
  have hr5 : (EX κ.2.2.2.2 P13) ∧ (PV sa P13) ∧ (SV ad P13 (κ.2.1 0) (κ.2.1 1) (κ.2.2.2.1 6) (κ.2.2.2.1 7) (κ.2.2.2.1 8) (κ.2.2.2.1 13) Z11 Z12 (κ.1 1).toInt) ∧ (NT P13 1 r5) ∧ (0 ≤ n6.toInt ∧ n6.toInt ≤ 12) := hr5
  obtain ⟨hr5_0, hr5_1, hr5_2, hr5_3, hr5_4⟩ := hr5
  have kc14 : cto P13 y1 = cto κ.2.2.2.2 y1 := hr5_0.ct ty1 (by decide)
  have kc15 : cto P13 y2 = cto κ.2.2.2.2 y2 := hr5_0.ct ty2 (by decide)
  have kc16 : cto P13 y3 = cto κ.2.2.2.2 y3 := hr5_0.ct ty3 (by decide)
  have kc17 : cto P13 (some k0) = cto κ.2.2.2.2 (some k0) := hr5_0.ct (nt_s ht0) (by decide)
  obtain ⟨hr5_4_0, hr5_4_1⟩ := hr5_4
  refine lq_astore_n (lv' := [(3, va_rf r5), (0, .ref (ad 3)), (1, .ref k0), (2, .int k1)]) C.x C.b dX8_orElse_11 rfl hl (by decide) (by cases r5 <;> rfl) (fun ls hl => ?_)
  refine lq_aload_n C.x C.b dX8_orElse_12 rfl (lv_at hl 0 rfl) ?_
  cases r5 with
  | none =>
    refine lv_ifnonnullN C.x C.b dX8_orElse_13 ?_
    refine lv_null C.x C.b dX8_orElse_16 ?_
    exact c_retq (v := none) (Or.inl ⟨_, rfl⟩) C hsz hsl ⟨n6, n7, n8, n9, F10, Z11, Z12, P13⟩ ⟨hr5_0, hr5_1, hr5_2, nt_n, (vX8_orElse_7 n6 hr5_4_0 hr5_4_1)⟩ hP hS ⟨(vX8_orElse_8 κ k0 y1 y2 y3 P13 kdy1 kc14 kc15 kc16 kc17), (vX8_orElse_9 κ k0 y1 y2 y3 P13 kdy1 kc14 kc15 kc16 kc17)⟩ ⟨(vX8_orElse_10 κ k0 y1 y2 y3 P13 kdy1 kc14 kc15 kc16 kc17), (vX8_orElse_11 κ k0 y1 y2 y3 P13 kdy1 kc14 kc15 kc16 kc17)⟩ dX8_orElse_17
  | some b18 =>
    have hb18 : oT P13 b18 = 1 := hr5_3 b18 rfl
    refine lv_ifnonnull (tgt := 18) C.x C.b dX8_orElse_13 (by decide) ?_
    refine lv_aload_n C.x C.b dX8_orElse_18 rfl (lv_at hl 0 rfl) ?_
    obtain ⟨x19, ex19⟩ : ∃ z, oI P13 0 b18 = z := ⟨_, rfl⟩
    refine pg_X10_0 (v := x19) C hP (t20 (a := b18) (t := 1) hb18) ex19 cw_718 dX8_orElse_19 ?_
    refine lv_if_eq (tgt := 43) C.x C.b dX8_orElse_22 (by decide) (fun c20 => ?_) (fun c20 => ?_)
    · have c20 : x19.toInt = 0 := by have h := z_eq c20; rw [show (0 : Int32).toInt = 0 from by decide +kernel] at h; exact h
      refine lv_iconst (v := 1) C.x C.b dX8_orElse_43 (by decide +kernel) ?_
      refine lv_goto (tgt := 48) C.x C.b dX8_orElse_44 (by decide) ?_
      refine lv_istore (lv' := [(4, .int 1), (3, .ref b18), (0, .ref (ad 3)), (1, .ref k0), (2, .int k1)]) C.x C.b dX8_orElse_48 hl (by decide) rfl (fun ls hl => ?_)
      refine lv_iload C.x C.b dX8_orElse_50 (lv_at hl 0 rfl) ?_
      refine lv_if_eq (tgt := 69) C.x C.b dX8_orElse_52 (by decide) (fun c21 => absurd c21 (by decide +kernel)) (fun _ => ?_)
      refine lv_aload_n C.x C.b dX8_orElse_55 rfl (lv_at hl 2 rfl) ?_
      refine lv_aload_n C.x C.b dX8_orElse_56 rfl (lv_at hl 3 rfl) ?_
      refine pg_X5_4 (v := y2) C hP (t20 (a := k0) (t := 2) (hr5_0.T ht0 (by decide))) ((hr5_0.R (k := 4) ht0 (by decide) (by decide)).trans ey2) cw_769 dX8_orElse_57 ?_
      refine lv_iload_n C.x C.b dX8_orElse_60 rfl (lv_at hl 4 rfl) ?_
      refine lv_iconst (v := 1) C.x C.b dX8_orElse_61 (by decide +kernel) ?_
      refine lv_iadd C.x C.b dX8_orElse_62 ?_
      refine lv_topi (fun x22 ex22 => ?_)
      have tx22 : x22.toInt = k1.toInt + 1 := (vX8_orElse_12 k1 d x4 x22 hpre_2 hpre_3 hpre_4 ex4 tx4 ex22)
      refine c_callVq (n := 2) (As := [va_rf y2, .int x22]) (rest := []) C hP hS hl.1 (IH (tP (tQ (tQ (tA (tI (tI (tI (tI κ 8 n6) 9 n7) 10 n8) 11 n9) 16 F10) 15 Z11) 17 Z12) P13) H.size (SLT H) C.f (fun q h => C.a q (Nat.le_trans hS.1 h)) y2 x22 (hr5_0.nt ty2 (by decide)) hr5_1 hr5_2 (vX8_orElse_13 k1 d x4 n6 x22 hpre_2 hpre_3 hpre_4 ex4 tx4 hr5_4_0 hr5_4_1 ex22 tx22)) ⟨cw_711, cw_696, by decide +kernel⟩ ⟨cw_712, cw_713, cw_705⟩ rfl (hP.recvS (k := 3) (ci := 10) C.K rfl rfl) rfl rfl (lv_room (Nat.le_of_ble_eq_true rfl)) ⟨(vX8_orElse_3 d ), (vX8_orElse_4 d )⟩ ⟨(vX8_orElse_14 κ k0 y1 y2 y3 P13 b18 x19 kdy1 kc14 kc15 kc16 kc17 ex19 c20), (vX8_orElse_15 κ k0 y1 y2 y3 P13 b18 x19 kdy1 kc14 kc15 kc16 kc17 ex19 c20)⟩ dX8_orElse_63 (fun r23 u H locs hr23 hP hS => ?_)
      obtain ⟨n24, n25, n26, n27, F28, Z29, Z30, P31⟩ := u
      have hP : CH D cy ad A (tP (tQ (tQ (tA (tI (tI (tI (tI (tP (tQ (tQ (tA (tI (tI (tI (tI κ 8 n6) 9 n7) 10 n8) 11 n9) 16 F10) 15 Z11) 17 Z12) P13) 8 n24) 9 n25) 10 n26) 11 n27) 16 F28) 15 Z29) 17 Z30) P31) H := hP
      have hr23 : (EX P13 P31) ∧ (PV sa P31) ∧ (SV ad P31 (κ.2.1 0) (κ.2.1 1) (κ.2.2.2.1 6) (κ.2.2.2.1 7) (κ.2.2.2.1 8) (κ.2.2.2.1 13) Z29 Z30 (κ.1 1).toInt) ∧ (NT P31 1 r23) ∧ (0 ≤ n24.toInt ∧ n24.toInt ≤ 12) := hr23
      obtain ⟨hr23_0, hr23_1, hr23_2, hr23_3, hr23_4⟩ := hr23
      have kc32 : cto P31 y1 = cto P13 y1 := hr23_0.ct (hr5_0.nt ty1 (by decide)) (by decide)
      have kc33 : cto P31 y2 = cto P13 y2 := hr23_0.ct (hr5_0.nt ty2 (by decide)) (by decide)
      have kc34 : cto P31 y3 = cto P13 y3 := hr23_0.ct (hr5_0.nt ty3 (by decide)) (by decide)
      have kc35 : cto P31 (some k0) = cto P13 (some k0) := hr23_0.ct (nt_s (hr5_0.T ht0 (by decide))) (by decide)
      obtain ⟨hr23_4_0, hr23_4_1⟩ := hr23_4
      refine lv_goto (tgt := 70) C.x C.b dX8_orElse_66 (by decide) ?_
      have hP : CH D cy ad A (tP (tQ (tQ (tA (tI (tI (tI (tI κ 8 n24) 9 n25) 10 n26) 11 n27) 16 F28) 15 Z29) 17 Z30) P31) H := CH.cong hP rfl rfl rfl rfl rfl rfl rfl rfl rfl rfl rfl rfl rfl rfl rfl rfl rfl rfl rfl rfl rfl rfl rfl rfl rfl rfl rfl
      exact c_retq (v := r23) (Or.inl ⟨_, rfl⟩) C hsz hsl ⟨n24, n25, n26, n27, F28, Z29, Z30, P31⟩ ⟨(hr5_0.trans hr23_0), hr23_1, hr23_2, hr23_3, (vX8_orElse_16 n24 hr23_4_0 hr23_4_1)⟩ hP hS ⟨(vX8_orElse_17 κ k0 y1 y2 y3 P13 b18 x19 P31 kdy1 kc14 kc15 kc16 kc17 ex19 c20 kc32 kc33 kc34 kc35), (vX8_orElse_18 κ k0 y1 y2 y3 P13 b18 x19 P31 kdy1 kc14 kc15 kc16 kc17 ex19 c20 kc32 kc33 kc34 kc35)⟩ ⟨(vX8_orElse_19 κ k0 y1 y2 y3 P13 b18 x19 P31 kdy1 kc14 kc15 kc16 kc17 ex19 c20 kc32 kc33 kc34 kc35), (vX8_orElse_20 κ k0 y1 y2 y3 P13 b18 x19 P31 kdy1 kc14 kc15 kc16 kc17 ex19 c20 kc32 kc33 kc34 kc35)⟩ dX8_orElse_70
    · have c20 : ¬ x19.toInt = 0 := by have h := z_ne c20; rw [show (0 : Int32).toInt = 0 from by decide +kernel] at h; exact h
      refine lv_aload_n C.x C.b dX8_orElse_25 rfl (lv_at hl 0 rfl) ?_
      refine pg_X10_0 (v := x19) C hP (t20 (a := b18) (t := 1) hb18) ex19 cw_718 dX8_orElse_26 ?_
      refine lv_iconst (v := 4) C.x C.b dX8_orElse_29 (by decide +kernel) ?_
      refine lv_icmp_ne (tgt := 47) C.x C.b dX8_orElse_30 (by decide) (fun c36 => ?_) (fun c36 => ?_)
      · have c36 : ¬ x19.toInt = 4 := by have h := z_ne c36; rw [show (4 : Int32).toInt = 4 from by decide +kernel] at h; exact h
        refine lv_iconst (v := 0) C.x C.b dX8_orElse_47 (by decide +kernel) ?_
        refine lv_istore (lv' := [(4, .int 0), (3, .ref b18), (0, .ref (ad 3)), (1, .ref k0), (2, .int k1)]) C.x C.b dX8_orElse_48 hl (by decide) rfl (fun ls hl => ?_)
        refine lv_iload C.x C.b dX8_orElse_50 (lv_at hl 0 rfl) ?_
        refine lv_if_eq (tgt := 69) C.x C.b dX8_orElse_52 (by decide) (fun _ => ?_) (fun c37 => absurd (by decide +kernel) c37)
        refine lv_aload_n C.x C.b dX8_orElse_69 rfl (lv_at hl 1 rfl) ?_
        exact c_retq (v := (some b18)) (Or.inl ⟨_, rfl⟩) C hsz hsl ⟨n6, n7, n8, n9, F10, Z11, Z12, P13⟩ ⟨hr5_0, hr5_1, hr5_2, (nt_s hb18), (vX8_orElse_7 n6 hr5_4_0 hr5_4_1)⟩ hP hS ⟨(vX8_orElse_21 κ k0 y1 y2 y3 P13 b18 x19 kdy1 kc14 kc15 kc16 kc17 ex19 c20 c36), (vX8_orElse_22 κ k0 y1 y2 y3 P13 b18 x19 kdy1 kc14 kc15 kc16 kc17 ex19 c20 c36)⟩ ⟨(vX8_orElse_23 κ k0 y1 y2 y3 P13 b18 x19 kdy1 kc14 kc15 kc16 kc17 ex19 c20 c36), (vX8_orElse_24 κ k0 y1 y2 y3 P13 b18 x19 kdy1 kc14 kc15 kc16 kc17 ex19 c20 c36)⟩ dX8_orElse_70
      · have c36 : x19.toInt = 4 := by have h := z_eq c36; rw [show (4 : Int32).toInt = 4 from by decide +kernel] at h; exact h
        refine lv_aload_n C.x C.b dX8_orElse_33 rfl (lv_at hl 0 rfl) ?_
        obtain ⟨x38, ex38, hx38⟩ := (hr5_1.t1 hb18).1
        refine pg_X10_3 (v := some x38) C hP (t20 (a := b18) (t := 1) hb18) ex38 cw_719 dX8_orElse_34 ?_
        refine c_callVi (n := 0) (As := []) (rest := []) C hP hS hl.1 (NJ0_isEmpty_aae02 l D cy ad A sz0 sa (tP (tQ (tQ (tA (tI (tI (tI (tI κ 8 n6) 9 n7) 10 n8) 11 n9) 16 F10) 15 Z11) 17 Z12) P13) H.size (SLT H) C.f (fun q h => C.a q (Nat.le_trans hS.1 h)) x38 hx38 hr5_1) ⟨cw_838, cw_841, by decide +kernel⟩ ⟨cw_839, cw_840, cw_70⟩ rfl (c_srecv C hP hS hx38) rfl rfl (lv_room (Nat.le_of_ble_eq_true rfl)) ⟨(vX8_orElse_25 d ), (vX8_orElse_26 d )⟩ ⟨(vX8_orElse_27 κ k0 y1 y2 y3 P13 b18 x19 kdy1 kc14 kc15 kc16 kc17 ex19 c20 c36), (vX8_orElse_28 κ k0 y1 y2 y3 P13 b18 x19 kdy1 kc14 kc15 kc16 kc17 ex19 c20 c36)⟩ dX8_orElse_37 (fun r39 u H locs hr39 hP hS => ?_)
        have hr39 : (0 ≤ r39.toInt ∧ r39.toInt ≤ 1) := hr39
        obtain ⟨hr39_0, hr39_1⟩ := hr39
        refine lv_if_eq (tgt := 47) C.x C.b dX8_orElse_40 (by decide) (fun c40 => ?_) (fun c40 => ?_)
        · have c40 : r39.toInt = 0 := by have h := z_eq c40; rw [show (0 : Int32).toInt = 0 from by decide +kernel] at h; exact h
          refine lv_iconst (v := 0) C.x C.b dX8_orElse_47 (by decide +kernel) ?_
          refine lv_istore (lv' := [(4, .int 0), (3, .ref b18), (0, .ref (ad 3)), (1, .ref k0), (2, .int k1)]) C.x C.b dX8_orElse_48 hl (by decide) rfl (fun ls hl => ?_)
          refine lv_iload C.x C.b dX8_orElse_50 (lv_at hl 0 rfl) ?_
          refine lv_if_eq (tgt := 69) C.x C.b dX8_orElse_52 (by decide) (fun _ => ?_) (fun c41 => absurd (by decide +kernel) c41)
          refine lv_aload_n C.x C.b dX8_orElse_69 rfl (lv_at hl 1 rfl) ?_
          exact c_retq (v := (some b18)) (Or.inl ⟨_, rfl⟩) C hsz hsl ⟨n6, n7, n8, n9, F10, Z11, Z12, P13⟩ ⟨hr5_0, hr5_1, hr5_2, (nt_s hb18), (vX8_orElse_7 n6 hr5_4_0 hr5_4_1)⟩ hP hS ⟨(vX8_orElse_27 κ k0 y1 y2 y3 P13 b18 x19 kdy1 kc14 kc15 kc16 kc17 ex19 c20 c36), (vX8_orElse_28 κ k0 y1 y2 y3 P13 b18 x19 kdy1 kc14 kc15 kc16 kc17 ex19 c20 c36)⟩ ⟨(vX8_orElse_29 κ k0 y1 y2 y3 P13 b18 x19 kdy1 kc14 kc15 kc16 kc17 ex19 c20 c36), (vX8_orElse_30 κ k0 y1 y2 y3 P13 b18 x19 kdy1 kc14 kc15 kc16 kc17 ex19 c20 c36)⟩ dX8_orElse_70
        · have c40 : ¬ r39.toInt = 0 := by have h := z_ne c40; rw [show (0 : Int32).toInt = 0 from by decide +kernel] at h; exact h
          refine lv_iconst (v := 1) C.x C.b dX8_orElse_43 (by decide +kernel) ?_
          refine lv_goto (tgt := 48) C.x C.b dX8_orElse_44 (by decide) ?_
          refine lv_istore (lv' := [(4, .int 1), (3, .ref b18), (0, .ref (ad 3)), (1, .ref k0), (2, .int k1)]) C.x C.b dX8_orElse_48 hl (by decide) rfl (fun ls hl => ?_)
          refine lv_iload C.x C.b dX8_orElse_50 (lv_at hl 0 rfl) ?_
          refine lv_if_eq (tgt := 69) C.x C.b dX8_orElse_52 (by decide) (fun c42 => absurd c42 (by decide +kernel)) (fun _ => ?_)
          refine lv_aload_n C.x C.b dX8_orElse_55 rfl (lv_at hl 2 rfl) ?_
          refine lv_aload_n C.x C.b dX8_orElse_56 rfl (lv_at hl 3 rfl) ?_
          refine pg_X5_4 (v := y2) C hP (t20 (a := k0) (t := 2) (hr5_0.T ht0 (by decide))) ((hr5_0.R (k := 4) ht0 (by decide) (by decide)).trans ey2) cw_769 dX8_orElse_57 ?_
          refine lv_iload_n C.x C.b dX8_orElse_60 rfl (lv_at hl 4 rfl) ?_
          refine lv_iconst (v := 1) C.x C.b dX8_orElse_61 (by decide +kernel) ?_
          refine lv_iadd C.x C.b dX8_orElse_62 ?_
          refine lv_topi (fun x43 ex43 => ?_)
          have tx43 : x43.toInt = k1.toInt + 1 := (vX8_orElse_31 k1 d x4 x43 hpre_2 hpre_3 hpre_4 ex4 tx4 ex43)
          refine c_callVq (n := 2) (As := [va_rf y2, .int x43]) (rest := []) C hP hS hl.1 (IH (tP (tQ (tQ (tA (tI (tI (tI (tI κ 8 n6) 9 n7) 10 n8) 11 n9) 16 F10) 15 Z11) 17 Z12) P13) H.size (SLT H) C.f (fun q h => C.a q (Nat.le_trans hS.1 h)) y2 x43 (hr5_0.nt ty2 (by decide)) hr5_1 hr5_2 (vX8_orElse_32 k1 d x4 n6 x43 hpre_2 hpre_3 hpre_4 ex4 tx4 hr5_4_0 hr5_4_1 ex43 tx43)) ⟨cw_711, cw_696, by decide +kernel⟩ ⟨cw_712, cw_713, cw_705⟩ rfl (hP.recvS (k := 3) (ci := 10) C.K rfl rfl) rfl rfl (lv_room (Nat.le_of_ble_eq_true rfl)) ⟨(vX8_orElse_3 d ), (vX8_orElse_4 d )⟩ ⟨(vX8_orElse_33 κ k0 y1 y2 y3 P13 b18 x19 kdy1 kc14 kc15 kc16 kc17 ex19 c20 c36), (vX8_orElse_34 κ k0 y1 y2 y3 P13 b18 x19 kdy1 kc14 kc15 kc16 kc17 ex19 c20 c36)⟩ dX8_orElse_63 (fun r44 u H locs hr44 hP hS => ?_)
          obtain ⟨n45, n46, n47, n48, F49, Z50, Z51, P52⟩ := u
          have hP : CH D cy ad A (tP (tQ (tQ (tA (tI (tI (tI (tI (tP (tQ (tQ (tA (tI (tI (tI (tI κ 8 n6) 9 n7) 10 n8) 11 n9) 16 F10) 15 Z11) 17 Z12) P13) 8 n45) 9 n46) 10 n47) 11 n48) 16 F49) 15 Z50) 17 Z51) P52) H := hP
          have hr44 : (EX P13 P52) ∧ (PV sa P52) ∧ (SV ad P52 (κ.2.1 0) (κ.2.1 1) (κ.2.2.2.1 6) (κ.2.2.2.1 7) (κ.2.2.2.1 8) (κ.2.2.2.1 13) Z50 Z51 (κ.1 1).toInt) ∧ (NT P52 1 r44) ∧ (0 ≤ n45.toInt ∧ n45.toInt ≤ 12) := hr44
          obtain ⟨hr44_0, hr44_1, hr44_2, hr44_3, hr44_4⟩ := hr44
          have kc53 : cto P52 y1 = cto P13 y1 := hr44_0.ct (hr5_0.nt ty1 (by decide)) (by decide)
          have kc54 : cto P52 y2 = cto P13 y2 := hr44_0.ct (hr5_0.nt ty2 (by decide)) (by decide)
          have kc55 : cto P52 y3 = cto P13 y3 := hr44_0.ct (hr5_0.nt ty3 (by decide)) (by decide)
          have kc56 : cto P52 (some k0) = cto P13 (some k0) := hr44_0.ct (nt_s (hr5_0.T ht0 (by decide))) (by decide)
          obtain ⟨hr44_4_0, hr44_4_1⟩ := hr44_4
          refine lv_goto (tgt := 70) C.x C.b dX8_orElse_66 (by decide) ?_
          have hP : CH D cy ad A (tP (tQ (tQ (tA (tI (tI (tI (tI κ 8 n45) 9 n46) 10 n47) 11 n48) 16 F49) 15 Z50) 17 Z51) P52) H := CH.cong hP rfl rfl rfl rfl rfl rfl rfl rfl rfl rfl rfl rfl rfl rfl rfl rfl rfl rfl rfl rfl rfl rfl rfl rfl rfl rfl rfl
          exact c_retq (v := r44) (Or.inl ⟨_, rfl⟩) C hsz hsl ⟨n45, n46, n47, n48, F49, Z50, Z51, P52⟩ ⟨(hr5_0.trans hr44_0), hr44_1, hr44_2, hr44_3, (vX8_orElse_35 n45 hr44_4_0 hr44_4_1)⟩ hP hS ⟨(vX8_orElse_36 κ k0 y1 y2 y3 P13 b18 x19 P52 kdy1 kc14 kc15 kc16 kc17 ex19 c20 c36 kc53 kc54 kc55 kc56), (vX8_orElse_37 κ k0 y1 y2 y3 P13 b18 x19 P52 kdy1 kc14 kc15 kc16 kc17 ex19 c20 c36 kc53 kc54 kc55 kc56)⟩ ⟨(vX8_orElse_38 κ k0 y1 y2 y3 P13 b18 x19 P52 kdy1 kc14 kc15 kc16 kc17 ex19 c20 c36 kc53 kc54 kc55 kc56), (vX8_orElse_39 κ k0 y1 y2 y3 P13 b18 x19 P52 kdy1 kc14 kc15 kc16 kc17 ex19 c20 c36 kc53 kc54 kc55 kc56)⟩ dX8_orElse_70

-- nw@7 @7
theorem vX8_combined_1 (k1 : Int32) (d : Nat) (x4 : Int32) (hpre_2 : 0 ≤ k1.toInt) (hpre_3 : k1.toInt ≤ 40) (hpre_4 : 40 ≤ k1.toInt + ((d : Nat) : Int)) (ex4 : x4 = k1 + (1 : Int32)) : x4.toInt = k1.toInt + 1 := by
  have q1 : (1 : Int32).toInt = 1 := by decide +kernel
  have w1 : (1 : Int32).toInt = 1 := by decide +kernel
  rw [ex4, z_add (by omega) (by omega)]; first | done | omega
-- pre:X8_eval@8 @8
theorem vX8_combined_2 (κ : KS) (k1 : Int32) (d : Nat) (x4 : Int32) (hpre_0 : 0 ≤ (κ.1 8).toInt) (hpre_1 : (κ.1 8).toInt ≤ 12) (hpre_2 : 0 ≤ k1.toInt) (hpre_3 : k1.toInt ≤ 40) (hpre_4 : 40 ≤ k1.toInt + ((d : Nat) : Int)) (ex4 : x4 = k1 + (1 : Int32)) (tx4 : x4.toInt = k1.toInt + 1) : 0 ≤ (κ.1 8).toInt ∧ (κ.1 8).toInt ≤ 12 ∧ 0 ≤ x4.toInt ∧ x4.toInt ≤ 41 ∧ 41 ≤ x4.toInt + ((d : Nat) : Int) := by
  have q1 : (1 : Int32).toInt = 1 := by decide +kernel
  refine ⟨?_, ?_, ?_, ?_, ?_⟩ <;> first | assumption | omega | (subst_vars; omega) | trivial
-- frames @8
theorem vX8_combined_3 (d : Nat)  : 4 * d + 30 + 1 ≤ 4 * d + 33 := by
  first | assumption | omega | (subst_vars; omega) | trivial
-- locals @8
theorem vX8_combined_4 (d : Nat)  : 8 + (3 + 11) + (200 * d + 700) ≤ 200 * d + 860 := by
  first | assumption | omega | (subst_vars; omega) | trivial
-- room @8
theorem vX8_combined_5 (κ : KS) (k0 : Nat) (y1 : Option Nat) (y2 : Option Nat) (y3 : Option Nat) (kdy1 : 1 + cto κ.2.2.2.2 y1 + cto κ.2.2.2.2 y2 + cto κ.2.2.2.2 y3 ≤ cto κ.2.2.2.2 (some k0)) : 0 + (13 * cto κ.2.2.2.2 y1) ≤ 13 * cto κ.2.2.2.2 (some k0) := by
  first | assumption | omega | (subst_vars; omega) | trivial
-- room @8
theorem vX8_combined_6 (κ : KS) (k0 : Nat) (y1 : Option Nat) (y2 : Option Nat) (y3 : Option Nat) (kdy1 : 1 + cto κ.2.2.2.2 y1 + cto κ.2.2.2.2 y2 + cto κ.2.2.2.2 y3 ≤ cto κ.2.2.2.2 (some k0)) : 0 + (120 * cto κ.2.2.2.2 y1) ≤ 120 * cto κ.2.2.2.2 (some k0) := by
  first | assumption | omega | (subst_vars; omega) | trivial
-- post @17
theorem vX8_combined_7 (n6 : Int32) (hr5_4_0 : 0 ≤ n6.toInt) (hr5_4_1 : n6.toInt ≤ 12) : 0 ≤ n6.toInt ∧ n6.toInt ≤ 12 := by
  refine ⟨?_, ?_⟩ <;> first | assumption | omega | (subst_vars; omega) | trivial
-- grow @17
theorem vX8_combined_8 (κ : KS) (k0 : Nat) (y1 : Option Nat) (y2 : Option Nat) (y3 : Option Nat) (P13 : PL) (kdy1 : 1 + cto κ.2.2.2.2 y1 + cto κ.2.2.2.2 y2 + cto κ.2.2.2.2 y3 ≤ cto κ.2.2.2.2 (some k0)) (kc14 : cto P13 y1 = cto κ.2.2.2.2 y1) (kc15 : cto P13 y2 = cto κ.2.2.2.2 y2) (kc16 : cto P13 y3 = cto κ.2.2.2.2 y3) (kc17 : cto P13 (some k0) = cto κ.2.2.2.2 (some k0)) : 0 + (13 * cto κ.2.2.2.2 y1) ≤ 13 * cto κ.2.2.2.2 (some k0) := by
  first | assumption | omega | (subst_vars; omega) | trivial
-- grow @17
theorem vX8_combined_9 (κ : KS) (k0 : Nat) (y1 : Option Nat) (y2 : Option Nat) (y3 : Option Nat) (P13 : PL) (kdy1 : 1 + cto κ.2.2.2.2 y1 + cto κ.2.2.2.2 y2 + cto κ.2.2.2.2 y3 ≤ cto κ.2.2.2.2 (some k0)) (kc14 : cto P13 y1 = cto κ.2.2.2.2 y1) (kc15 : cto P13 y2 = cto κ.2.2.2.2 y2) (kc16 : cto P13 y3 = cto κ.2.2.2.2 y3) (kc17 : cto P13 (some k0) = cto κ.2.2.2.2 (some k0)) : 0 + (120 * cto κ.2.2.2.2 y1) ≤ 120 * cto κ.2.2.2.2 (some k0) := by
  first | assumption | omega | (subst_vars; omega) | trivial
-- growm @17
theorem vX8_combined_10 (κ : KS) (k0 : Nat) (y1 : Option Nat) (y2 : Option Nat) (y3 : Option Nat) (P13 : PL) (kdy1 : 1 + cto κ.2.2.2.2 y1 + cto κ.2.2.2.2 y2 + cto κ.2.2.2.2 y3 ≤ cto κ.2.2.2.2 (some k0)) (kc14 : cto P13 y1 = cto κ.2.2.2.2 y1) (kc15 : cto P13 y2 = cto κ.2.2.2.2 y2) (kc16 : cto P13 y3 = cto κ.2.2.2.2 y3) (kc17 : cto P13 (some k0) = cto κ.2.2.2.2 (some k0)) : 13 * cto κ.2.2.2.2 (some k0) ≤ 13 * cto κ.2.2.2.2 (some k0) := by
  first | assumption | omega | (subst_vars; omega) | trivial
-- growm @17
theorem vX8_combined_11 (κ : KS) (k0 : Nat) (y1 : Option Nat) (y2 : Option Nat) (y3 : Option Nat) (P13 : PL) (kdy1 : 1 + cto κ.2.2.2.2 y1 + cto κ.2.2.2.2 y2 + cto κ.2.2.2.2 y3 ≤ cto κ.2.2.2.2 (some k0)) (kc14 : cto P13 y1 = cto κ.2.2.2.2 y1) (kc15 : cto P13 y2 = cto κ.2.2.2.2 y2) (kc16 : cto P13 y3 = cto κ.2.2.2.2 y3) (kc17 : cto P13 (some k0) = cto κ.2.2.2.2 (some k0)) : 120 * cto κ.2.2.2.2 (some k0) ≤ 120 * cto κ.2.2.2.2 (some k0) := by
  first | assumption | omega | (subst_vars; omega) | trivial
-- nw@25 @25
theorem vX8_combined_12 (k1 : Int32) (d : Nat) (x4 : Int32) (x19 : Int32) (hpre_2 : 0 ≤ k1.toInt) (hpre_3 : k1.toInt ≤ 40) (hpre_4 : 40 ≤ k1.toInt + ((d : Nat) : Int)) (ex4 : x4 = k1 + (1 : Int32)) (tx4 : x4.toInt = k1.toInt + 1) (ex19 : x19 = k1 + (1 : Int32)) : x19.toInt = k1.toInt + 1 := by
  have q1 : (1 : Int32).toInt = 1 := by decide +kernel
  have w1 : (1 : Int32).toInt = 1 := by decide +kernel
  rw [ex19, z_add (by omega) (by omega)]; first | done | omega
-- pre:X8_eval@26 @26
theorem vX8_combined_13 (k1 : Int32) (d : Nat) (x4 : Int32) (n6 : Int32) (x19 : Int32) (hpre_2 : 0 ≤ k1.toInt) (hpre_3 : k1.toInt ≤ 40) (hpre_4 : 40 ≤ k1.toInt + ((d : Nat) : Int)) (ex4 : x4 = k1 + (1 : Int32)) (tx4 : x4.toInt = k1.toInt + 1) (hr5_4_0 : 0 ≤ n6.toInt) (hr5_4_1 : n6.toInt ≤ 12) (ex19 : x19 = k1 + (1 : Int32)) (tx19 : x19.toInt = k1.toInt + 1) : 0 ≤ n6.toInt ∧ n6.toInt ≤ 12 ∧ 0 ≤ x19.toInt ∧ x19.toInt ≤ 41 ∧ 41 ≤ x19.toInt + ((d : Nat) : Int) := by
  have q1 : (1 : Int32).toInt = 1 := by decide +kernel
  refine ⟨?_, ?_, ?_, ?_, ?_⟩ <;> first | assumption | omega | (subst_vars; omega) | trivial
-- room @26
theorem vX8_combined_14 (κ : KS) (k0 : Nat) (y1 : Option Nat) (y2 : Option Nat) (y3 : Option Nat) (P13 : PL) (kdy1 : 1 + cto κ.2.2.2.2 y1 + cto κ.2.2.2.2 y2 + cto κ.2.2.2.2 y3 ≤ cto κ.2.2.2.2 (some k0)) (kc14 : cto P13 y1 = cto κ.2.2.2.2 y1) (kc15 : cto P13 y2 = cto κ.2.2.2.2 y2) (kc16 : cto P13 y3 = cto κ.2.2.2.2 y3) (kc17 : cto P13 (some k0) = cto κ.2.2.2.2 (some k0)) : 0 + (13 * cto κ.2.2.2.2 y1) + (13 * cto P13 y2) ≤ 13 * cto κ.2.2.2.2 (some k0) := by
  first | assumption | omega | (subst_vars; omega) | trivial
-- room @26
theorem vX8_combined_15 (κ : KS) (k0 : Nat) (y1 : Option Nat) (y2 : Option Nat) (y3 : Option Nat) (P13 : PL) (kdy1 : 1 + cto κ.2.2.2.2 y1 + cto κ.2.2.2.2 y2 + cto κ.2.2.2.2 y3 ≤ cto κ.2.2.2.2 (some k0)) (kc14 : cto P13 y1 = cto κ.2.2.2.2 y1) (kc15 : cto P13 y2 = cto κ.2.2.2.2 y2) (kc16 : cto P13 y3 = cto κ.2.2.2.2 y3) (kc17 : cto P13 (some k0) = cto κ.2.2.2.2 (some k0)) : 0 + (120 * cto κ.2.2.2.2 y1) + (120 * cto P13 y2) ≤ 120 * cto κ.2.2.2.2 (some k0) := by
  first | assumption | omega | (subst_vars; omega) | trivial
-- post @37
theorem vX8_combined_16 (n21 : Int32) (hr20_4_0 : 0 ≤ n21.toInt) (hr20_4_1 : n21.toInt ≤ 12) : 0 ≤ n21.toInt ∧ n21.toInt ≤ 12 := by
  refine ⟨?_, ?_⟩ <;> first | assumption | omega | (subst_vars; omega) | trivial
-- grow @37
theorem vX8_combined_17 (κ : KS) (k0 : Nat) (y1 : Option Nat) (y2 : Option Nat) (y3 : Option Nat) (P13 : PL) (P28 : PL) (kdy1 : 1 + cto κ.2.2.2.2 y1 + cto κ.2.2.2.2 y2 + cto κ.2.2.2.2 y3 ≤ cto κ.2.2.2.2 (some k0)) (kc14 : cto P13 y1 = cto κ.2.2.2.2 y1) (kc15 : cto P13 y2 = cto κ.2.2.2.2 y2) (kc16 : cto P13 y3 = cto κ.2.2.2.2 y3) (kc17 : cto P13 (some k0) = cto κ.2.2.2.2 (some k0)) (kc29 : cto P28 y1 = cto P13 y1) (kc30 : cto P28 y2 = cto P13 y2) (kc31 : cto P28 y3 = cto P13 y3) (kc32 : cto P28 (some k0) = cto P13 (some k0)) : 0 + (13 * cto κ.2.2.2.2 y1) + (13 * cto P13 y2) ≤ 13 * cto κ.2.2.2.2 (some k0) := by
  first | assumption | omega | (subst_vars; omega) | trivial
-- grow @37
theorem vX8_combined_18 (κ : KS) (k0 : Nat) (y1 : Option Nat) (y2 : Option Nat) (y3 : Option Nat) (P13 : PL) (P28 : PL) (kdy1 : 1 + cto κ.2.2.2.2 y1 + cto κ.2.2.2.2 y2 + cto κ.2.2.2.2 y3 ≤ cto κ.2.2.2.2 (some k0)) (kc14 : cto P13 y1 = cto κ.2.2.2.2 y1) (kc15 : cto P13 y2 = cto κ.2.2.2.2 y2) (kc16 : cto P13 y3 = cto κ.2.2.2.2 y3) (kc17 : cto P13 (some k0) = cto κ.2.2.2.2 (some k0)) (kc29 : cto P28 y1 = cto P13 y1) (kc30 : cto P28 y2 = cto P13 y2) (kc31 : cto P28 y3 = cto P13 y3) (kc32 : cto P28 (some k0) = cto P13 (some k0)) : 0 + (120 * cto κ.2.2.2.2 y1) + (120 * cto P13 y2) ≤ 120 * cto κ.2.2.2.2 (some k0) := by
  first | assumption | omega | (subst_vars; omega) | trivial
-- growm @37
theorem vX8_combined_19 (κ : KS) (k0 : Nat) (y1 : Option Nat) (y2 : Option Nat) (y3 : Option Nat) (P13 : PL) (P28 : PL) (kdy1 : 1 + cto κ.2.2.2.2 y1 + cto κ.2.2.2.2 y2 + cto κ.2.2.2.2 y3 ≤ cto κ.2.2.2.2 (some k0)) (kc14 : cto P13 y1 = cto κ.2.2.2.2 y1) (kc15 : cto P13 y2 = cto κ.2.2.2.2 y2) (kc16 : cto P13 y3 = cto κ.2.2.2.2 y3) (kc17 : cto P13 (some k0) = cto κ.2.2.2.2 (some k0)) (kc29 : cto P28 y1 = cto P13 y1) (kc30 : cto P28 y2 = cto P13 y2) (kc31 : cto P28 y3 = cto P13 y3) (kc32 : cto P28 (some k0) = cto P13 (some k0)) : 13 * cto κ.2.2.2.2 (some k0) ≤ 13 * cto κ.2.2.2.2 (some k0) := by
  first | assumption | omega | (subst_vars; omega) | trivial
-- growm @37
theorem vX8_combined_20 (κ : KS) (k0 : Nat) (y1 : Option Nat) (y2 : Option Nat) (y3 : Option Nat) (P13 : PL) (P28 : PL) (kdy1 : 1 + cto κ.2.2.2.2 y1 + cto κ.2.2.2.2 y2 + cto κ.2.2.2.2 y3 ≤ cto κ.2.2.2.2 (some k0)) (kc14 : cto P13 y1 = cto κ.2.2.2.2 y1) (kc15 : cto P13 y2 = cto κ.2.2.2.2 y2) (kc16 : cto P13 y3 = cto κ.2.2.2.2 y3) (kc17 : cto P13 (some k0) = cto κ.2.2.2.2 (some k0)) (kc29 : cto P28 y1 = cto P13 y1) (kc30 : cto P28 y2 = cto P13 y2) (kc31 : cto P28 y3 = cto P13 y3) (kc32 : cto P28 (some k0) = cto P13 (some k0)) : 120 * cto κ.2.2.2.2 (some k0) ≤ 120 * cto κ.2.2.2.2 (some k0) := by
  first | assumption | omega | (subst_vars; omega) | trivial
-- pre:X8_calculate@152 @152
theorem vX8_combined_21 (κ : KS) (k0 : Nat) (y1 : Option Nat) (y2 : Option Nat) (y3 : Option Nat) (P13 : PL) (P28 : PL) (x34 : Int32) (kdy1 : 1 + cto κ.2.2.2.2 y1 + cto κ.2.2.2.2 y2 + cto κ.2.2.2.2 y3 ≤ cto κ.2.2.2.2 (some k0)) (kc14 : cto P13 y1 = cto κ.2.2.2.2 y1) (kc15 : cto P13 y2 = cto κ.2.2.2.2 y2) (kc16 : cto P13 y3 = cto κ.2.2.2.2 y3) (kc17 : cto P13 (some k0) = cto κ.2.2.2.2 (some k0)) (kc29 : cto P28 y1 = cto P13 y1) (kc30 : cto P28 y2 = cto P13 y2) (kc31 : cto P28 y3 = cto P13 y3) (kc32 : cto P28 (some k0) = cto P13 (some k0)) (ex34 : oI P28 2 k0 = x34) (c35_0 : x34.toInt = 37) : (x34.toInt = 37 ∨ x34.toInt = 42 ∨ x34.toInt = 43 ∨ x34.toInt = 45 ∨ x34.toInt = 47) := by
  first | assumption | omega | (subst_vars; omega) | trivial
-- frames @152
theorem vX8_combined_22 (d : Nat)  : 4 + 1 ≤ 4 * d + 33 := by
  first | assumption | omega | (subst_vars; omega) | trivial
-- locals @152
theorem vX8_combined_23 (d : Nat)  : 8 + (4 + 11) + 94 ≤ 200 * d + 860 := by
  first | assumption | omega | (subst_vars; omega) | trivial
-- room @152
theorem vX8_combined_24 (κ : KS) (k0 : Nat) (y1 : Option Nat) (y2 : Option Nat) (y3 : Option Nat) (P13 : PL) (P28 : PL) (x34 : Int32) (kdy1 : 1 + cto κ.2.2.2.2 y1 + cto κ.2.2.2.2 y2 + cto κ.2.2.2.2 y3 ≤ cto κ.2.2.2.2 (some k0)) (kc14 : cto P13 y1 = cto κ.2.2.2.2 y1) (kc15 : cto P13 y2 = cto κ.2.2.2.2 y2) (kc16 : cto P13 y3 = cto κ.2.2.2.2 y3) (kc17 : cto P13 (some k0) = cto κ.2.2.2.2 (some k0)) (kc29 : cto P28 y1 = cto P13 y1) (kc30 : cto P28 y2 = cto P13 y2) (kc31 : cto P28 y3 = cto P13 y3) (kc32 : cto P28 (some k0) = cto P13 (some k0)) (ex34 : oI P28 2 k0 = x34) (c35_0 : x34.toInt = 37) : 0 + (13 * cto κ.2.2.2.2 y1) + (13 * cto P13 y2) + 1 ≤ 13 * cto κ.2.2.2.2 (some k0) := by
  first | assumption | omega | (subst_vars; omega) | trivial
-- room @152
theorem vX8_combined_25 (κ : KS) (k0 : Nat) (y1 : Option Nat) (y2 : Option Nat) (y3 : Option Nat) (P13 : PL) (P28 : PL) (x34 : Int32) (kdy1 : 1 + cto κ.2.2.2.2 y1 + cto κ.2.2.2.2 y2 + cto κ.2.2.2.2 y3 ≤ cto κ.2.2.2.2 (some k0)) (kc14 : cto P13 y1 = cto κ.2.2.2.2 y1) (kc15 : cto P13 y2 = cto κ.2.2.2.2 y2) (kc16 : cto P13 y3 = cto κ.2.2.2.2 y3) (kc17 : cto P13 (some k0) = cto κ.2.2.2.2 (some k0)) (kc29 : cto P28 y1 = cto P13 y1) (kc30 : cto P28 y2 = cto P13 y2) (kc31 : cto P28 y3 = cto P13 y3) (kc32 : cto P28 (some k0) = cto P13 (some k0)) (ex34 : oI P28 2 k0 = x34) (c35_0 : x34.toInt = 37) : 0 + (120 * cto κ.2.2.2.2 y1) + (120 * cto P13 y2) + 5 ≤ 120 * cto κ.2.2.2.2 (some k0) := by
  first | assumption | omega | (subst_vars; omega) | trivial
-- grow @155
theorem vX8_combined_26 (κ : KS) (k0 : Nat) (y1 : Option Nat) (y2 : Option Nat) (y3 : Option Nat) (P13 : PL) (P28 : PL) (x34 : Int32) (P38 : PL) (kdy1 : 1 + cto κ.2.2.2.2 y1 + cto κ.2.2.2.2 y2 + cto κ.2.2.2.2 y3 ≤ cto κ.2.2.2.2 (some k0)) (kc14 : cto P13 y1 = cto κ.2.2.2.2 y1) (kc15 : cto P13 y2 = cto κ.2.2.2.2 y2) (kc16 : cto P13 y3 = cto κ.2.2.2.2 y3) (kc17 : cto P13 (some k0) = cto κ.2.2.2.2 (some k0)) (kc29 : cto P28 y1 = cto P13 y1) (kc30 : cto P28 y2 = cto P13 y2) (kc31 : cto P28 y3 = cto P13 y3) (kc32 : cto P28 (some k0) = cto P13 (some k0)) (ex34 : oI P28 2 k0 = x34) (c35_0 : x34.toInt = 37) (kc39 : cto P38 y1 = cto P28 y1) (kc40 : cto P38 y2 = cto P28 y2) (kc41 : cto P38 y3 = cto P28 y3) (kc42 : cto P38 (some k0) = cto P28 (some k0)) : 0 + (13 * cto κ.2.2.2.2 y1) + (13 * cto P13 y2) + 1 ≤ 13 * cto κ.2.2.2.2 (some k0) := by
  first | assumption | omega | (subst_vars; omega) | trivial
-- grow @155
theorem vX8_combined_27 (κ : KS) (k0 : Nat) (y1 : Option Nat) (y2 : Option Nat) (y3 : Option Nat) (P13 : PL) (P28 : PL) (x34 : Int32) (P38 : PL) (kdy1 : 1 + cto κ.2.2.2.2 y1 + cto κ.2.2.2.2 y2 + cto κ.2.2.2.2 y3 ≤ cto κ.2.2.2.2 (some k0)) (kc14 : cto P13 y1 = cto κ.2.2.2.2 y1) (kc15 : cto P13 y2 = cto κ.2.2.2.2 y2) (kc16 : cto P13 y3 = cto κ.2.2.2.2 y3) (kc17 : cto P13 (some k0) = cto κ.2.2.2.2 (some k0)) (kc29 : cto P28 y1 = cto P13 y1) (kc30 : cto P28 y2 = cto P13 y2) (kc31 : cto P28 y3 = cto P13 y3) (kc32 : cto P28 (some k0) = cto P13 (some k0)) (ex34 : oI P28 2 k0 = x34) (c35_0 : x34.toInt = 37) (kc39 : cto P38 y1 = cto P28 y1) (kc40 : cto P38 y2 = cto P28 y2) (kc41 : cto P38 y3 = cto P28 y3) (kc42 : cto P38 (some k0) = cto P28 (some k0)) : 0 + (120 * cto κ.2.2.2.2 y1) + (120 * cto P13 y2) + 5 ≤ 120 * cto κ.2.2.2.2 (some k0) := by
  first | assumption | omega | (subst_vars; omega) | trivial
-- growm @155
theorem vX8_combined_28 (κ : KS) (k0 : Nat) (y1 : Option Nat) (y2 : Option Nat) (y3 : Option Nat) (P13 : PL) (P28 : PL) (x34 : Int32) (P38 : PL) (kdy1 : 1 + cto κ.2.2.2.2 y1 + cto κ.2.2.2.2 y2 + cto κ.2.2.2.2 y3 ≤ cto κ.2.2.2.2 (some k0)) (kc14 : cto P13 y1 = cto κ.2.2.2.2 y1) (kc15 : cto P13 y2 = cto κ.2.2.2.2 y2) (kc16 : cto P13 y3 = cto κ.2.2.2.2 y3) (kc17 : cto P13 (some k0) = cto κ.2.2.2.2 (some k0)) (kc29 : cto P28 y1 = cto P13 y1) (kc30 : cto P28 y2 = cto P13 y2) (kc31 : cto P28 y3 = cto P13 y3) (kc32 : cto P28 (some k0) = cto P13 (some k0)) (ex34 : oI P28 2 k0 = x34) (c35_0 : x34.toInt = 37) (kc39 : cto P38 y1 = cto P28 y1) (kc40 : cto P38 y2 = cto P28 y2) (kc41 : cto P38 y3 = cto P28 y3) (kc42 : cto P38 (some k0) = cto P28 (some k0)) : 13 * cto κ.2.2.2.2 (some k0) ≤ 13 * cto κ.2.2.2.2 (some k0) := by
  first | assumption | omega | (subst_vars; omega) | trivial
-- growm @155
theorem vX8_combined_29 (κ : KS) (k0 : Nat) (y1 : Option Nat) (y2 : Option Nat) (y3 : Option Nat) (P13 : PL) (P28 : PL) (x34 : Int32) (P38 : PL) (kdy1 : 1 + cto κ.2.2.2.2 y1 + cto κ.2.2.2.2 y2 + cto κ.2.2.2.2 y3 ≤ cto κ.2.2.2.2 (some k0)) (kc14 : cto P13 y1 = cto κ.2.2.2.2 y1) (kc15 : cto P13 y2 = cto κ.2.2.2.2 y2) (kc16 : cto P13 y3 = cto κ.2.2.2.2 y3) (kc17 : cto P13 (some k0) = cto κ.2.2.2.2 (some k0)) (kc29 : cto P28 y1 = cto P13 y1) (kc30 : cto P28 y2 = cto P13 y2) (kc31 : cto P28 y3 = cto P13 y3) (kc32 : cto P28 (some k0) = cto P13 (some k0)) (ex34 : oI P28 2 k0 = x34) (c35_0 : x34.toInt = 37) (kc39 : cto P38 y1 = cto P28 y1) (kc40 : cto P38 y2 = cto P28 y2) (kc41 : cto P38 y3 = cto P28 y3) (kc42 : cto P38 (some k0) = cto P28 (some k0)) : 120 * cto κ.2.2.2.2 (some k0) ≤ 120 * cto κ.2.2.2.2 (some k0) := by
  first | assumption | omega | (subst_vars; omega) | trivial
-- pre:X8_calculate@152 @152
theorem vX8_combined_30 (κ : KS) (k0 : Nat) (y1 : Option Nat) (y2 : Option Nat) (y3 : Option Nat) (P13 : PL) (P28 : PL) (x34 : Int32) (kdy1 : 1 + cto κ.2.2.2.2 y1 + cto κ.2.2.2.2 y2 + cto κ.2.2.2.2 y3 ≤ cto κ.2.2.2.2 (some k0)) (kc14 : cto P13 y1 = cto κ.2.2.2.2 y1) (kc15 : cto P13 y2 = cto κ.2.2.2.2 y2) (kc16 : cto P13 y3 = cto κ.2.2.2.2 y3) (kc17 : cto P13 (some k0) = cto κ.2.2.2.2 (some k0)) (kc29 : cto P28 y1 = cto P13 y1) (kc30 : cto P28 y2 = cto P13 y2) (kc31 : cto P28 y3 = cto P13 y3) (kc32 : cto P28 (some k0) = cto P13 (some k0)) (ex34 : oI P28 2 k0 = x34) (c35_0 : ¬ x34.toInt = 37) (c35_1 : x34.toInt = 42) : (x34.toInt = 37 ∨ x34.toInt = 42 ∨ x34.toInt = 43 ∨ x34.toInt = 45 ∨ x34.toInt = 47) := by
  first | assumption | omega | (subst_vars; omega) | trivial
-- room @152
theorem vX8_combined_31 (κ : KS) (k0 : Nat) (y1 : Option Nat) (y2 : Option Nat) (y3 : Option Nat) (P13 : PL) (P28 : PL) (x34 : Int32) (kdy1 : 1 + cto κ.2.2.2.2 y1 + cto κ.2.2.2.2 y2 + cto κ.2.2.2.2 y3 ≤ cto κ.2.2.2.2 (some k0)) (kc14 : cto P13 y1 = cto κ.2.2.2.2 y1) (kc15 : cto P13 y2 = cto κ.2.2.2.2 y2) (kc16 : cto P13 y3 = cto κ.2.2.2.2 y3) (kc17 : cto P13 (some k0) = cto κ.2.2.2.2 (some k0)) (kc29 : cto P28 y1 = cto P13 y1) (kc30 : cto P28 y2 = cto P13 y2) (kc31 : cto P28 y3 = cto P13 y3) (kc32 : cto P28 (some k0) = cto P13 (some k0)) (ex34 : oI P28 2 k0 = x34) (c35_0 : ¬ x34.toInt = 37) (c35_1 : x34.toInt = 42) : 0 + (13 * cto κ.2.2.2.2 y1) + (13 * cto P13 y2) + 1 ≤ 13 * cto κ.2.2.2.2 (some k0) := by
  first | assumption | omega | (subst_vars; omega) | trivial
-- room @152
theorem vX8_combined_32 (κ : KS) (k0 : Nat) (y1 : Option Nat) (y2 : Option Nat) (y3 : Option Nat) (P13 : PL) (P28 : PL) (x34 : Int32) (kdy1 : 1 + cto κ.2.2.2.2 y1 + cto κ.2.2.2.2 y2 + cto κ.2.2.2.2 y3 ≤ cto κ.2.2.2.2 (some k0)) (kc14 : cto P13 y1 = cto κ.2.2.2.2 y1) (kc15 : cto P13 y2 = cto κ.2.2.2.2 y2) (kc16 : cto P13 y3 = cto κ.2.2.2.2 y3) (kc17 : cto P13 (some k0) = cto κ.2.2.2.2 (some k0)) (kc29 : cto P28 y1 = cto P13 y1) (kc30 : cto P28 y2 = cto P13 y2) (kc31 : cto P28 y3 = cto P13 y3) (kc32 : cto P28 (some k0) = cto P13 (some k0)) (ex34 : oI P28 2 k0 = x34) (c35_0 : ¬ x34.toInt = 37) (c35_1 : x34.toInt = 42) : 0 + (120 * cto κ.2.2.2.2 y1) + (120 * cto P13 y2) + 5 ≤ 120 * cto κ.2.2.2.2 (some k0) := by
  first | assumption | omega | (subst_vars; omega) | trivial
-- grow @155
theorem vX8_combined_33 (κ : KS) (k0 : Nat) (y1 : Option Nat) (y2 : Option Nat) (y3 : Option Nat) (P13 : PL) (P28 : PL) (x34 : Int32) (P45 : PL) (kdy1 : 1 + cto κ.2.2.2.2 y1 + cto κ.2.2.2.2 y2 + cto κ.2.2.2.2 y3 ≤ cto κ.2.2.2.2 (some k0)) (kc14 : cto P13 y1 = cto κ.2.2.2.2 y1) (kc15 : cto P13 y2 = cto κ.2.2.2.2 y2) (kc16 : cto P13 y3 = cto κ.2.2.2.2 y3) (kc17 : cto P13 (some k0) = cto κ.2.2.2.2 (some k0)) (kc29 : cto P28 y1 = cto P13 y1) (kc30 : cto P28 y2 = cto P13 y2) (kc31 : cto P28 y3 = cto P13 y3) (kc32 : cto P28 (some k0) = cto P13 (some k0)) (ex34 : oI P28 2 k0 = x34) (c35_0 : ¬ x34.toInt = 37) (c35_1 : x34.toInt = 42) (kc46 : cto P45 y1 = cto P28 y1) (kc47 : cto P45 y2 = cto P28 y2) (kc48 : cto P45 y3 = cto P28 y3) (kc49 : cto P45 (some k0) = cto P28 (some k0)) : 0 + (13 * cto κ.2.2.2.2 y1) + (13 * cto P13 y2) + 1 ≤ 13 * cto κ.2.2.2.2 (some k0) := by
  first | assumption | omega | (subst_vars; omega) | trivial
-- grow @155
theorem vX8_combined_34 (κ : KS) (k0 : Nat) (y1 : Option Nat) (y2 : Option Nat) (y3 : Option Nat) (P13 : PL) (P28 : PL) (x34 : Int32) (P45 : PL) (kdy1 : 1 + cto κ.2.2.2.2 y1 + cto κ.2.2.2.2 y2 + cto κ.2.2.2.2 y3 ≤ cto κ.2.2.2.2 (some k0)) (kc14 : cto P13 y1 = cto κ.2.2.2.2 y1) (kc15 : cto P13 y2 = cto κ.2.2.2.2 y2) (kc16 : cto P13 y3 = cto κ.2.2.2.2 y3) (kc17 : cto P13 (some k0) = cto κ.2.2.2.2 (some k0)) (kc29 : cto P28 y1 = cto P13 y1) (kc30 : cto P28 y2 = cto P13 y2) (kc31 : cto P28 y3 = cto P13 y3) (kc32 : cto P28 (some k0) = cto P13 (some k0)) (ex34 : oI P28 2 k0 = x34) (c35_0 : ¬ x34.toInt = 37) (c35_1 : x34.toInt = 42) (kc46 : cto P45 y1 = cto P28 y1) (kc47 : cto P45 y2 = cto P28 y2) (kc48 : cto P45 y3 = cto P28 y3) (kc49 : cto P45 (some k0) = cto P28 (some k0)) : 0 + (120 * cto κ.2.2.2.2 y1) + (120 * cto P13 y2) + 5 ≤ 120 * cto κ.2.2.2.2 (some k0) := by
  first | assumption | omega | (subst_vars; omega) | trivial
-- growm @155
theorem vX8_combined_35 (κ : KS) (k0 : Nat) (y1 : Option Nat) (y2 : Option Nat) (y3 : Option Nat) (P13 : PL) (P28 : PL) (x34 : Int32) (P45 : PL) (kdy1 : 1 + cto κ.2.2.2.2 y1 + cto κ.2.2.2.2 y2 + cto κ.2.2.2.2 y3 ≤ cto κ.2.2.2.2 (some k0)) (kc14 : cto P13 y1 = cto κ.2.2.2.2 y1) (kc15 : cto P13 y2 = cto κ.2.2.2.2 y2) (kc16 : cto P13 y3 = cto κ.2.2.2.2 y3) (kc17 : cto P13 (some k0) = cto κ.2.2.2.2 (some k0)) (kc29 : cto P28 y1 = cto P13 y1) (kc30 : cto P28 y2 = cto P13 y2) (kc31 : cto P28 y3 = cto P13 y3) (kc32 : cto P28 (some k0) = cto P13 (some k0)) (ex34 : oI P28 2 k0 = x34) (c35_0 : ¬ x34.toInt = 37) (c35_1 : x34.toInt = 42) (kc46 : cto P45 y1 = cto P28 y1) (kc47 : cto P45 y2 = cto P28 y2) (kc48 : cto P45 y3 = cto P28 y3) (kc49 : cto P45 (some k0) = cto P28 (some k0)) : 13 * cto κ.2.2.2.2 (some k0) ≤ 13 * cto κ.2.2.2.2 (some k0) := by
  first | assumption | omega | (subst_vars; omega) | trivial
-- growm @155
theorem vX8_combined_36 (κ : KS) (k0 : Nat) (y1 : Option Nat) (y2 : Option Nat) (y3 : Option Nat) (P13 : PL) (P28 : PL) (x34 : Int32) (P45 : PL) (kdy1 : 1 + cto κ.2.2.2.2 y1 + cto κ.2.2.2.2 y2 + cto κ.2.2.2.2 y3 ≤ cto κ.2.2.2.2 (some k0)) (kc14 : cto P13 y1 = cto κ.2.2.2.2 y1) (kc15 : cto P13 y2 = cto κ.2.2.2.2 y2) (kc16 : cto P13 y3 = cto κ.2.2.2.2 y3) (kc17 : cto P13 (some k0) = cto κ.2.2.2.2 (some k0)) (kc29 : cto P28 y1 = cto P13 y1) (kc30 : cto P28 y2 = cto P13 y2) (kc31 : cto P28 y3 = cto P13 y3) (kc32 : cto P28 (some k0) = cto P13 (some k0)) (ex34 : oI P28 2 k0 = x34) (c35_0 : ¬ x34.toInt = 37) (c35_1 : x34.toInt = 42) (kc46 : cto P45 y1 = cto P28 y1) (kc47 : cto P45 y2 = cto P28 y2) (kc48 : cto P45 y3 = cto P28 y3) (kc49 : cto P45 (some k0) = cto P28 (some k0)) : 120 * cto κ.2.2.2.2 (some k0) ≤ 120 * cto κ.2.2.2.2 (some k0) := by
  first | assumption | omega | (subst_vars; omega) | trivial
-- frames @140
theorem vX8_combined_37 (d : Nat)  : 8 + 1 ≤ 4 * d + 33 := by
  first | assumption | omega | (subst_vars; omega) | trivial
-- locals @140
theorem vX8_combined_38 (d : Nat)  : 8 + (4 + 11) + 196 ≤ 200 * d + 860 := by
  first | assumption | omega | (subst_vars; omega) | trivial
-- room @140
theorem vX8_combined_39 (κ : KS) (k0 : Nat) (y1 : Option Nat) (y2 : Option Nat) (y3 : Option Nat) (P13 : PL) (P28 : PL) (x34 : Int32) (kdy1 : 1 + cto κ.2.2.2.2 y1 + cto κ.2.2.2.2 y2 + cto κ.2.2.2.2 y3 ≤ cto κ.2.2.2.2 (some k0)) (kc14 : cto P13 y1 = cto κ.2.2.2.2 y1) (kc15 : cto P13 y2 = cto κ.2.2.2.2 y2) (kc16 : cto P13 y3 = cto κ.2.2.2.2 y3) (kc17 : cto P13 (some k0) = cto κ.2.2.2.2 (some k0)) (kc29 : cto P28 y1 = cto P13 y1) (kc30 : cto P28 y2 = cto P13 y2) (kc31 : cto P28 y3 = cto P13 y3) (kc32 : cto P28 (some k0) = cto P13 (some k0)) (ex34 : oI P28 2 k0 = x34) (c35_0 : ¬ x34.toInt = 37) (c35_1 : ¬ x34.toInt = 42) (c35_2 : x34.toInt = 43) : 0 + (13 * cto κ.2.2.2.2 y1) + (13 * cto P13 y2) + 7 ≤ 13 * cto κ.2.2.2.2 (some k0) := by
  first | assumption | omega | (subst_vars; omega) | trivial
-- room @140
theorem vX8_combined_40 (κ : KS) (k0 : Nat) (y1 : Option Nat) (y2 : Option Nat) (y3 : Option Nat) (P13 : PL) (P28 : PL) (x34 : Int32) (kdy1 : 1 + cto κ.2.2.2.2 y1 + cto κ.2.2.2.2 y2 + cto κ.2.2.2.2 y3 ≤ cto κ.2.2.2.2 (some k0)) (kc14 : cto P13 y1 = cto κ.2.2.2.2 y1) (kc15 : cto P13 y2 = cto κ.2.2.2.2 y2) (kc16 : cto P13 y3 = cto κ.2.2.2.2 y3) (kc17 : cto P13 (some k0) = cto κ.2.2.2.2 (some k0)) (kc29 : cto P28 y1 = cto P13 y1) (kc30 : cto P28 y2 = cto P13 y2) (kc31 : cto P28 y3 = cto P13 y3) (kc32 : cto P28 (some k0) = cto P13 (some k0)) (ex34 : oI P28 2 k0 = x34) (c35_0 : ¬ x34.toInt = 37) (c35_1 : ¬ x34.toInt = 42) (c35_2 : x34.toInt = 43) : 0 + (120 * cto κ.2.2.2.2 y1) + (120 * cto P13 y2) + 57 ≤ 120 * cto κ.2.2.2.2 (some k0) := by
  first | assumption | omega | (subst_vars; omega) | trivial
-- grow @143
theorem vX8_combined_41 (κ : KS) (k0 : Nat) (y1 : Option Nat) (y2 : Option Nat) (y3 : Option Nat) (P13 : PL) (P28 : PL) (x34 : Int32) (P52 : PL) (kdy1 : 1 + cto κ.2.2.2.2 y1 + cto κ.2.2.2.2 y2 + cto κ.2.2.2.2 y3 ≤ cto κ.2.2.2.2 (some k0)) (kc14 : cto P13 y1 = cto κ.2.2.2.2 y1) (kc15 : cto P13 y2 = cto κ.2.2.2.2 y2) (kc16 : cto P13 y3 = cto κ.2.2.2.2 y3) (kc17 : cto P13 (some k0) = cto κ.2.2.2.2 (some k0)) (kc29 : cto P28 y1 = cto P13 y1) (kc30 : cto P28 y2 = cto P13 y2) (kc31 : cto P28 y3 = cto P13 y3) (kc32 : cto P28 (some k0) = cto P13 (some k0)) (ex34 : oI P28 2 k0 = x34) (c35_0 : ¬ x34.toInt = 37) (c35_1 : ¬ x34.toInt = 42) (c35_2 : x34.toInt = 43) (kc53 : cto P52 y1 = cto P28 y1) (kc54 : cto P52 y2 = cto P28 y2) (kc55 : cto P52 y3 = cto P28 y3) (kc56 : cto P52 (some k0) = cto P28 (some k0)) : 0 + (13 * cto κ.2.2.2.2 y1) + (13 * cto P13 y2) + 7 ≤ 13 * cto κ.2.2.2.2 (some k0) := by
  first | assumption | omega | (subst_vars; omega) | trivial
-- grow @143
theorem vX8_combined_42 (κ : KS) (k0 : Nat) (y1 : Option Nat) (y2 : Option Nat) (y3 : Option Nat) (P13 : PL) (P28 : PL) (x34 : Int32) (P52 : PL) (kdy1 : 1 + cto κ.2.2.2.2 y1 + cto κ.2.2.2.2 y2 + cto κ.2.2.2.2 y3 ≤ cto κ.2.2.2.2 (some k0)) (kc14 : cto P13 y1 = cto κ.2.2.2.2 y1) (kc15 : cto P13 y2 = cto κ.2.2.2.2 y2) (kc16 : cto P13 y3 = cto κ.2.2.2.2 y3) (kc17 : cto P13 (some k0) = cto κ.2.2.2.2 (some k0)) (kc29 : cto P28 y1 = cto P13 y1) (kc30 : cto P28 y2 = cto P13 y2) (kc31 : cto P28 y3 = cto P13 y3) (kc32 : cto P28 (some k0) = cto P13 (some k0)) (ex34 : oI P28 2 k0 = x34) (c35_0 : ¬ x34.toInt = 37) (c35_1 : ¬ x34.toInt = 42) (c35_2 : x34.toInt = 43) (kc53 : cto P52 y1 = cto P28 y1) (kc54 : cto P52 y2 = cto P28 y2) (kc55 : cto P52 y3 = cto P28 y3) (kc56 : cto P52 (some k0) = cto P28 (some k0)) : 0 + (120 * cto κ.2.2.2.2 y1) + (120 * cto P13 y2) + 57 ≤ 120 * cto κ.2.2.2.2 (some k0) := by
  first | assumption | omega | (subst_vars; omega) | trivial
-- growm @143
theorem vX8_combined_43 (κ : KS) (k0 : Nat) (y1 : Option Nat) (y2 : Option Nat) (y3 : Option Nat) (P13 : PL) (P28 : PL) (x34 : Int32) (P52 : PL) (kdy1 : 1 + cto κ.2.2.2.2 y1 + cto κ.2.2.2.2 y2 + cto κ.2.2.2.2 y3 ≤ cto κ.2.2.2.2 (some k0)) (kc14 : cto P13 y1 = cto κ.2.2.2.2 y1) (kc15 : cto P13 y2 = cto κ.2.2.2.2 y2) (kc16 : cto P13 y3 = cto κ.2.2.2.2 y3) (kc17 : cto P13 (some k0) = cto κ.2.2.2.2 (some k0)) (kc29 : cto P28 y1 = cto P13 y1) (kc30 : cto P28 y2 = cto P13 y2) (kc31 : cto P28 y3 = cto P13 y3) (kc32 : cto P28 (some k0) = cto P13 (some k0)) (ex34 : oI P28 2 k0 = x34) (c35_0 : ¬ x34.toInt = 37) (c35_1 : ¬ x34.toInt = 42) (c35_2 : x34.toInt = 43) (kc53 : cto P52 y1 = cto P28 y1) (kc54 : cto P52 y2 = cto P28 y2) (kc55 : cto P52 y3 = cto P28 y3) (kc56 : cto P52 (some k0) = cto P28 (some k0)) : 13 * cto κ.2.2.2.2 (some k0) ≤ 13 * cto κ.2.2.2.2 (some k0) := by
  first | assumption | omega | (subst_vars; omega) | trivial
-- growm @143
theorem vX8_combined_44 (κ : KS) (k0 : Nat) (y1 : Option Nat) (y2 : Option Nat) (y3 : Option Nat) (P13 : PL) (P28 : PL) (x34 : Int32) (P52 : PL) (kdy1 : 1 + cto κ.2.2.2.2 y1 + cto κ.2.2.2.2 y2 + cto κ.2.2.2.2 y3 ≤ cto κ.2.2.2.2 (some k0)) (kc14 : cto P13 y1 = cto κ.2.2.2.2 y1) (kc15 : cto P13 y2 = cto κ.2.2.2.2 y2) (kc16 : cto P13 y3 = cto κ.2.2.2.2 y3) (kc17 : cto P13 (some k0) = cto κ.2.2.2.2 (some k0)) (kc29 : cto P28 y1 = cto P13 y1) (kc30 : cto P28 y2 = cto P13 y2) (kc31 : cto P28 y3 = cto P13 y3) (kc32 : cto P28 (some k0) = cto P13 (some k0)) (ex34 : oI P28 2 k0 = x34) (c35_0 : ¬ x34.toInt = 37) (c35_1 : ¬ x34.toInt = 42) (c35_2 : x34.toInt = 43) (kc53 : cto P52 y1 = cto P28 y1) (kc54 : cto P52 y2 = cto P28 y2) (kc55 : cto P52 y3 = cto P28 y3) (kc56 : cto P52 (some k0) = cto P28 (some k0)) : 120 * cto κ.2.2.2.2 (some k0) ≤ 120 * cto κ.2.2.2.2 (some k0) := by
  first | assumption | omega | (subst_vars; omega) | trivial
-- pre:X8_calculate@152 @152
theorem vX8_combined_45 (κ : KS) (k0 : Nat) (y1 : Option Nat) (y2 : Option Nat) (y3 : Option Nat) (P13 : PL) (P28 : PL) (x34 : Int32) (kdy1 : 1 + cto κ.2.2.2.2 y1 + cto κ.2.2.2.2 y2 + cto κ.2.2.2.2 y3 ≤ cto κ.2.2.2.2 (some k0)) (kc14 : cto P13 y1 = cto κ.2.2.2.2 y1) (kc15 : cto P13 y2 = cto κ.2.2.2.2 y2) (kc16 : cto P13 y3 = cto κ.2.2.2.2 y3) (kc17 : cto P13 (some k0) = cto κ.2.2.2.2 (some k0)) (kc29 : cto P28 y1 = cto P13 y1) (kc30 : cto P28 y2 = cto P13 y2) (kc31 : cto P28 y3 = cto P13 y3) (kc32 : cto P28 (some k0) = cto P13 (some k0)) (ex34 : oI P28 2 k0 = x34) (c35_0 : ¬ x34.toInt = 37) (c35_1 : ¬ x34.toInt = 42) (c35_2 : ¬ x34.toInt = 43) (c35_3 : x34.toInt = 45) : (x34.toInt = 37 ∨ x34.toInt = 42 ∨ x34.toInt = 43 ∨ x34.toInt = 45 ∨ x34.toInt = 47) := by
  first | assumption | omega | (subst_vars; omega) | trivial
-- room @152
theorem vX8_combined_46 (κ : KS) (k0 : Nat) (y1 : Option Nat) (y2 : Option Nat) (y3 : Option Nat) (P13 : PL) (P28 : PL) (x34 : Int32) (kdy1 : 1 + cto κ.2.2.2.2 y1 + cto κ.2.2.2.2 y2 + cto κ.2.2.2.2 y3 ≤ cto κ.2.2.2.2 (some k0)) (kc14 : cto P13 y1 = cto κ.2.2.2.2 y1) (kc15 : cto P13 y2 = cto κ.2.2.2.2 y2) (kc16 : cto P13 y3 = cto κ.2.2.2.2 y3) (kc17 : cto P13 (some k0) = cto κ.2.2.2.2 (some k0)) (kc29 : cto P28 y1 = cto P13 y1) (kc30 : cto P28 y2 = cto P13 y2) (kc31 : cto P28 y3 = cto P13 y3) (kc32 : cto P28 (some k0) = cto P13 (some k0)) (ex34 : oI P28 2 k0 = x34) (c35_0 : ¬ x34.toInt = 37) (c35_1 : ¬ x34.toInt = 42) (c35_2 : ¬ x34.toInt = 43) (c35_3 : x34.toInt = 45) : 0 + (13 * cto κ.2.2.2.2 y1) + (13 * cto P13 y2) + 1 ≤ 13 * cto κ.2.2.2.2 (some k0) := by
  first | assumption | omega | (subst_vars; omega) | trivial
-- room @152
theorem vX8_combined_47 (κ : KS) (k0 : Nat) (y1 : Option Nat) (y2 : Option Nat) (y3 : Option Nat) (P13 : PL) (P28 : PL) (x34 : Int32) (kdy1 : 1 + cto κ.2.2.2.2 y1 + cto κ.2.2.2.2 y2 + cto κ.2.2.2.2 y3 ≤ cto κ.2.2.2.2 (some k0)) (kc14 : cto P13 y1 = cto κ.2.2.2.2 y1) (kc15 : cto P13 y2 = cto κ.2.2.2.2 y2) (kc16 : cto P13 y3 = cto κ.2.2.2.2 y3) (kc17 : cto P13 (some k0) = cto κ.2.2.2.2 (some k0)) (kc29 : cto P28 y1 = cto P13 y1) (kc30 : cto P28 y2 = cto P13 y2) (kc31 : cto P28 y3 = cto P13 y3) (kc32 : cto P28 (some k0) = cto P13 (some k0)) (ex34 : oI P28 2 k0 = x34) (c35_0 : ¬ x34.toInt = 37) (c35_1 : ¬ x34.toInt = 42) (c35_2 : ¬ x34.toInt = 43) (c35_3 : x34.toInt = 45) : 0 + (120 * cto κ.2.2.2.2 y1) + (120 * cto P13 y2) + 5 ≤ 120 * cto κ.2.2.2.2 (some k0) := by
  first | assumption | omega | (subst_vars; omega) | trivial
-- grow @155
theorem vX8_combined_48 (κ : KS) (k0 : Nat) (y1 : Option Nat) (y2 : Option Nat) (y3 : Option Nat) (P13 : PL) (P28 : PL) (x34 : Int32) (P59 : PL) (kdy1 : 1 + cto κ.2.2.2.2 y1 + cto κ.2.2.2.2 y2 + cto κ.2.2.2.2 y3 ≤ cto κ.2.2.2.2 (some k0)) (kc14 : cto P13 y1 = cto κ.2.2.2.2 y1) (kc15 : cto P13 y2 = cto κ.2.2.2.2 y2) (kc16 : cto P13 y3 = cto κ.2.2.2.2 y3) (kc17 : cto P13 (some k0) = cto κ.2.2.2.2 (some k0)) (kc29 : cto P28 y1 = cto P13 y1) (kc30 : cto P28 y2 = cto P13 y2) (kc31 : cto P28 y3 = cto P13 y3) (kc32 : cto P28 (some k0) = cto P13 (some k0)) (ex34 : oI P28 2 k0 = x34) (c35_0 : ¬ x34.toInt = 37) (c35_1 : ¬ x34.toInt = 42) (c35_2 : ¬ x34.toInt = 43) (c35_3 : x34.toInt = 45) (kc60 : cto P59 y1 = cto P28 y1) (kc61 : cto P59 y2 = cto P28 y2) (kc62 : cto P59 y3 = cto P28 y3) (kc63 : cto P59 (some k0) = cto P28 (some k0)) : 0 + (13 * cto κ.2.2.2.2 y1) + (13 * cto P13 y2) + 1 ≤ 13 * cto κ.2.2.2.2 (some k0) := by
  first | assumption | omega | (subst_vars; omega) | trivial
-- grow @155
theorem vX8_combined_49 (κ : KS) (k0 : Nat) (y1 : Option Nat) (y2 : Option Nat) (y3 : Option Nat) (P13 : PL) (P28 : PL) (x34 : Int32) (P59 : PL) (kdy1 : 1 + cto κ.2.2.2.2 y1 + cto κ.2.2.2.2 y2 + cto κ.2.2.2.2 y3 ≤ cto κ.2.2.2.2 (some k0)) (kc14 : cto P13 y1 = cto κ.2.2.2.2 y1) (kc15 : cto P13 y2 = cto κ.2.2.2.2 y2) (kc16 : cto P13 y3 = cto κ.2.2.2.2 y3) (kc17 : cto P13 (some k0) = cto κ.2.2.2.2 (some k0)) (kc29 : cto P28 y1 = cto P13 y1) (kc30 : cto P28 y2 = cto P13 y2) (kc31 : cto P28 y3 = cto P13 y3) (kc32 : cto P28 (some k0) = cto P13 (some k0)) (ex34 : oI P28 2 k0 = x34) (c35_0 : ¬ x34.toInt = 37) (c35_1 : ¬ x34.toInt = 42) (c35_2 : ¬ x34.toInt = 43) (c35_3 : x34.toInt = 45) (kc60 : cto P59 y1 = cto P28 y1) (kc61 : cto P59 y2 = cto P28 y2) (kc62 : cto P59 y3 = cto P28 y3) (kc63 : cto P59 (some k0) = cto P28 (some k0)) : 0 + (120 * cto κ.2.2.2.2 y1) + (120 * cto P13 y2) + 5 ≤ 120 * cto κ.2.2.2.2 (some k0) := by
  first | assumption | omega | (subst_vars; omega) | trivial
-- growm @155
theorem vX8_combined_50 (κ : KS) (k0 : Nat) (y1 : Option Nat) (y2 : Option Nat) (y3 : Option Nat) (P13 : PL) (P28 : PL) (x34 : Int32) (P59 : PL) (kdy1 : 1 + cto κ.2.2.2.2 y1 + cto κ.2.2.2.2 y2 + cto κ.2.2.2.2 y3 ≤ cto κ.2.2.2.2 (some k0)) (kc14 : cto P13 y1 = cto κ.2.2.2.2 y1) (kc15 : cto P13 y2 = cto κ.2.2.2.2 y2) (kc16 : cto P13 y3 = cto κ.2.2.2.2 y3) (kc17 : cto P13 (some k0) = cto κ.2.2.2.2 (some k0)) (kc29 : cto P28 y1 = cto P13 y1) (kc30 : cto P28 y2 = cto P13 y2) (kc31 : cto P28 y3 = cto P13 y3) (kc32 : cto P28 (some k0) = cto P13 (some k0)) (ex34 : oI P28 2 k0 = x34) (c35_0 : ¬ x34.toInt = 37) (c35_1 : ¬ x34.toInt = 42) (c35_2 : ¬ x34.toInt = 43) (c35_3 : x34.toInt = 45) (kc60 : cto P59 y1 = cto P28 y1) (kc61 : cto P59 y2 = cto P28 y2) (kc62 : cto P59 y3 = cto P28 y3) (kc63 : cto P59 (some k0) = cto P28 (some k0)) : 13 * cto κ.2.2.2.2 (some k0) ≤ 13 * cto κ.2.2.2.2 (some k0) := by
  first | assumption | omega | (subst_vars; omega) | trivial
-- growm @155
theorem vX8_combined_51 (κ : KS) (k0 : Nat) (y1 : Option Nat) (y2 : Option Nat) (y3 : Option Nat) (P13 : PL) (P28 : PL) (x34 : Int32) (P59 : PL) (kdy1 : 1 + cto κ.2.2.2.2 y1 + cto κ.2.2.2.2 y2 + cto κ.2.2.2.2 y3 ≤ cto κ.2.2.2.2 (some k0)) (kc14 : cto P13 y1 = cto κ.2.2.2.2 y1) (kc15 : cto P13 y2 = cto κ.2.2.2.2 y2) (kc16 : cto P13 y3 = cto κ.2.2.2.2 y3) (kc17 : cto P13 (some k0) = cto κ.2.2.2.2 (some k0)) (kc29 : cto P28 y1 = cto P13 y1) (kc30 : cto P28 y2 = cto P13 y2) (kc31 : cto P28 y3 = cto P13 y3) (kc32 : cto P28 (some k0) = cto P13 (some k0)) (ex34 : oI P28 2 k0 = x34) (c35_0 : ¬ x34.toInt = 37) (c35_1 : ¬ x34.toInt = 42) (c35_2 : ¬ x34.toInt = 43) (c35_3 : x34.toInt = 45) (kc60 : cto P59 y1 = cto P28 y1) (kc61 : cto P59 y2 = cto P28 y2) (kc62 : cto P59 y3 = cto P28 y3) (kc63 : cto P59 (some k0) = cto P28 (some k0)) : 120 * cto κ.2.2.2.2 (some k0) ≤ 120 * cto κ.2.2.2.2 (some k0) := by
  first | assumption | omega | (subst_vars; omega) | trivial
-- pre:X8_calculate@152 @152
theorem vX8_combined_52 (κ : KS) (k0 : Nat) (y1 : Option Nat) (y2 : Option Nat) (y3 : Option Nat) (P13 : PL) (P28 : PL) (x34 : Int32) (kdy1 : 1 + cto κ.2.2.2.2 y1 + cto κ.2.2.2.2 y2 + cto κ.2.2.2.2 y3 ≤ cto κ.2.2.2.2 (some k0)) (kc14 : cto P13 y1 = cto κ.2.2.2.2 y1) (kc15 : cto P13 y2 = cto κ.2.2.2.2 y2) (kc16 : cto P13 y3 = cto κ.2.2.2.2 y3) (kc17 : cto P13 (some k0) = cto κ.2.2.2.2 (some k0)) (kc29 : cto P28 y1 = cto P13 y1) (kc30 : cto P28 y2 = cto P13 y2) (kc31 : cto P28 y3 = cto P13 y3) (kc32 : cto P28 (some k0) = cto P13 (some k0)) (ex34 : oI P28 2 k0 = x34) (c35_0 : ¬ x34.toInt = 37) (c35_1 : ¬ x34.toInt = 42) (c35_2 : ¬ x34.toInt = 43) (c35_3 : ¬ x34.toInt = 45) (c35_4 : x34.toInt = 47) : (x34.toInt = 37 ∨ x34.toInt = 42 ∨ x34.toInt = 43 ∨ x34.toInt = 45 ∨ x34.toInt = 47) := by
  first | assumption | omega | (subst_vars; omega) | trivial
-- room @152
theorem vX8_combined_53 (κ : KS) (k0 : Nat) (y1 : Option Nat) (y2 : Option Nat) (y3 : Option Nat) (P13 : PL) (P28 : PL) (x34 : Int32) (kdy1 : 1 + cto κ.2.2.2.2 y1 + cto κ.2.2.2.2 y2 + cto κ.2.2.2.2 y3 ≤ cto κ.2.2.2.2 (some k0)) (kc14 : cto P13 y1 = cto κ.2.2.2.2 y1) (kc15 : cto P13 y2 = cto κ.2.2.2.2 y2) (kc16 : cto P13 y3 = cto κ.2.2.2.2 y3) (kc17 : cto P13 (some k0) = cto κ.2.2.2.2 (some k0)) (kc29 : cto P28 y1 = cto P13 y1) (kc30 : cto P28 y2 = cto P13 y2) (kc31 : cto P28 y3 = cto P13 y3) (kc32 : cto P28 (some k0) = cto P13 (some k0)) (ex34 : oI P28 2 k0 = x34) (c35_0 : ¬ x34.toInt = 37) (c35_1 : ¬ x34.toInt = 42) (c35_2 : ¬ x34.toInt = 43) (c35_3 : ¬ x34.toInt = 45) (c35_4 : x34.toInt = 47) : 0 + (13 * cto κ.2.2.2.2 y1) + (13 * cto P13 y2) + 1 ≤ 13 * cto κ.2.2.2.2 (some k0) := by
  first | assumption | omega | (subst_vars; omega) | trivial
-- room @152
theorem vX8_combined_54 (κ : KS) (k0 : Nat) (y1 : Option Nat) (y2 : Option Nat) (y3 : Option Nat) (P13 : PL) (P28 : PL) (x34 : Int32) (kdy1 : 1 + cto κ.2.2.2.2 y1 + cto κ.2.2.2.2 y2 + cto κ.2.2.2.2 y3 ≤ cto κ.2.2.2.2 (some k0)) (kc14 : cto P13 y1 = cto κ.2.2.2.2 y1) (kc15 : cto P13 y2 = cto κ.2.2.2.2 y2) (kc16 : cto P13 y3 = cto κ.2.2.2.2 y3) (kc17 : cto P13 (some k0) = cto κ.2.2.2.2 (some k0)) (kc29 : cto P28 y1 = cto P13 y1) (kc30 : cto P28 y2 = cto P13 y2) (kc31 : cto P28 y3 = cto P13 y3) (kc32 : cto P28 (some k0) = cto P13 (some k0)) (ex34 : oI P28 2 k0 = x34) (c35_0 : ¬ x34.toInt = 37) (c35_1 : ¬ x34.toInt = 42) (c35_2 : ¬ x34.toInt = 43) (c35_3 : ¬ x34.toInt = 45) (c35_4 : x34.toInt = 47) : 0 + (120 * cto κ.2.2.2.2 y1) + (120 * cto P13 y2) + 5 ≤ 120 * cto κ.2.2.2.2 (some k0) := by
  first | assumption | omega | (subst_vars; omega) | trivial
-- grow @155
theorem vX8_combined_55 (κ : KS) (k0 : Nat) (y1 : Option Nat) (y2 : Option Nat) (y3 : Option Nat) (P13 : PL) (P28 : PL) (x34 : Int32) (P66 : PL) (kdy1 : 1 + cto κ.2.2.2.2 y1 + cto κ.2.2.2.2 y2 + cto κ.2.2.2.2 y3 ≤ cto κ.2.2.2.2 (some k0)) (kc14 : cto P13 y1 = cto κ.2.2.2.2 y1) (kc15 : cto P13 y2 = cto κ.2.2.2.2 y2) (kc16 : cto P13 y3 = cto κ.2.2.2.2 y3) (kc17 : cto P13 (some k0) = cto κ.2.2.2.2 (some k0)) (kc29 : cto P28 y1 = cto P13 y1) (kc30 : cto P28 y2 = cto P13 y2) (kc31 : cto P28 y3 = cto P13 y3) (kc32 : cto P28 (some k0) = cto P13 (some k0)) (ex34 : oI P28 2 k0 = x34) (c35_0 : ¬ x34.toInt = 37) (c35_1 : ¬ x34.toInt = 42) (c35_2 : ¬ x34.toInt = 43) (c35_3 : ¬ x34.toInt = 45) (c35_4 : x34.toInt = 47) (kc67 : cto P66 y1 = cto P28 y1) (kc68 : cto P66 y2 = cto P28 y2) (kc69 : cto P66 y3 = cto P28 y3) (kc70 : cto P66 (some k0) = cto P28 (some k0)) : 0 + (13 * cto κ.2.2.2.2 y1) + (13 * cto P13 y2) + 1 ≤ 13 * cto κ.2.2.2.2 (some k0) := by
  first | assumption | omega | (subst_vars; omega) | trivial
-- grow @155
theorem vX8_combined_56 (κ : KS) (k0 : Nat) (y1 : Option Nat) (y2 : Option Nat) (y3 : Option Nat) (P13 : PL) (P28 : PL) (x34 : Int32) (P66 : PL) (kdy1 : 1 + cto κ.2.2.2.2 y1 + cto κ.2.2.2.2 y2 + cto κ.2.2.2.2 y3 ≤ cto κ.2.2.2.2 (some k0)) (kc14 : cto P13 y1 = cto κ.2.2.2.2 y1) (kc15 : cto P13 y2 = cto κ.2.2.2.2 y2) (kc16 : cto P13 y3 = cto κ.2.2.2.2 y3) (kc17 : cto P13 (some k0) = cto κ.2.2.2.2 (some k0)) (kc29 : cto P28 y1 = cto P13 y1) (kc30 : cto P28 y2 = cto P13 y2) (kc31 : cto P28 y3 = cto P13 y3) (kc32 : cto P28 (some k0) = cto P13 (some k0)) (ex34 : oI P28 2 k0 = x34) (c35_0 : ¬ x34.toInt = 37) (c35_1 : ¬ x34.toInt = 42) (c35_2 : ¬ x34.toInt = 43) (c35_3 : ¬ x34.toInt = 45) (c35_4 : x34.toInt = 47) (kc67 : cto P66 y1 = cto P28 y1) (kc68 : cto P66 y2 = cto P28 y2) (kc69 : cto P66 y3 = cto P28 y3) (kc70 : cto P66 (some k0) = cto P28 (some k0)) : 0 + (120 * cto κ.2.2.2.2 y1) + (120 * cto P13 y2) + 5 ≤ 120 * cto κ.2.2.2.2 (some k0) := by
  first | assumption | omega | (subst_vars; omega) | trivial
-- growm @155
theorem vX8_combined_57 (κ : KS) (k0 : Nat) (y1 : Option Nat) (y2 : Option Nat) (y3 : Option Nat) (P13 : PL) (P28 : PL) (x34 : Int32) (P66 : PL) (kdy1 : 1 + cto κ.2.2.2.2 y1 + cto κ.2.2.2.2 y2 + cto κ.2.2.2.2 y3 ≤ cto κ.2.2.2.2 (some k0)) (kc14 : cto P13 y1 = cto κ.2.2.2.2 y1) (kc15 : cto P13 y2 = cto κ.2.2.2.2 y2) (kc16 : cto P13 y3 = cto κ.2.2.2.2 y3) (kc17 : cto P13 (some k0) = cto κ.2.2.2.2 (some k0)) (kc29 : cto P28 y1 = cto P13 y1) (kc30 : cto P28 y2 = cto P13 y2) (kc31 : cto P28 y3 = cto P13 y3) (kc32 : cto P28 (some k0) = cto P13 (some k0)) (ex34 : oI P28 2 k0 = x34) (c35_0 : ¬ x34.toInt = 37) (c35_1 : ¬ x34.toInt = 42) (c35_2 : ¬ x34.toInt = 43) (c35_3 : ¬ x34.toInt = 45) (c35_4 : x34.toInt = 47) (kc67 : cto P66 y1 = cto P28 y1) (kc68 : cto P66 y2 = cto P28 y2) (kc69 : cto P66 y3 = cto P28 y3) (kc70 : cto P66 (some k0) = cto P28 (some k0)) : 13 * cto κ.2.2.2.2 (some k0) ≤ 13 * cto κ.2.2.2.2 (some k0) := by
  first | assumption | omega | (subst_vars; omega) | trivial
-- growm @155
theorem vX8_combined_58 (κ : KS) (k0 : Nat) (y1 : Option Nat) (y2 : Option Nat) (y3 : Option Nat) (P13 : PL) (P28 : PL) (x34 : Int32) (P66 : PL) (kdy1 : 1 + cto κ.2.2.2.2 y1 + cto κ.2.2.2.2 y2 + cto κ.2.2.2.2 y3 ≤ cto κ.2.2.2.2 (some k0)) (kc14 : cto P13 y1 = cto κ.2.2.2.2 y1) (kc15 : cto P13 y2 = cto κ.2.2.2.2 y2) (kc16 : cto P13 y3 = cto κ.2.2.2.2 y3) (kc17 : cto P13 (some k0) = cto κ.2.2.2.2 (some k0)) (kc29 : cto P28 y1 = cto P13 y1) (kc30 : cto P28 y2 = cto P13 y2) (kc31 : cto P28 y3 = cto P13 y3) (kc32 : cto P28 (some k0) = cto P13 (some k0)) (ex34 : oI P28 2 k0 = x34) (c35_0 : ¬ x34.toInt = 37) (c35_1 : ¬ x34.toInt = 42) (c35_2 : ¬ x34.toInt = 43) (c35_3 : ¬ x34.toInt = 45) (c35_4 : x34.toInt = 47) (kc67 : cto P66 y1 = cto P28 y1) (kc68 : cto P66 y2 = cto P28 y2) (kc69 : cto P66 y3 = cto P28 y3) (kc70 : cto P66 (some k0) = cto P28 (some k0)) : 120 * cto κ.2.2.2.2 (some k0) ≤ 120 * cto κ.2.2.2.2 (some k0) := by
  first | assumption | omega | (subst_vars; omega) | trivial
-- frames @121
theorem vX8_combined_59 (d : Nat)  : 2 + 1 ≤ 4 * d + 33 := by
  first | assumption | omega | (subst_vars; omega) | trivial
-- locals @121
theorem vX8_combined_60 (d : Nat)  : 8 + (2 + 11) + 44 ≤ 200 * d + 860 := by
  first | assumption | omega | (subst_vars; omega) | trivial
-- room @121
theorem vX8_combined_61 (κ : KS) (k0 : Nat) (y1 : Option Nat) (y2 : Option Nat) (y3 : Option Nat) (P13 : PL) (P28 : PL) (x34 : Int32) (kdy1 : 1 + cto κ.2.2.2.2 y1 + cto κ.2.2.2.2 y2 + cto κ.2.2.2.2 y3 ≤ cto κ.2.2.2.2 (some k0)) (kc14 : cto P13 y1 = cto κ.2.2.2.2 y1) (kc15 : cto P13 y2 = cto κ.2.2.2.2 y2) (kc16 : cto P13 y3 = cto κ.2.2.2.2 y3) (kc17 : cto P13 (some k0) = cto κ.2.2.2.2 (some k0)) (kc29 : cto P28 y1 = cto P13 y1) (kc30 : cto P28 y2 = cto P13 y2) (kc31 : cto P28 y3 = cto P13 y3) (kc32 : cto P28 (some k0) = cto P13 (some k0)) (ex34 : oI P28 2 k0 = x34) (c35_0 : ¬ x34.toInt = 37) (c35_1 : ¬ x34.toInt = 42) (c35_2 : ¬ x34.toInt = 43) (c35_3 : ¬ x34.toInt = 45) (c35_4 : ¬ x34.toInt = 47) (c35_5 : x34.toInt = 8509) : 0 + (13 * cto κ.2.2.2.2 y1) + (13 * cto P13 y2) + 0 ≤ 13 * cto κ.2.2.2.2 (some k0) := by
  first | assumption | omega | (subst_vars; omega) | trivial
-- room @121
theorem vX8_combined_62 (κ : KS) (k0 : Nat) (y1 : Option Nat) (y2 : Option Nat) (y3 : Option Nat) (P13 : PL) (P28 : PL) (x34 : Int32) (kdy1 : 1 + cto κ.2.2.2.2 y1 + cto κ.2.2.2.2 y2 + cto κ.2.2.2.2 y3 ≤ cto κ.2.2.2.2 (some k0)) (kc14 : cto P13 y1 = cto κ.2.2.2.2 y1) (kc15 : cto P13 y2 = cto κ.2.2.2.2 y2) (kc16 : cto P13 y3 = cto κ.2.2.2.2 y3) (kc17 : cto P13 (some k0) = cto κ.2.2.2.2 (some k0)) (kc29 : cto P28 y1 = cto P13 y1) (kc30 : cto P28 y2 = cto P13 y2) (kc31 : cto P28 y3 = cto P13 y3) (kc32 : cto P28 (some k0) = cto P13 (some k0)) (ex34 : oI P28 2 k0 = x34) (c35_0 : ¬ x34.toInt = 37) (c35_1 : ¬ x34.toInt = 42) (c35_2 : ¬ x34.toInt = 43) (c35_3 : ¬ x34.toInt = 45) (c35_4 : ¬ x34.toInt = 47) (c35_5 : x34.toInt = 8509) : 0 + (120 * cto κ.2.2.2.2 y1) + (120 * cto P13 y2) + 0 ≤ 120 * cto κ.2.2.2.2 (some k0) := by
  first | assumption | omega | (subst_vars; omega) | trivial
-- locals @132
theorem vX8_combined_63 (d : Nat)  : 8 + (1 + 11) + 46 ≤ 200 * d + 860 := by
  first | assumption | omega | (subst_vars; omega) | trivial
-- room @132
theorem vX8_combined_64 (κ : KS) (k0 : Nat) (y1 : Option Nat) (y2 : Option Nat) (y3 : Option Nat) (P13 : PL) (P28 : PL) (x34 : Int32) (kdy1 : 1 + cto κ.2.2.2.2 y1 + cto κ.2.2.2.2 y2 + cto κ.2.2.2.2 y3 ≤ cto κ.2.2.2.2 (some k0)) (kc14 : cto P13 y1 = cto κ.2.2.2.2 y1) (kc15 : cto P13 y2 = cto κ.2.2.2.2 y2) (kc16 : cto P13 y3 = cto κ.2.2.2.2 y3) (kc17 : cto P13 (some k0) = cto κ.2.2.2.2 (some k0)) (kc29 : cto P28 y1 = cto P13 y1) (kc30 : cto P28 y2 = cto P13 y2) (kc31 : cto P28 y3 = cto P13 y3) (kc32 : cto P28 (some k0) = cto P13 (some k0)) (ex34 : oI P28 2 k0 = x34) (c35_0 : ¬ x34.toInt = 37) (c35_1 : ¬ x34.toInt = 42) (c35_2 : ¬ x34.toInt = 43) (c35_3 : ¬ x34.toInt = 45) (c35_4 : ¬ x34.toInt = 47) (c35_5 : x34.toInt = 8509) : 0 + (13 * cto κ.2.2.2.2 y1) + (13 * cto P13 y2) + 0 + 1 ≤ 13 * cto κ.2.2.2.2 (some k0) := by
  first | assumption | omega | (subst_vars; omega) | trivial
-- room @132
theorem vX8_combined_65 (κ : KS) (k0 : Nat) (y1 : Option Nat) (y2 : Option Nat) (y3 : Option Nat) (P13 : PL) (P28 : PL) (x34 : Int32) (kdy1 : 1 + cto κ.2.2.2.2 y1 + cto κ.2.2.2.2 y2 + cto κ.2.2.2.2 y3 ≤ cto κ.2.2.2.2 (some k0)) (kc14 : cto P13 y1 = cto κ.2.2.2.2 y1) (kc15 : cto P13 y2 = cto κ.2.2.2.2 y2) (kc16 : cto P13 y3 = cto κ.2.2.2.2 y3) (kc17 : cto P13 (some k0) = cto κ.2.2.2.2 (some k0)) (kc29 : cto P28 y1 = cto P13 y1) (kc30 : cto P28 y2 = cto P13 y2) (kc31 : cto P28 y3 = cto P13 y3) (kc32 : cto P28 (some k0) = cto P13 (some k0)) (ex34 : oI P28 2 k0 = x34) (c35_0 : ¬ x34.toInt = 37) (c35_1 : ¬ x34.toInt = 42) (c35_2 : ¬ x34.toInt = 43) (c35_3 : ¬ x34.toInt = 45) (c35_4 : ¬ x34.toInt = 47) (c35_5 : x34.toInt = 8509) : 0 + (120 * cto κ.2.2.2.2 y1) + (120 * cto P13 y2) + 0 + 5 ≤ 120 * cto κ.2.2.2.2 (some k0) := by
  first | assumption | omega | (subst_vars; omega) | trivial
-- grow @135
theorem vX8_combined_66 (κ : KS) (k0 : Nat) (y1 : Option Nat) (y2 : Option Nat) (y3 : Option Nat) (P13 : PL) (P28 : PL) (x34 : Int32) (P74 : PL) (kdy1 : 1 + cto κ.2.2.2.2 y1 + cto κ.2.2.2.2 y2 + cto κ.2.2.2.2 y3 ≤ cto κ.2.2.2.2 (some k0)) (kc14 : cto P13 y1 = cto κ.2.2.2.2 y1) (kc15 : cto P13 y2 = cto κ.2.2.2.2 y2) (kc16 : cto P13 y3 = cto κ.2.2.2.2 y3) (kc17 : cto P13 (some k0) = cto κ.2.2.2.2 (some k0)) (kc29 : cto P28 y1 = cto P13 y1) (kc30 : cto P28 y2 = cto P13 y2) (kc31 : cto P28 y3 = cto P13 y3) (kc32 : cto P28 (some k0) = cto P13 (some k0)) (ex34 : oI P28 2 k0 = x34) (c35_0 : ¬ x34.toInt = 37) (c35_1 : ¬ x34.toInt = 42) (c35_2 : ¬ x34.toInt = 43) (c35_3 : ¬ x34.toInt = 45) (c35_4 : ¬ x34.toInt = 47) (c35_5 : x34.toInt = 8509) (kc75 : cto P74 y1 = cto P28 y1) (kc76 : cto P74 y2 = cto P28 y2) (kc77 : cto P74 y3 = cto P28 y3) (kc78 : cto P74 (some k0) = cto P28 (some k0)) : 0 + (13 * cto κ.2.2.2.2 y1) + (13 * cto P13 y2) + 0 + 1 ≤ 13 * cto κ.2.2.2.2 (some k0) := by
  first | assumption | omega | (subst_vars; omega) | trivial
-- grow @135
theorem vX8_combined_67 (κ : KS) (k0 : Nat) (y1 : Option Nat) (y2 : Option Nat) (y3 : Option Nat) (P13 : PL) (P28 : PL) (x34 : Int32) (P74 : PL) (kdy1 : 1 + cto κ.2.2.2.2 y1 + cto κ.2.2.2.2 y2 + cto κ.2.2.2.2 y3 ≤ cto κ.2.2.2.2 (some k0)) (kc14 : cto P13 y1 = cto κ.2.2.2.2 y1) (kc15 : cto P13 y2 = cto κ.2.2.2.2 y2) (kc16 : cto P13 y3 = cto κ.2.2.2.2 y3) (kc17 : cto P13 (some k0) = cto κ.2.2.2.2 (some k0)) (kc29 : cto P28 y1 = cto P13 y1) (kc30 : cto P28 y2 = cto P13 y2) (kc31 : cto P28 y3 = cto P13 y3) (kc32 : cto P28 (some k0) = cto P13 (some k0)) (ex34 : oI P28 2 k0 = x34) (c35_0 : ¬ x34.toInt = 37) (c35_1 : ¬ x34.toInt = 42) (c35_2 : ¬ x34.toInt = 43) (c35_3 : ¬ x34.toInt = 45) (c35_4 : ¬ x34.toInt = 47) (c35_5 : x34.toInt = 8509) (kc75 : cto P74 y1 = cto P28 y1) (kc76 : cto P74 y2 = cto P28 y2) (kc77 : cto P74 y3 = cto P28 y3) (kc78 : cto P74 (some k0) = cto P28 (some k0)) : 0 + (120 * cto κ.2.2.2.2 y1) + (120 * cto P13 y2) + 0 + 5 ≤ 120 * cto κ.2.2.2.2 (some k0) := by
  first | assumption | omega | (subst_vars; omega) | trivial
-- growm @135
theorem vX8_combined_68 (κ : KS) (k0 : Nat) (y1 : Option Nat) (y2 : Option Nat) (y3 : Option Nat) (P13 : PL) (P28 : PL) (x34 : Int32) (P74 : PL) (kdy1 : 1 + cto κ.2.2.2.2 y1 + cto κ.2.2.2.2 y2 + cto κ.2.2.2.2 y3 ≤ cto κ.2.2.2.2 (some k0)) (kc14 : cto P13 y1 = cto κ.2.2.2.2 y1) (kc15 : cto P13 y2 = cto κ.2.2.2.2 y2) (kc16 : cto P13 y3 = cto κ.2.2.2.2 y3) (kc17 : cto P13 (some k0) = cto κ.2.2.2.2 (some k0)) (kc29 : cto P28 y1 = cto P13 y1) (kc30 : cto P28 y2 = cto P13 y2) (kc31 : cto P28 y3 = cto P13 y3) (kc32 : cto P28 (some k0) = cto P13 (some k0)) (ex34 : oI P28 2 k0 = x34) (c35_0 : ¬ x34.toInt = 37) (c35_1 : ¬ x34.toInt = 42) (c35_2 : ¬ x34.toInt = 43) (c35_3 : ¬ x34.toInt = 45) (c35_4 : ¬ x34.toInt = 47) (c35_5 : x34.toInt = 8509) (kc75 : cto P74 y1 = cto P28 y1) (kc76 : cto P74 y2 = cto P28 y2) (kc77 : cto P74 y3 = cto P28 y3) (kc78 : cto P74 (some k0) = cto P28 (some k0)) : 13 * cto κ.2.2.2.2 (some k0) ≤ 13 * cto κ.2.2.2.2 (some k0) := by
  first | assumption | omega | (subst_vars; omega) | trivial
-- growm @135
theorem vX8_combined_69 (κ : KS) (k0 : Nat) (y1 : Option Nat) (y2 : Option Nat) (y3 : Option Nat) (P13 : PL) (P28 : PL) (x34 : Int32) (P74 : PL) (kdy1 : 1 + cto κ.2.2.2.2 y1 + cto κ.2.2.2.2 y2 + cto κ.2.2.2.2 y3 ≤ cto κ.2.2.2.2 (some k0)) (kc14 : cto P13 y1 = cto κ.2.2.2.2 y1) (kc15 : cto P13 y2 = cto κ.2.2.2.2 y2) (kc16 : cto P13 y3 = cto κ.2.2.2.2 y3) (kc17 : cto P13 (some k0) = cto κ.2.2.2.2 (some k0)) (kc29 : cto P28 y1 = cto P13 y1) (kc30 : cto P28 y2 = cto P13 y2) (kc31 : cto P28 y3 = cto P13 y3) (kc32 : cto P28 (some k0) = cto P13 (some k0)) (ex34 : oI P28 2 k0 = x34) (c35_0 : ¬ x34.toInt = 37) (c35_1 : ¬ x34.toInt = 42) (c35_2 : ¬ x34.toInt = 43) (c35_3 : ¬ x34.toInt = 45) (c35_4 : ¬ x34.toInt = 47) (c35_5 : x34.toInt = 8509) (kc75 : cto P74 y1 = cto P28 y1) (kc76 : cto P74 y2 = cto P28 y2) (kc77 : cto P74 y3 = cto P28 y3) (kc78 : cto P74 (some k0) = cto P28 (some k0)) : 120 * cto κ.2.2.2.2 (some k0) ≤ 120 * cto κ.2.2.2.2 (some k0) := by
  first | assumption | omega | (subst_vars; omega) | trivial
-- grow @135
theorem vX8_combined_70 (κ : KS) (k0 : Nat) (y1 : Option Nat) (y2 : Option Nat) (y3 : Option Nat) (P13 : PL) (P28 : PL) (x34 : Int32) (P82 : PL) (kdy1 : 1 + cto κ.2.2.2.2 y1 + cto κ.2.2.2.2 y2 + cto κ.2.2.2.2 y3 ≤ cto κ.2.2.2.2 (some k0)) (kc14 : cto P13 y1 = cto κ.2.2.2.2 y1) (kc15 : cto P13 y2 = cto κ.2.2.2.2 y2) (kc16 : cto P13 y3 = cto κ.2.2.2.2 y3) (kc17 : cto P13 (some k0) = cto κ.2.2.2.2 (some k0)) (kc29 : cto P28 y1 = cto P13 y1) (kc30 : cto P28 y2 = cto P13 y2) (kc31 : cto P28 y3 = cto P13 y3) (kc32 : cto P28 (some k0) = cto P13 (some k0)) (ex34 : oI P28 2 k0 = x34) (c35_0 : ¬ x34.toInt = 37) (c35_1 : ¬ x34.toInt = 42) (c35_2 : ¬ x34.toInt = 43) (c35_3 : ¬ x34.toInt = 45) (c35_4 : ¬ x34.toInt = 47) (c35_5 : x34.toInt = 8509) (kc83 : cto P82 y1 = cto P28 y1) (kc84 : cto P82 y2 = cto P28 y2) (kc85 : cto P82 y3 = cto P28 y3) (kc86 : cto P82 (some k0) = cto P28 (some k0)) : 0 + (13 * cto κ.2.2.2.2 y1) + (13 * cto P13 y2) + 0 + 1 ≤ 13 * cto κ.2.2.2.2 (some k0) := by
  first | assumption | omega | (subst_vars; omega) | trivial
-- grow @135
theorem vX8_combined_71 (κ : KS) (k0 : Nat) (y1 : Option Nat) (y2 : Option Nat) (y3 : Option Nat) (P13 : PL) (P28 : PL) (x34 : Int32) (P82 : PL) (kdy1 : 1 + cto κ.2.2.2.2 y1 + cto κ.2.2.2.2 y2 + cto κ.2.2.2.2 y3 ≤ cto κ.2.2.2.2 (some k0)) (kc14 : cto P13 y1 = cto κ.2.2.2.2 y1) (kc15 : cto P13 y2 = cto κ.2.2.2.2 y2) (kc16 : cto P13 y3 = cto κ.2.2.2.2 y3) (kc17 : cto P13 (some k0) = cto κ.2.2.2.2 (some k0)) (kc29 : cto P28 y1 = cto P13 y1) (kc30 : cto P28 y2 = cto P13 y2) (kc31 : cto P28 y3 = cto P13 y3) (kc32 : cto P28 (some k0) = cto P13 (some k0)) (ex34 : oI P28 2 k0 = x34) (c35_0 : ¬ x34.toInt = 37) (c35_1 : ¬ x34.toInt = 42) (c35_2 : ¬ x34.toInt = 43) (c35_3 : ¬ x34.toInt = 45) (c35_4 : ¬ x34.toInt = 47) (c35_5 : x34.toInt = 8509) (kc83 : cto P82 y1 = cto P28 y1) (kc84 : cto P82 y2 = cto P28 y2) (kc85 : cto P82 y3 = cto P28 y3) (kc86 : cto P82 (some k0) = cto P28 (some k0)) : 0 + (120 * cto κ.2.2.2.2 y1) + (120 * cto P13 y2) + 0 + 5 ≤ 120 * cto κ.2.2.2.2 (some k0) := by
  first | assumption | omega | (subst_vars; omega) | trivial
-- growm @135
theorem vX8_combined_72 (κ : KS) (k0 : Nat) (y1 : Option Nat) (y2 : Option Nat) (y3 : Option Nat) (P13 : PL) (P28 : PL) (x34 : Int32) (P82 : PL) (kdy1 : 1 + cto κ.2.2.2.2 y1 + cto κ.2.2.2.2 y2 + cto κ.2.2.2.2 y3 ≤ cto κ.2.2.2.2 (some k0)) (kc14 : cto P13 y1 = cto κ.2.2.2.2 y1) (kc15 : cto P13 y2 = cto κ.2.2.2.2 y2) (kc16 : cto P13 y3 = cto κ.2.2.2.2 y3) (kc17 : cto P13 (some k0) = cto κ.2.2.2.2 (some k0)) (kc29 : cto P28 y1 = cto P13 y1) (kc30 : cto P28 y2 = cto P13 y2) (kc31 : cto P28 y3 = cto P13 y3) (kc32 : cto P28 (some k0) = cto P13 (some k0)) (ex34 : oI P28 2 k0 = x34) (c35_0 : ¬ x34.toInt = 37) (c35_1 : ¬ x34.toInt = 42) (c35_2 : ¬ x34.toInt = 43) (c35_3 : ¬ x34.toInt = 45) (c35_4 : ¬ x34.toInt = 47) (c35_5 : x34.toInt = 8509) (kc83 : cto P82 y1 = cto P28 y1) (kc84 : cto P82 y2 = cto P28 y2) (kc85 : cto P82 y3 = cto P28 y3) (kc86 : cto P82 (some k0) = cto P28 (some k0)) : 13 * cto κ.2.2.2.2 (some k0) ≤ 13 * cto κ.2.2.2.2 (some k0) := by
  first | assumption | omega | (subst_vars; omega) | trivial
-- growm @135
theorem vX8_combined_73 (κ : KS) (k0 : Nat) (y1 : Option Nat) (y2 : Option Nat) (y3 : Option Nat) (P13 : PL) (P28 : PL) (x34 : Int32) (P82 : PL) (kdy1 : 1 + cto κ.2.2.2.2 y1 + cto κ.2.2.2.2 y2 + cto κ.2.2.2.2 y3 ≤ cto κ.2.2.2.2 (some k0)) (kc14 : cto P13 y1 = cto κ.2.2.2.2 y1) (kc15 : cto P13 y2 = cto κ.2.2.2.2 y2) (kc16 : cto P13 y3 = cto κ.2.2.2.2 y3) (kc17 : cto P13 (some k0) = cto κ.2.2.2.2 (some k0)) (kc29 : cto P28 y1 = cto P13 y1) (kc30 : cto P28 y2 = cto P13 y2) (kc31 : cto P28 y3 = cto P13 y3) (kc32 : cto P28 (some k0) = cto P13 (some k0)) (ex34 : oI P28 2 k0 = x34) (c35_0 : ¬ x34.toInt = 37) (c35_1 : ¬ x34.toInt = 42) (c35_2 : ¬ x34.toInt = 43) (c35_3 : ¬ x34.toInt = 45) (c35_4 : ¬ x34.toInt = 47) (c35_5 : x34.toInt = 8509) (kc83 : cto P82 y1 = cto P28 y1) (kc84 : cto P82 y2 = cto P28 y2) (kc85 : cto P82 y3 = cto P28 y3) (kc86 : cto P82 (some k0) = cto P28 (some k0)) : 120 * cto κ.2.2.2.2 (some k0) ≤ 120 * cto κ.2.2.2.2 (some k0) := by
  first | assumption | omega | (subst_vars; omega) | trivial
-- room @111
theorem vX8_combined_74 (κ : KS) (k0 : Nat) (y1 : Option Nat) (y2 : Option Nat) (y3 : Option Nat) (P13 : PL) (P28 : PL) (x34 : Int32) (kdy1 : 1 + cto κ.2.2.2.2 y1 + cto κ.2.2.2.2 y2 + cto κ.2.2.2.2 y3 ≤ cto κ.2.2.2.2 (some k0)) (kc14 : cto P13 y1 = cto κ.2.2.2.2 y1) (kc15 : cto P13 y2 = cto κ.2.2.2.2 y2) (kc16 : cto P13 y3 = cto κ.2.2.2.2 y3) (kc17 : cto P13 (some k0) = cto κ.2.2.2.2 (some k0)) (kc29 : cto P28 y1 = cto P13 y1) (kc30 : cto P28 y2 = cto P13 y2) (kc31 : cto P28 y3 = cto P13 y3) (kc32 : cto P28 (some k0) = cto P13 (some k0)) (ex34 : oI P28 2 k0 = x34) (c35_0 : ¬ x34.toInt = 37) (c35_1 : ¬ x34.toInt = 42) (c35_2 : ¬ x34.toInt = 43) (c35_3 : ¬ x34.toInt = 45) (c35_4 : ¬ x34.toInt = 47) (c35_5 : ¬ x34.toInt = 8509) (c35_6 : x34.toInt = 15677) : 0 + (13 * cto κ.2.2.2.2 y1) + (13 * cto P13 y2) + 0 ≤ 13 * cto κ.2.2.2.2 (some k0) := by
  first | assumption | omega | (subst_vars; omega) | trivial
-- room @111
theorem vX8_combined_75 (κ : KS) (k0 : Nat) (y1 : Option Nat) (y2 : Option Nat) (y3 : Option Nat) (P13 : PL) (P28 : PL) (x34 : Int32) (kdy1 : 1 + cto κ.2.2.2.2 y1 + cto κ.2.2.2.2 y2 + cto κ.2.2.2.2 y3 ≤ cto κ.2.2.2.2 (some k0)) (kc14 : cto P13 y1 = cto κ.2.2.2.2 y1) (kc15 : cto P13 y2 = cto κ.2.2.2.2 y2) (kc16 : cto P13 y3 = cto κ.2.2.2.2 y3) (kc17 : cto P13 (some k0) = cto κ.2.2.2.2 (some k0)) (kc29 : cto P28 y1 = cto P13 y1) (kc30 : cto P28 y2 = cto P13 y2) (kc31 : cto P28 y3 = cto P13 y3) (kc32 : cto P28 (some k0) = cto P13 (some k0)) (ex34 : oI P28 2 k0 = x34) (c35_0 : ¬ x34.toInt = 37) (c35_1 : ¬ x34.toInt = 42) (c35_2 : ¬ x34.toInt = 43) (c35_3 : ¬ x34.toInt = 45) (c35_4 : ¬ x34.toInt = 47) (c35_5 : ¬ x34.toInt = 8509) (c35_6 : x34.toInt = 15677) : 0 + (120 * cto κ.2.2.2.2 y1) + (120 * cto P13 y2) + 0 ≤ 120 * cto κ.2.2.2.2 (some k0) := by
  first | assumption | omega | (subst_vars; omega) | trivial
-- room @114
theorem vX8_combined_76 (κ : KS) (k0 : Nat) (y1 : Option Nat) (y2 : Option Nat) (y3 : Option Nat) (P13 : PL) (P28 : PL) (x34 : Int32) (kdy1 : 1 + cto κ.2.2.2.2 y1 + cto κ.2.2.2.2 y2 + cto κ.2.2.2.2 y3 ≤ cto κ.2.2.2.2 (some k0)) (kc14 : cto P13 y1 = cto κ.2.2.2.2 y1) (kc15 : cto P13 y2 = cto κ.2.2.2.2 y2) (kc16 : cto P13 y3 = cto κ.2.2.2.2 y3) (kc17 : cto P13 (some k0) = cto κ.2.2.2.2 (some k0)) (kc29 : cto P28 y1 = cto P13 y1) (kc30 : cto P28 y2 = cto P13 y2) (kc31 : cto P28 y3 = cto P13 y3) (kc32 : cto P28 (some k0) = cto P13 (some k0)) (ex34 : oI P28 2 k0 = x34) (c35_0 : ¬ x34.toInt = 37) (c35_1 : ¬ x34.toInt = 42) (c35_2 : ¬ x34.toInt = 43) (c35_3 : ¬ x34.toInt = 45) (c35_4 : ¬ x34.toInt = 47) (c35_5 : ¬ x34.toInt = 8509) (c35_6 : x34.toInt = 15677) : 0 + (13 * cto κ.2.2.2.2 y1) + (13 * cto P13 y2) + 0 + 1 ≤ 13 * cto κ.2.2.2.2 (some k0) := by
  first | assumption | omega | (subst_vars; omega) | trivial
-- room @114
theorem vX8_combined_77 (κ : KS) (k0 : Nat) (y1 : Option Nat) (y2 : Option Nat) (y3 : Option Nat) (P13 : PL) (P28 : PL) (x34 : Int32) (kdy1 : 1 + cto κ.2.2.2.2 y1 + cto κ.2.2.2.2 y2 + cto κ.2.2.2.2 y3 ≤ cto κ.2.2.2.2 (some k0)) (kc14 : cto P13 y1 = cto κ.2.2.2.2 y1) (kc15 : cto P13 y2 = cto κ.2.2.2.2 y2) (kc16 : cto P13 y3 = cto κ.2.2.2.2 y3) (kc17 : cto P13 (some k0) = cto κ.2.2.2.2 (some k0)) (kc29 : cto P28 y1 = cto P13 y1) (kc30 : cto P28 y2 = cto P13 y2) (kc31 : cto P28 y3 = cto P13 y3) (kc32 : cto P28 (some k0) = cto P13 (some k0)) (ex34 : oI P28 2 k0 = x34) (c35_0 : ¬ x34.toInt = 37) (c35_1 : ¬ x34.toInt = 42) (c35_2 : ¬ x34.toInt = 43) (c35_3 : ¬ x34.toInt = 45) (c35_4 : ¬ x34.toInt = 47) (c35_5 : ¬ x34.toInt = 8509) (c35_6 : x34.toInt = 15677) : 0 + (120 * cto κ.2.2.2.2 y1) + (120 * cto P13 y2) + 0 + 5 ≤ 120 * cto κ.2.2.2.2 (some k0) := by
  first | assumption | omega | (subst_vars; omega) | trivial
-- grow @117
theorem vX8_combined_78 (κ : KS) (k0 : Nat) (y1 : Option Nat) (y2 : Option Nat) (y3 : Option Nat) (P13 : PL) (P28 : PL) (x34 : Int32) (P91 : PL) (kdy1 : 1 + cto κ.2.2.2.2 y1 + cto κ.2.2.2.2 y2 + cto κ.2.2.2.2 y3 ≤ cto κ.2.2.2.2 (some k0)) (kc14 : cto P13 y1 = cto κ.2.2.2.2 y1) (kc15 : cto P13 y2 = cto κ.2.2.2.2 y2) (kc16 : cto P13 y3 = cto κ.2.2.2.2 y3) (kc17 : cto P13 (some k0) = cto κ.2.2.2.2 (some k0)) (kc29 : cto P28 y1 = cto P13 y1) (kc30 : cto P28 y2 = cto P13 y2) (kc31 : cto P28 y3 = cto P13 y3) (kc32 : cto P28 (some k0) = cto P13 (some k0)) (ex34 : oI P28 2 k0 = x34) (c35_0 : ¬ x34.toInt = 37) (c35_1 : ¬ x34.toInt = 42) (c35_2 : ¬ x34.toInt = 43) (c35_3 : ¬ x34.toInt = 45) (c35_4 : ¬ x34.toInt = 47) (c35_5 : ¬ x34.toInt = 8509) (c35_6 : x34.toInt = 15677) (kc92 : cto P91 y1 = cto P28 y1) (kc93 : cto P91 y2 = cto P28 y2) (kc94 : cto P91 y3 = cto P28 y3) (kc95 : cto P91 (some k0) = cto P28 (some k0)) : 0 + (13 * cto κ.2.2.2.2 y1) + (13 * cto P13 y2) + 0 + 1 ≤ 13 * cto κ.2.2.2.2 (some k0) := by
  first | assumption | omega | (subst_vars; omega) | trivial
-- grow @117
theorem vX8_combined_79 (κ : KS) (k0 : Nat) (y1 : Option Nat) (y2 : Option Nat) (y3 : Option Nat) (P13 : PL) (P28 : PL) (x34 : Int32) (P91 : PL) (kdy1 : 1 + cto κ.2.2.2.2 y1 + cto κ.2.2.2.2 y2 + cto κ.2.2.2.2 y3 ≤ cto κ.2.2.2.2 (some k0)) (kc14 : cto P13 y1 = cto κ.2.2.2.2 y1) (kc15 : cto P13 y2 = cto κ.2.2.2.2 y2) (kc16 : cto P13 y3 = cto κ.2.2.2.2 y3) (kc17 : cto P13 (some k0) = cto κ.2.2.2.2 (some k0)) (kc29 : cto P28 y1 = cto P13 y1) (kc30 : cto P28 y2 = cto P13 y2) (kc31 : cto P28 y3 = cto P13 y3) (kc32 : cto P28 (some k0) = cto P13 (some k0)) (ex34 : oI P28 2 k0 = x34) (c35_0 : ¬ x34.toInt = 37) (c35_1 : ¬ x34.toInt = 42) (c35_2 : ¬ x34.toInt = 43) (c35_3 : ¬ x34.toInt = 45) (c35_4 : ¬ x34.toInt = 47) (c35_5 : ¬ x34.toInt = 8509) (c35_6 : x34.toInt = 15677) (kc92 : cto P91 y1 = cto P28 y1) (kc93 : cto P91 y2 = cto P28 y2) (kc94 : cto P91 y3 = cto P28 y3) (kc95 : cto P91 (some k0) = cto P28 (some k0)) : 0 + (120 * cto κ.2.2.2.2 y1) + (120 * cto P13 y2) + 0 + 5 ≤ 120 * cto κ.2.2.2.2 (some k0) := by
  first | assumption | omega | (subst_vars; omega) | trivial
-- growm @117
theorem vX8_combined_80 (κ : KS) (k0 : Nat) (y1 : Option Nat) (y2 : Option Nat) (y3 : Option Nat) (P13 : PL) (P28 : PL) (x34 : Int32) (P91 : PL) (kdy1 : 1 + cto κ.2.2.2.2 y1 + cto κ.2.2.2.2 y2 + cto κ.2.2.2.2 y3 ≤ cto κ.2.2.2.2 (some k0)) (kc14 : cto P13 y1 = cto κ.2.2.2.2 y1) (kc15 : cto P13 y2 = cto κ.2.2.2.2 y2) (kc16 : cto P13 y3 = cto κ.2.2.2.2 y3) (kc17 : cto P13 (some k0) = cto κ.2.2.2.2 (some k0)) (kc29 : cto P28 y1 = cto P13 y1) (kc30 : cto P28 y2 = cto P13 y2) (kc31 : cto P28 y3 = cto P13 y3) (kc32 : cto P28 (some k0) = cto P13 (some k0)) (ex34 : oI P28 2 k0 = x34) (c35_0 : ¬ x34.toInt = 37) (c35_1 : ¬ x34.toInt = 42) (c35_2 : ¬ x34.toInt = 43) (c35_3 : ¬ x34.toInt = 45) (c35_4 : ¬ x34.toInt = 47) (c35_5 : ¬ x34.toInt = 8509) (c35_6 : x34.toInt = 15677) (kc92 : cto P91 y1 = cto P28 y1) (kc93 : cto P91 y2 = cto P28 y2) (kc94 : cto P91 y3 = cto P28 y3) (kc95 : cto P91 (some k0) = cto P28 (some k0)) : 13 * cto κ.2.2.2.2 (some k0) ≤ 13 * cto κ.2.2.2.2 (some k0) := by
  first | assumption | omega | (subst_vars; omega) | trivial
-- growm @117
theorem vX8_combined_81 (κ : KS) (k0 : Nat) (y1 : Option Nat) (y2 : Option Nat) (y3 : Option Nat) (P13 : PL) (P28 : PL) (x34 : Int32) (P91 : PL) (kdy1 : 1 + cto κ.2.2.2.2 y1 + cto κ.2.2.2.2 y2 + cto κ.2.2.2.2 y3 ≤ cto κ.2.2.2.2 (some k0)) (kc14 : cto P13 y1 = cto κ.2.2.2.2 y1) (kc15 : cto P13 y2 = cto κ.2.2.2.2 y2) (kc16 : cto P13 y3 = cto κ.2.2.2.2 y3) (kc17 : cto P13 (some k0) = cto κ.2.2.2.2 (some k0)) (kc29 : cto P28 y1 = cto P13 y1) (kc30 : cto P28 y2 = cto P13 y2) (kc31 : cto P28 y3 = cto P13 y3) (kc32 : cto P28 (some k0) = cto P13 (some k0)) (ex34 : oI P28 2 k0 = x34) (c35_0 : ¬ x34.toInt = 37) (c35_1 : ¬ x34.toInt = 42) (c35_2 : ¬ x34.toInt = 43) (c35_3 : ¬ x34.toInt = 45) (c35_4 : ¬ x34.toInt = 47) (c35_5 : ¬ x34.toInt = 8509) (c35_6 : x34.toInt = 15677) (kc92 : cto P91 y1 = cto P28 y1) (kc93 : cto P91 y2 = cto P28 y2) (kc94 : cto P91 y3 = cto P28 y3) (kc95 : cto P91 (some k0) = cto P28 (some k0)) : 120 * cto κ.2.2.2.2 (some k0) ≤ 120 * cto κ.2.2.2.2 (some k0) := by
  first | assumption | omega | (subst_vars; omega) | trivial
-- frames @164
theorem vX8_combined_82 (d : Nat)  : 3 + 1 ≤ 4 * d + 33 := by
  first | assumption | omega | (subst_vars; omega) | trivial
-- locals @164
theorem vX8_combined_83 (d : Nat)  : 8 + (4 + 11) + 66 ≤ 200 * d + 860 := by
  first | assumption | omega | (subst_vars; omega) | trivial
-- room @164
theorem vX8_combined_84 (κ : KS) (k0 : Nat) (y1 : Option Nat) (y2 : Option Nat) (y3 : Option Nat) (P13 : PL) (P28 : PL) (x34 : Int32) (kdy1 : 1 + cto κ.2.2.2.2 y1 + cto κ.2.2.2.2 y2 + cto κ.2.2.2.2 y3 ≤ cto κ.2.2.2.2 (some k0)) (kc14 : cto P13 y1 = cto κ.2.2.2.2 y1) (kc15 : cto P13 y2 = cto κ.2.2.2.2 y2) (kc16 : cto P13 y3 = cto κ.2.2.2.2 y3) (kc17 : cto P13 (some k0) = cto κ.2.2.2.2 (some k0)) (kc29 : cto P28 y1 = cto P13 y1) (kc30 : cto P28 y2 = cto P13 y2) (kc31 : cto P28 y3 = cto P13 y3) (kc32 : cto P28 (some k0) = cto P13 (some k0)) (ex34 : oI P28 2 k0 = x34) (c35_0 : ¬ x34.toInt = 37) (c35_1 : ¬ x34.toInt = 42) (c35_2 : ¬ x34.toInt = 43) (c35_3 : ¬ x34.toInt = 45) (c35_4 : ¬ x34.toInt = 47) (c35_5 : ¬ x34.toInt = 8509) (c35_6 : ¬ x34.toInt = 15677) : 0 + (13 * cto κ.2.2.2.2 y1) + (13 * cto P13 y2) + 1 ≤ 13 * cto κ.2.2.2.2 (some k0) := by
  first | assumption | omega | (subst_vars; omega) | trivial
-- room @164
theorem vX8_combined_85 (κ : KS) (k0 : Nat) (y1 : Option Nat) (y2 : Option Nat) (y3 : Option Nat) (P13 : PL) (P28 : PL) (x34 : Int32) (kdy1 : 1 + cto κ.2.2.2.2 y1 + cto κ.2.2.2.2 y2 + cto κ.2.2.2.2 y3 ≤ cto κ.2.2.2.2 (some k0)) (kc14 : cto P13 y1 = cto κ.2.2.2.2 y1) (kc15 : cto P13 y2 = cto κ.2.2.2.2 y2) (kc16 : cto P13 y3 = cto κ.2.2.2.2 y3) (kc17 : cto P13 (some k0) = cto κ.2.2.2.2 (some k0)) (kc29 : cto P28 y1 = cto P13 y1) (kc30 : cto P28 y2 = cto P13 y2) (kc31 : cto P28 y3 = cto P13 y3) (kc32 : cto P28 (some k0) = cto P13 (some k0)) (ex34 : oI P28 2 k0 = x34) (c35_0 : ¬ x34.toInt = 37) (c35_1 : ¬ x34.toInt = 42) (c35_2 : ¬ x34.toInt = 43) (c35_3 : ¬ x34.toInt = 45) (c35_4 : ¬ x34.toInt = 47) (c35_5 : ¬ x34.toInt = 8509) (c35_6 : ¬ x34.toInt = 15677) : 0 + (120 * cto κ.2.2.2.2 y1) + (120 * cto P13 y2) + 5 ≤ 120 * cto κ.2.2.2.2 (some k0) := by
  first | assumption | omega | (subst_vars; omega) | trivial
-- grow @167
theorem vX8_combined_86 (κ : KS) (k0 : Nat) (y1 : Option Nat) (y2 : Option Nat) (y3 : Option Nat) (P13 : PL) (P28 : PL) (x34 : Int32) (P100 : PL) (kdy1 : 1 + cto κ.2.2.2.2 y1 + cto κ.2.2.2.2 y2 + cto κ.2.2.2.2 y3 ≤ cto κ.2.2.2.2 (some k0)) (kc14 : cto P13 y1 = cto κ.2.2.2.2 y1) (kc15 : cto P13 y2 = cto κ.2.2.2.2 y2) (kc16 : cto P13 y3 = cto κ.2.2.2.2 y3) (kc17 : cto P13 (some k0) = cto κ.2.2.2.2 (some k0)) (kc29 : cto P28 y1 = cto P13 y1) (kc30 : cto P28 y2 = cto P13 y2) (kc31 : cto P28 y3 = cto P13 y3) (kc32 : cto P28 (some k0) = cto P13 (some k0)) (ex34 : oI P28 2 k0 = x34) (c35_0 : ¬ x34.toInt = 37) (c35_1 : ¬ x34.toInt = 42) (c35_2 : ¬ x34.toInt = 43) (c35_3 : ¬ x34.toInt = 45) (c35_4 : ¬ x34.toInt = 47) (c35_5 : ¬ x34.toInt = 8509) (c35_6 : ¬ x34.toInt = 15677) (kc101 : cto P100 y1 = cto P28 y1) (kc102 : cto P100 y2 = cto P28 y2) (kc103 : cto P100 y3 = cto P28 y3) (kc104 : cto P100 (some k0) = cto P28 (some k0)) : 0 + (13 * cto κ.2.2.2.2 y1) + (13 * cto P13 y2) + 1 ≤ 13 * cto κ.2.2.2.2 (some k0) := by
  first | assumption | omega | (subst_vars; omega) | trivial
-- grow @167
theorem vX8_combined_87 (κ : KS) (k0 : Nat) (y1 : Option Nat) (y2 : Option Nat) (y3 : Option Nat) (P13 : PL) (P28 : PL) (x34 : Int32) (P100 : PL) (kdy1 : 1 + cto κ.2.2.2.2 y1 + cto κ.2.2.2.2 y2 + cto κ.2.2.2.2 y3 ≤ cto κ.2.2.2.2 (some k0)) (kc14 : cto P13 y1 = cto κ.2.2.2.2 y1) (kc15 : cto P13 y2 = cto κ.2.2.2.2 y2) (kc16 : cto P13 y3 = cto κ.2.2.2.2 y3) (kc17 : cto P13 (some k0) = cto κ.2.2.2.2 (some k0)) (kc29 : cto P28 y1 = cto P13 y1) (kc30 : cto P28 y2 = cto P13 y2) (kc31 : cto P28 y3 = cto P13 y3) (kc32 : cto P28 (some k0) = cto P13 (some k0)) (ex34 : oI P28 2 k0 = x34) (c35_0 : ¬ x34.toInt = 37) (c35_1 : ¬ x34.toInt = 42) (c35_2 : ¬ x34.toInt = 43) (c35_3 : ¬ x34.toInt = 45) (c35_4 : ¬ x34.toInt = 47) (c35_5 : ¬ x34.toInt = 8509) (c35_6 : ¬ x34.toInt = 15677) (kc101 : cto P100 y1 = cto P28 y1) (kc102 : cto P100 y2 = cto P28 y2) (kc103 : cto P100 y3 = cto P28 y3) (kc104 : cto P100 (some k0) = cto P28 (some k0)) : 0 + (120 * cto κ.2.2.2.2 y1) + (120 * cto P13 y2) + 5 ≤ 120 * cto κ.2.2.2.2 (some k0) := by
  first | assumption | omega | (subst_vars; omega) | trivial
-- growm @167
theorem vX8_combined_88 (κ : KS) (k0 : Nat) (y1 : Option Nat) (y2 : Option Nat) (y3 : Option Nat) (P13 : PL) (P28 : PL) (x34 : Int32) (P100 : PL) (kdy1 : 1 + cto κ.2.2.2.2 y1 + cto κ.2.2.2.2 y2 + cto κ.2.2.2.2 y3 ≤ cto κ.2.2.2.2 (some k0)) (kc14 : cto P13 y1 = cto κ.2.2.2.2 y1) (kc15 : cto P13 y2 = cto κ.2.2.2.2 y2) (kc16 : cto P13 y3 = cto κ.2.2.2.2 y3) (kc17 : cto P13 (some k0) = cto κ.2.2.2.2 (some k0)) (kc29 : cto P28 y1 = cto P13 y1) (kc30 : cto P28 y2 = cto P13 y2) (kc31 : cto P28 y3 = cto P13 y3) (kc32 : cto P28 (some k0) = cto P13 (some k0)) (ex34 : oI P28 2 k0 = x34) (c35_0 : ¬ x34.toInt = 37) (c35_1 : ¬ x34.toInt = 42) (c35_2 : ¬ x34.toInt = 43) (c35_3 : ¬ x34.toInt = 45) (c35_4 : ¬ x34.toInt = 47) (c35_5 : ¬ x34.toInt = 8509) (c35_6 : ¬ x34.toInt = 15677) (kc101 : cto P100 y1 = cto P28 y1) (kc102 : cto P100 y2 = cto P28 y2) (kc103 : cto P100 y3 = cto P28 y3) (kc104 : cto P100 (some k0) = cto P28 (some k0)) : 13 * cto κ.2.2.2.2 (some k0) ≤ 13 * cto κ.2.2.2.2 (some k0) := by
  first | assumption | omega | (subst_vars; omega) | trivial
-- growm @167
theorem vX8_combined_89 (κ : KS) (k0 : Nat) (y1 : Option Nat) (y2 : Option Nat) (y3 : Option Nat) (P13 : PL) (P28 : PL) (x34 : Int32) (P100 : PL) (kdy1 : 1 + cto κ.2.2.2.2 y1 + cto κ.2.2.2.2 y2 + cto κ.2.2.2.2 y3 ≤ cto κ.2.2.2.2 (some k0)) (kc14 : cto P13 y1 = cto κ.2.2.2.2 y1) (kc15 : cto P13 y2 = cto κ.2.2.2.2 y2) (kc16 : cto P13 y3 = cto κ.2.2.2.2 y3) (kc17 : cto P13 (some k0) = cto κ.2.2.2.2 (some k0)) (kc29 : cto P28 y1 = cto P13 y1) (kc30 : cto P28 y2 = cto P13 y2) (kc31 : cto P28 y3 = cto P13 y3) (kc32 : cto P28 (some k0) = cto P13 (some k0)) (ex34 : oI P28 2 k0 = x34) (c35_0 : ¬ x34.toInt = 37) (c35_1 : ¬ x34.toInt = 42) (c35_2 : ¬ x34.toInt = 43) (c35_3 : ¬ x34.toInt = 45) (c35_4 : ¬ x34.toInt = 47) (c35_5 : ¬ x34.toInt = 8509) (c35_6 : ¬ x34.toInt = 15677) (kc101 : cto P100 y1 = cto P28 y1) (kc102 : cto P100 y2 = cto P28 y2) (kc103 : cto P100 y3 = cto P28 y3) (kc104 : cto P100 (some k0) = cto P28 (some k0)) : 120 * cto κ.2.2.2.2 (some k0) ≤ 120 * cto κ.2.2.2.2 (some k0) := by
  first | assumption | omega | (subst_vars; omega) | trivial
set_option maxHeartbeats 4000000 in
set_option maxRecDepth 100000 in
theorem NX8_combined (l : Launch) (D : va_G) (cy : Nat → ClassId) (ad : Nat → Nat) (A : Nat → Prop) (sz0 : Nat) (sa : Nat → Nat) (d : Nat) (IH : KX8_eval l D cy ad A sz0 sa d) (κ : KS) (sz sl : Nat) (hAF : ∀ q, A q → Fr sz0 q) (hAn : ∀ q : Nat, sz ≤ q → A q) (k0 : Nat) (k1 : Int32) (ht0 : oT κ.2.2.2.2 k0 = 2) (hPV : PV sa κ.2.2.2.2) (hSV : SV ad κ.2.2.2.2 (κ.2.1 0) (κ.2.1 1) (κ.2.2.2.1 6) (κ.2.2.2.1 7) (κ.2.2.2.1 8) (κ.2.2.2.1 13) (κ.2.2.2.1 15) (κ.2.2.2.1 17) (κ.1 1).toInt) (hpre : 0 ≤ (κ.1 8).toInt ∧ (κ.1 8).toInt ≤ 12 ∧ 0 ≤ k1.toInt ∧ k1.toInt ≤ 40 ∧ 40 ≤ k1.toInt + ((d : Nat) : Int)) : Met l yX8_combined (Cond.code yX8_combined cX8_combined 5 (some (.object "PhraseDesk$Value")) :: GWc) ({ frames := 4 * d + 33, cells := 13 * cto κ.2.2.2.2 (some k0), slots := 120 * cto κ.2.2.2.2 (some k0), locals := 200 * d + 860 }) (PcC D cy ad A sz0 sa [.ref (ad 3), .ref k0, .int k1] κ sz sl) (va_Qq (fun (r : Option Nat) (u : Int32 × Int32 × Int32 × Int32 × (Nat → Int32) × (Nat → Option Nat) × (Nat → Option Nat) × PL) => (EX κ.2.2.2.2 u.2.2.2.2.2.2.2) ∧ (PV sa u.2.2.2.2.2.2.2) ∧ (SV ad u.2.2.2.2.2.2.2 (κ.2.1 0) (κ.2.1 1) (κ.2.2.2.1 6) (κ.2.2.2.1 7) (κ.2.2.2.1 8) (κ.2.2.2.1 13) u.2.2.2.2.2.1 u.2.2.2.2.2.2.1 (κ.1 1).toInt) ∧ (NT u.2.2.2.2.2.2.2 1 r) ∧ (0 ≤ u.1.toInt ∧ u.1.toInt ≤ 12)) (fun (u : Int32 × Int32 × Int32 × Int32 × (Nat → Int32) × (Nat → Option Nat) × (Nat → Option Nat) × PL) (t : State) => Bx D cy ad A sz sl (tP (tQ (tQ (tA (tI (tI (tI (tI κ 8 u.1) 9 u.2.1) 10 u.2.2.1) 11 u.2.2.2.1) 16 u.2.2.2.2.1) 15 u.2.2.2.2.2.1) 17 u.2.2.2.2.2.2.1) u.2.2.2.2.2.2.2) (13 * cto κ.2.2.2.2 (some k0)) (120 * cto κ.2.2.2.2 (some k0)) t) A) (13 * cto κ.2.2.2.2 (some k0)) (120 * cto κ.2.2.2.2 (some k0)) A := by
  refine CM_of (loc0 := [(0, .ref (ad 3)), (1, .ref k0), (2, .int k1)]) (own := RX8) (nm := "combined") (by decide) rfl rfl rfl (Nat.le_of_ble_eq_true rfl) hAF hAn ?_
  intro p e s m below meth c ls hsz hsl C hP hS hl
  obtain ⟨hpre_0, hpre_1, hpre_2, hpre_3, hpre_4⟩ := hpre
  obtain ⟨y1, ey1⟩ : ∃ z, oR κ.2.2.2.2 3 k0 = z := ⟨_, rfl⟩
  have ty1 : NT κ.2.2.2.2 2 y1 := by rw [← ey1]; exact (hPV.t2 ht0).2.1
  obtain ⟨y2, ey2⟩ : ∃ z, oR κ.2.2.2.2 4 k0 = z := ⟨_, rfl⟩
  have ty2 : NT κ.2.2.2.2 2 y2 := by rw [← ey2]; exact (hPV.t2 ht0).2.2.1
  obtain ⟨y3, ey3⟩ : ∃ z, oR κ.2.2.2.2 5 k0 = z := ⟨_, rfl⟩
  have ty3 : NT κ.2.2.2.2 2 y3 := by rw [← ey3]; exact (hPV.t2 ht0).2.2.2.1
  have kdy1 : 1 + cto κ.2.2.2.2 y1 + cto κ.2.2.2.2 y2 + cto κ.2.2.2.2 y3 ≤ cto κ.2.2.2.2 (some k0) := by rw [← ey1, ← ey2, ← ey3]; exact (hPV.t2 ht0).2.2.2.2
  refine lv_aload_n C.x C.b dX8_combined_0 rfl (lv_at hl 0 rfl) ?_
  refine lv_aload_n C.x C.b dX8_combined_1 rfl (lv_at hl 1 rfl) ?_
  refine pg_X5_3 (v := y1) C hP (t20 (a := k0) (t := 2) ht0) ey1 cw_700 dX8_combined_2 ?_
  refine lv_iload_n C.x C.b dX8_combined_5 rfl (lv_at hl 2 rfl) ?_
  refine lv_iconst (v := 1) C.x C.b dX8_combined_6 (by decide +kernel) ?_
  refine lv_iadd C.x C.b dX8_combined_7 ?_
  refine lv_topi (fun x4 ex4 => ?_)
  have tx4 : x4.toInt = k1.toInt + 1 := (vX8_combined_1 k1 d x4 hpre_2 hpre_3 hpre_4 ex4)
  refine c_callVq (n := 2) (As := [va_rf y1, .int x4]) (rest := []) C hP hS hl.1 (IH κ s.heap.size (SLT s.heap) C.f (fun q h => C.a q (Nat.le_trans hS.1 h)) y1 x4 ty1 hPV hSV (vX8_combined_2 κ k1 d x4 hpre_0 hpre_1 hpre_2 hpre_3 hpre_4 ex4 tx4)) ⟨cw_711, cw_696, by decide +kernel⟩ ⟨cw_712, cw_713, cw_705⟩ rfl (hP.recvS (k := 3) (ci := 10) C.K rfl rfl) rfl rfl (lv_room (Nat.le_of_ble_eq_true rfl)) ⟨(vX8_combined_3 d ), (vX8_combined_4 d )⟩ ⟨(vX8_combined_5 κ k0 y1 y2 y3 kdy1), (vX8_combined_6 κ k0 y1 y2 y3 kdy1)⟩ dX8_combined_8 (fun r5 u H locs hr5 hP hS => ?_)
  obtain ⟨n6, n7, n8, n9, F10, Z11, Z12, P13⟩ := u
  have hP : CH D cy ad A (tP (tQ (tQ (tA (tI (tI (tI (tI κ 8 n6) 9 n7) 10 n8) 11 n9) 16 F10) 15 Z11) 17 Z12) P13) H := hP
  have hr5 : (EX κ.2.2.2.2 P13) ∧ (PV sa P13) ∧ (SV ad P13 (κ.2.1 0) (κ.2.1 1) (κ.2.2.2.1 6) (κ.2.2.2.1 7) (κ.2.2.2.1 8) (κ.2.2.2.1 13) Z11 Z12 (κ.1 1).toInt) ∧ (NT P13 1 r5) ∧ (0 ≤ n6.toInt ∧ n6.toInt ≤ 12) := hr5
  obtain ⟨hr5_0, hr5_1, hr5_2, hr5_3, hr5_4⟩ := hr5
  have kc14 : cto P13 y1 = cto κ.2.2.2.2 y1 := hr5_0.ct ty1 (by decide)
  have kc15 : cto P13 y2 = cto κ.2.2.2.2 y2 := hr5_0.ct ty2 (by decide)
  have kc16 : cto P13 y3 = cto κ.2.2.2.2 y3 := hr5_0.ct ty3 (by decide)
  have kc17 : cto P13 (some k0) = cto κ.2.2.2.2 (some k0) := hr5_0.ct (nt_s ht0) (by decide)
  obtain ⟨hr5_4_0, hr5_4_1⟩ := hr5_4
  refine lq_astore_n (lv' := [(3, va_rf r5), (0, .ref (ad 3)), (1, .ref k0), (2, .int k1)]) C.x C.b dX8_combined_11 rfl hl (by decide) (by cases r5 <;> rfl) (fun ls hl => ?_)
  refine lq_aload_n C.x C.b dX8_combined_12 rfl (lv_at hl 0 rfl) ?_
  cases r5 with
  | none =>
    refine lv_ifnonnullN C.x C.b dX8_combined_13 ?_
    refine lv_null C.x C.b dX8_combined_16 ?_
    exact c_retq (v := none) (Or.inl ⟨_, rfl⟩) C hsz hsl ⟨n6, n7, n8, n9, F10, Z11, Z12, P13⟩ ⟨hr5_0, hr5_1, hr5_2, nt_n, (vX8_combined_7 n6 hr5_4_0 hr5_4_1)⟩ hP hS ⟨(vX8_combined_8 κ k0 y1 y2 y3 P13 kdy1 kc14 kc15 kc16 kc17), (vX8_combined_9 κ k0 y1 y2 y3 P13 kdy1 kc14 kc15 kc16 kc17)⟩ ⟨(vX8_combined_10 κ k0 y1 y2 y3 P13 kdy1 kc14 kc15 kc16 kc17), (vX8_combined_11 κ k0 y1 y2 y3 P13 kdy1 kc14 kc15 kc16 kc17)⟩ dX8_combined_17
  | some b18 =>
    have hb18 : oT P13 b18 = 1 := hr5_3 b18 rfl
    refine lv_ifnonnull (tgt := 18) C.x C.b dX8_combined_13 (by decide) ?_
    refine lv_aload_n C.x C.b dX8_combined_18 rfl (lv_at hl 1 rfl) ?_
    refine lv_aload_n C.x C.b dX8_combined_19 rfl (lv_at hl 2 rfl) ?_
    refine pg_X5_4 (v := y2) C hP (t20 (a := k0) (t := 2) (hr5_0.T ht0 (by decide))) ((hr5_0.R (k := 4) ht0 (by decide) (by decide)).trans ey2) cw_769 dX8_combined_20 ?_
    refine lv_iload_n C.x C.b dX8_combined_23 rfl (lv_at hl 3 rfl) ?_
    refine lv_iconst (v := 1) C.x C.b dX8_combined_24 (by decide +kernel) ?_
    refine lv_iadd C.x C.b dX8_combined_25 ?_
    refine lv_topi (fun x19 ex19 => ?_)
    have tx19 : x19.toInt = k1.toInt + 1 := (vX8_combined_12 k1 d x4 x19 hpre_2 hpre_3 hpre_4 ex4 tx4 ex19)
    refine c_callVq (n := 2) (As := [va_rf y2, .int x19]) (rest := []) C hP hS hl.1 (IH (tP (tQ (tQ (tA (tI (tI (tI (tI κ 8 n6) 9 n7) 10 n8) 11 n9) 16 F10) 15 Z11) 17 Z12) P13) H.size (SLT H) C.f (fun q h => C.a q (Nat.le_trans hS.1 h)) y2 x19 (hr5_0.nt ty2 (by decide)) hr5_1 hr5_2 (vX8_combined_13 k1 d x4 n6 x19 hpre_2 hpre_3 hpre_4 ex4 tx4 hr5_4_0 hr5_4_1 ex19 tx19)) ⟨cw_711, cw_696, by decide +kernel⟩ ⟨cw_712, cw_713, cw_705⟩ rfl (hP.recvS (k := 3) (ci := 10) C.K rfl rfl) rfl rfl (lv_room (Nat.le_of_ble_eq_true rfl)) ⟨(vX8_combined_3 d ), (vX8_combined_4 d )⟩ ⟨(vX8_combined_14 κ k0 y1 y2 y3 P13 kdy1 kc14 kc15 kc16 kc17), (vX8_combined_15 κ k0 y1 y2 y3 P13 kdy1 kc14 kc15 kc16 kc17)⟩ dX8_combined_26 (fun r20 u H locs hr20 hP hS => ?_)
    obtain ⟨n21, n22, n23, n24, F25, Z26, Z27, P28⟩ := u
    have hP : CH D cy ad A (tP (tQ (tQ (tA (tI (tI (tI (tI (tP (tQ (tQ (tA (tI (tI (tI (tI κ 8 n6) 9 n7) 10 n8) 11 n9) 16 F10) 15 Z11) 17 Z12) P13) 8 n21) 9 n22) 10 n23) 11 n24) 16 F25) 15 Z26) 17 Z27) P28) H := hP
    have hr20 : (EX P13 P28) ∧ (PV sa P28) ∧ (SV ad P28 (κ.2.1 0) (κ.2.1 1) (κ.2.2.2.1 6) (κ.2.2.2.1 7) (κ.2.2.2.1 8) (κ.2.2.2.1 13) Z26 Z27 (κ.1 1).toInt) ∧ (NT P28 1 r20) ∧ (0 ≤ n21.toInt ∧ n21.toInt ≤ 12) := hr20
    obtain ⟨hr20_0, hr20_1, hr20_2, hr20_3, hr20_4⟩ := hr20
    have kc29 : cto P28 y1 = cto P13 y1 := hr20_0.ct (hr5_0.nt ty1 (by decide)) (by decide)
    have kc30 : cto P28 y2 = cto P13 y2 := hr20_0.ct (hr5_0.nt ty2 (by decide)) (by decide)
    have kc31 : cto P28 y3 = cto P13 y3 := hr20_0.ct (hr5_0.nt ty3 (by decide)) (by decide)
    have kc32 : cto P28 (some k0) = cto P13 (some k0) := hr20_0.ct (nt_s (hr5_0.T ht0 (by decide))) (by decide)
    obtain ⟨hr20_4_0, hr20_4_1⟩ := hr20_4
    refine lq_astore (lv' := [(4, va_rf r20), (3, .ref b18), (0, .ref (ad 3)), (1, .ref k0), (2, .int k1)]) C.x C.b dX8_combined_29 hl (by decide) (by cases r20 <;> rfl) (fun ls hl => ?_)
    refine lq_aload C.x C.b dX8_combined_31 (lv_at hl 0 rfl) ?_
    cases r20 with
    | none =>
      refine lv_ifnonnullN C.x C.b dX8_combined_33 ?_
      refine lv_null C.x C.b dX8_combined_36 ?_
      have hP : CH D cy ad A (tP (tQ (tQ (tA (tI (tI (tI (tI κ 8 n21) 9 n22) 10 n23) 11 n24) 16 F25) 15 Z26) 17 Z27) P28) H := CH.cong hP rfl rfl rfl rfl rfl rfl rfl rfl rfl rfl rfl rfl rfl rfl rfl rfl rfl rfl rfl rfl rfl rfl rfl rfl rfl rfl rfl
      exact c_retq (v := none) (Or.inl ⟨_, rfl⟩) C hsz hsl ⟨n21, n22, n23, n24, F25, Z26, Z27, P28⟩ ⟨(hr5_0.trans hr20_0), hr20_1, hr20_2, nt_n, (vX8_combined_16 n21 hr20_4_0 hr20_4_1)⟩ hP hS ⟨(vX8_combined_17 κ k0 y1 y2 y3 P13 P28 kdy1 kc14 kc15 kc16 kc17 kc29 kc30 kc31 kc32), (vX8_combined_18 κ k0 y1 y2 y3 P13 P28 kdy1 kc14 kc15 kc16 kc17 kc29 kc30 kc31 kc32)⟩ ⟨(vX8_combined_19 κ k0 y1 y2 y3 P13 P28 kdy1 kc14 kc15 kc16 kc17 kc29 kc30 kc31 kc32), (vX8_combined_20 κ k0 y1 y2 y3 P13 P28 kdy1 kc14 kc15 kc16 kc17 kc29 kc30 kc31 kc32)⟩ dX8_combined_37
    | some b33 =>
      have hb33 : oT P28 b33 = 1 := hr20_3 b33 rfl
      refine lv_ifnonnull (tgt := 38) C.x C.b dX8_combined_33 (by decide) ?_
      refine lv_aload_n C.x C.b dX8_combined_38 rfl (lv_at hl 3 rfl) ?_
      obtain ⟨x34, ex34⟩ : ∃ z, oI P28 2 k0 = z := ⟨_, rfl⟩
      refine pg_X5_0 (v := x34) C hP (t20 (a := k0) (t := 2) (hr20_0.T (hr5_0.T ht0 (by decide)) (by decide))) ex34 cw_697 dX8_combined_39 ?_
      by_cases c35_0 : x34.toInt = 37
      · refine lv_lookup (off := 102) (tgt := 144) C.x C.b dX8_combined_42 (by decide) (by rw [c35_0]; decide) (by decide) ?_
        refine lv_aload_n C.x C.b dX8_combined_144 rfl (lv_at hl 2 rfl) ?_
        refine lv_aload_n C.x C.b dX8_combined_145 rfl (lv_at hl 3 rfl) ?_
        refine pg_X5_0 (v := x34) C hP (t20 (a := k0) (t := 2) (hr20_0.T (hr5_0.T ht0 (by decide)) (by decide))) ex34 cw_697 dX8_combined_146 ?_
        refine lv_aload_n C.x C.b dX8_combined_149 rfl (lv_at hl 1 rfl) ?_
        refine lv_aload C.x C.b dX8_combined_150 (lv_at hl 0 rfl) ?_
        refine c_callVq (n := 3) (As := [.int x34, .ref b18, .ref b33]) (rest := []) C hP hS hl.1 (NX8_calculate l D cy ad A sz0 sa (tP (tQ (tQ (tA (tI (tI (tI (tI (tP (tQ (tQ (tA (tI (tI (tI (tI κ 8 n6) 9 n7) 10 n8) 11 n9) 16 F10) 15 Z11) 17 Z12) P13) 8 n21) 9 n22) 10 n23) 11 n24) 16 F25) 15 Z26) 17 Z27) P28) H.size (SLT H) C.f (fun q h => C.a q (Nat.le_trans hS.1 h)) x34 b18 b33 (hr20_0.T hb18 (by decide)) hb33 hr20_1 hr20_2 (vX8_combined_21 κ k0 y1 y2 y3 P13 P28 x34 kdy1 kc14 kc15 kc16 kc17 kc29 kc30 kc31 kc32 ex34 c35_0)) ⟨cw_801, cw_804, by decide +kernel⟩ ⟨cw_802, cw_803, cw_705⟩ rfl (hP.recvS (k := 3) (ci := 10) C.K rfl rfl) rfl rfl (lv_room (Nat.le_of_ble_eq_true rfl)) ⟨(vX8_combined_22 d ), (vX8_combined_23 d )⟩ ⟨(vX8_combined_24 κ k0 y1 y2 y3 P13 P28 x34 kdy1 kc14 kc15 kc16 kc17 kc29 kc30 kc31 kc32 ex34 c35_0), (vX8_combined_25 κ k0 y1 y2 y3 P13 P28 x34 kdy1 kc14 kc15 kc16 kc17 kc29 kc30 kc31 kc32 ex34 c35_0)⟩ dX8_combined_152 (fun r36 u H locs hr36 hP hS => ?_)
        obtain ⟨n37, P38⟩ := u
        have hP : CH D cy ad A (tP (tI (tP (tQ (tQ (tA (tI (tI (tI (tI (tP (tQ (tQ (tA (tI (tI (tI (tI κ 8 n6) 9 n7) 10 n8) 11 n9) 16 F10) 15 Z11) 17 Z12) P13) 8 n21) 9 n22) 10 n23) 11 n24) 16 F25) 15 Z26) 17 Z27) P28) 9 n37) P38) H := hP
        have hr36 : (EX P28 P38) ∧ (PV sa P38) ∧ (SV ad P38 (κ.2.1 0) (κ.2.1 1) (κ.2.2.2.1 6) (κ.2.2.2.1 7) (κ.2.2.2.1 8) (κ.2.2.2.1 13) Z26 Z27 (κ.1 1).toInt) ∧ (NT P38 1 r36) := hr36
        obtain ⟨hr36_0, hr36_1, hr36_2, hr36_3⟩ := hr36
        have kc39 : cto P38 y1 = cto P28 y1 := hr36_0.ct (hr20_0.nt (hr5_0.nt ty1 (by decide)) (by decide)) (by decide)
        have kc40 : cto P38 y2 = cto P28 y2 := hr36_0.ct (hr20_0.nt (hr5_0.nt ty2 (by decide)) (by decide)) (by decide)
        have kc41 : cto P38 y3 = cto P28 y3 := hr36_0.ct (hr20_0.nt (hr5_0.nt ty3 (by decide)) (by decide)) (by decide)
        have kc42 : cto P38 (some k0) = cto P28 (some k0) := hr36_0.ct (nt_s (hr20_0.T (hr5_0.T ht0 (by decide)) (by decide))) (by decide)
        have hP : CH D cy ad A (tP (tQ (tQ (tA (tI (tI (tI (tI κ 8 n21) 9 n37) 10 n23) 11 n24) 16 F25) 15 Z26) 17 Z27) P38) H := CH.cong hP rfl rfl rfl rfl rfl rfl rfl rfl rfl rfl rfl rfl rfl rfl rfl rfl rfl rfl rfl rfl rfl rfl rfl rfl rfl rfl rfl
        exact c_retq (v := r36) (Or.inl ⟨_, rfl⟩) C hsz hsl ⟨n21, n37, n23, n24, F25, Z26, Z27, P38⟩ ⟨((hr5_0.trans hr20_0).trans hr36_0), hr36_1, hr36_2, hr36_3, (vX8_combined_16 n21 hr20_4_0 hr20_4_1)⟩ hP hS ⟨(vX8_combined_26 κ k0 y1 y2 y3 P13 P28 x34 P38 kdy1 kc14 kc15 kc16 kc17 kc29 kc30 kc31 kc32 ex34 c35_0 kc39 kc40 kc41 kc42), (vX8_combined_27 κ k0 y1 y2 y3 P13 P28 x34 P38 kdy1 kc14 kc15 kc16 kc17 kc29 kc30 kc31 kc32 ex34 c35_0 kc39 kc40 kc41 kc42)⟩ ⟨(vX8_combined_28 κ k0 y1 y2 y3 P13 P28 x34 P38 kdy1 kc14 kc15 kc16 kc17 kc29 kc30 kc31 kc32 ex34 c35_0 kc39 kc40 kc41 kc42), (vX8_combined_29 κ k0 y1 y2 y3 P13 P28 x34 P38 kdy1 kc14 kc15 kc16 kc17 kc29 kc30 kc31 kc32 ex34 c35_0 kc39 kc40 kc41 kc42)⟩ dX8_combined_155
      · by_cases c35_1 : x34.toInt = 42
        · refine lv_lookup (off := 102) (tgt := 144) C.x C.b dX8_combined_42 (by decide) (by rw [c35_1]; decide) (by decide) ?_
          refine lv_aload_n C.x C.b dX8_combined_144 rfl (lv_at hl 2 rfl) ?_
          refine lv_aload_n C.x C.b dX8_combined_145 rfl (lv_at hl 3 rfl) ?_
          refine pg_X5_0 (v := x34) C hP (t20 (a := k0) (t := 2) (hr20_0.T (hr5_0.T ht0 (by decide)) (by decide))) ex34 cw_697 dX8_combined_146 ?_
          refine lv_aload_n C.x C.b dX8_combined_149 rfl (lv_at hl 1 rfl) ?_
          refine lv_aload C.x C.b dX8_combined_150 (lv_at hl 0 rfl) ?_
          refine c_callVq (n := 3) (As := [.int x34, .ref b18, .ref b33]) (rest := []) C hP hS hl.1 (NX8_calculate l D cy ad A sz0 sa (tP (tQ (tQ (tA (tI (tI (tI (tI (tP (tQ (tQ (tA (tI (tI (tI (tI κ 8 n6) 9 n7) 10 n8) 11 n9) 16 F10) 15 Z11) 17 Z12) P13) 8 n21) 9 n22) 10 n23) 11 n24) 16 F25) 15 Z26) 17 Z27) P28) H.size (SLT H) C.f (fun q h => C.a q (Nat.le_trans hS.1 h)) x34 b18 b33 (hr20_0.T hb18 (by decide)) hb33 hr20_1 hr20_2 (vX8_combined_30 κ k0 y1 y2 y3 P13 P28 x34 kdy1 kc14 kc15 kc16 kc17 kc29 kc30 kc31 kc32 ex34 c35_0 c35_1)) ⟨cw_801, cw_804, by decide +kernel⟩ ⟨cw_802, cw_803, cw_705⟩ rfl (hP.recvS (k := 3) (ci := 10) C.K rfl rfl) rfl rfl (lv_room (Nat.le_of_ble_eq_true rfl)) ⟨(vX8_combined_22 d ), (vX8_combined_23 d )⟩ ⟨(vX8_combined_31 κ k0 y1 y2 y3 P13 P28 x34 kdy1 kc14 kc15 kc16 kc17 kc29 kc30 kc31 kc32 ex34 c35_0 c35_1), (vX8_combined_32 κ k0 y1 y2 y3 P13 P28 x34 kdy1 kc14 kc15 kc16 kc17 kc29 kc30 kc31 kc32 ex34 c35_0 c35_1)⟩ dX8_combined_152 (fun r43 u H locs hr43 hP hS => ?_)
          obtain ⟨n44, P45⟩ := u
          have hP : CH D cy ad A (tP (tI (tP (tQ (tQ (tA (tI (tI (tI (tI (tP (tQ (tQ (tA (tI (tI (tI (tI κ 8 n6) 9 n7) 10 n8) 11 n9) 16 F10) 15 Z11) 17 Z12) P13) 8 n21) 9 n22) 10 n23) 11 n24) 16 F25) 15 Z26) 17 Z27) P28) 9 n44) P45) H := hP
          have hr43 : (EX P28 P45) ∧ (PV sa P45) ∧ (SV ad P45 (κ.2.1 0) (κ.2.1 1) (κ.2.2.2.1 6) (κ.2.2.2.1 7) (κ.2.2.2.1 8) (κ.2.2.2.1 13) Z26 Z27 (κ.1 1).toInt) ∧ (NT P45 1 r43) := hr43
          obtain ⟨hr43_0, hr43_1, hr43_2, hr43_3⟩ := hr43
          have kc46 : cto P45 y1 = cto P28 y1 := hr43_0.ct (hr20_0.nt (hr5_0.nt ty1 (by decide)) (by decide)) (by decide)
          have kc47 : cto P45 y2 = cto P28 y2 := hr43_0.ct (hr20_0.nt (hr5_0.nt ty2 (by decide)) (by decide)) (by decide)
          have kc48 : cto P45 y3 = cto P28 y3 := hr43_0.ct (hr20_0.nt (hr5_0.nt ty3 (by decide)) (by decide)) (by decide)
          have kc49 : cto P45 (some k0) = cto P28 (some k0) := hr43_0.ct (nt_s (hr20_0.T (hr5_0.T ht0 (by decide)) (by decide))) (by decide)
          have hP : CH D cy ad A (tP (tQ (tQ (tA (tI (tI (tI (tI κ 8 n21) 9 n44) 10 n23) 11 n24) 16 F25) 15 Z26) 17 Z27) P45) H := CH.cong hP rfl rfl rfl rfl rfl rfl rfl rfl rfl rfl rfl rfl rfl rfl rfl rfl rfl rfl rfl rfl rfl rfl rfl rfl rfl rfl rfl
          exact c_retq (v := r43) (Or.inl ⟨_, rfl⟩) C hsz hsl ⟨n21, n44, n23, n24, F25, Z26, Z27, P45⟩ ⟨((hr5_0.trans hr20_0).trans hr43_0), hr43_1, hr43_2, hr43_3, (vX8_combined_16 n21 hr20_4_0 hr20_4_1)⟩ hP hS ⟨(vX8_combined_33 κ k0 y1 y2 y3 P13 P28 x34 P45 kdy1 kc14 kc15 kc16 kc17 kc29 kc30 kc31 kc32 ex34 c35_0 c35_1 kc46 kc47 kc48 kc49), (vX8_combined_34 κ k0 y1 y2 y3 P13 P28 x34 P45 kdy1 kc14 kc15 kc16 kc17 kc29 kc30 kc31 kc32 ex34 c35_0 c35_1 kc46 kc47 kc48 kc49)⟩ ⟨(vX8_combined_35 κ k0 y1 y2 y3 P13 P28 x34 P45 kdy1 kc14 kc15 kc16 kc17 kc29 kc30 kc31 kc32 ex34 c35_0 c35_1 kc46 kc47 kc48 kc49), (vX8_combined_36 κ k0 y1 y2 y3 P13 P28 x34 P45 kdy1 kc14 kc15 kc16 kc17 kc29 kc30 kc31 kc32 ex34 c35_0 c35_1 kc46 kc47 kc48 kc49)⟩ dX8_combined_155
        · by_cases c35_2 : x34.toInt = 43
          · refine lv_lookup (off := 94) (tgt := 136) C.x C.b dX8_combined_42 (by decide) (by rw [c35_2]; decide) (by decide) ?_
            refine lv_aload_n C.x C.b dX8_combined_136 rfl (lv_at hl 2 rfl) ?_
            refine lv_aload_n C.x C.b dX8_combined_137 rfl (lv_at hl 1 rfl) ?_
            refine lv_aload C.x C.b dX8_combined_138 (lv_at hl 0 rfl) ?_
            refine c_callVq (n := 2) (As := [.ref b18, .ref b33]) (rest := []) C hP hS hl.1 (NX8_add l D cy ad A sz0 sa (tP (tQ (tQ (tA (tI (tI (tI (tI (tP (tQ (tQ (tA (tI (tI (tI (tI κ 8 n6) 9 n7) 10 n8) 11 n9) 16 F10) 15 Z11) 17 Z12) P13) 8 n21) 9 n22) 10 n23) 11 n24) 16 F25) 15 Z26) 17 Z27) P28) H.size (SLT H) C.f (fun q h => C.a q (Nat.le_trans hS.1 h)) b18 b33 (hr20_0.T hb18 (by decide)) hb33 hr20_1 hr20_2) ⟨cw_794, cw_797, by decide +kernel⟩ ⟨cw_795, cw_796, cw_705⟩ rfl (hP.recvS (k := 3) (ci := 10) C.K rfl rfl) rfl rfl (lv_room (Nat.le_of_ble_eq_true rfl)) ⟨(vX8_combined_37 d ), (vX8_combined_38 d )⟩ ⟨(vX8_combined_39 κ k0 y1 y2 y3 P13 P28 x34 kdy1 kc14 kc15 kc16 kc17 kc29 kc30 kc31 kc32 ex34 c35_0 c35_1 c35_2), (vX8_combined_40 κ k0 y1 y2 y3 P13 P28 x34 kdy1 kc14 kc15 kc16 kc17 kc29 kc30 kc31 kc32 ex34 c35_0 c35_1 c35_2)⟩ dX8_combined_140 (fun r50 u H locs hr50 hP hS => ?_)
            obtain ⟨n51, P52⟩ := u
            have hP : CH D cy ad A (tP (tI (tP (tQ (tQ (tA (tI (tI (tI (tI (tP (tQ (tQ (tA (tI (tI (tI (tI κ 8 n6) 9 n7) 10 n8) 11 n9) 16 F10) 15 Z11) 17 Z12) P13) 8 n21) 9 n22) 10 n23) 11 n24) 16 F25) 15 Z26) 17 Z27) P28) 9 n51) P52) H := hP
            have hr50 : (EX P28 P52) ∧ (PV sa P52) ∧ (SV ad P52 (κ.2.1 0) (κ.2.1 1) (κ.2.2.2.1 6) (κ.2.2.2.1 7) (κ.2.2.2.1 8) (κ.2.2.2.1 13) Z26 Z27 (κ.1 1).toInt) ∧ (NT P52 1 r50) := hr50
            obtain ⟨hr50_0, hr50_1, hr50_2, hr50_3⟩ := hr50
            have kc53 : cto P52 y1 = cto P28 y1 := hr50_0.ct (hr20_0.nt (hr5_0.nt ty1 (by decide)) (by decide)) (by decide)
            have kc54 : cto P52 y2 = cto P28 y2 := hr50_0.ct (hr20_0.nt (hr5_0.nt ty2 (by decide)) (by decide)) (by decide)
            have kc55 : cto P52 y3 = cto P28 y3 := hr50_0.ct (hr20_0.nt (hr5_0.nt ty3 (by decide)) (by decide)) (by decide)
            have kc56 : cto P52 (some k0) = cto P28 (some k0) := hr50_0.ct (nt_s (hr20_0.T (hr5_0.T ht0 (by decide)) (by decide))) (by decide)
            have hP : CH D cy ad A (tP (tQ (tQ (tA (tI (tI (tI (tI κ 8 n21) 9 n51) 10 n23) 11 n24) 16 F25) 15 Z26) 17 Z27) P52) H := CH.cong hP rfl rfl rfl rfl rfl rfl rfl rfl rfl rfl rfl rfl rfl rfl rfl rfl rfl rfl rfl rfl rfl rfl rfl rfl rfl rfl rfl
            exact c_retq (v := r50) (Or.inl ⟨_, rfl⟩) C hsz hsl ⟨n21, n51, n23, n24, F25, Z26, Z27, P52⟩ ⟨((hr5_0.trans hr20_0).trans hr50_0), hr50_1, hr50_2, hr50_3, (vX8_combined_16 n21 hr20_4_0 hr20_4_1)⟩ hP hS ⟨(vX8_combined_41 κ k0 y1 y2 y3 P13 P28 x34 P52 kdy1 kc14 kc15 kc16 kc17 kc29 kc30 kc31 kc32 ex34 c35_0 c35_1 c35_2 kc53 kc54 kc55 kc56), (vX8_combined_42 κ k0 y1 y2 y3 P13 P28 x34 P52 kdy1 kc14 kc15 kc16 kc17 kc29 kc30 kc31 kc32 ex34 c35_0 c35_1 c35_2 kc53 kc54 kc55 kc56)⟩ ⟨(vX8_combined_43 κ k0 y1 y2 y3 P13 P28 x34 P52 kdy1 kc14 kc15 kc16 kc17 kc29 kc30 kc31 kc32 ex34 c35_0 c35_1 c35_2 kc53 kc54 kc55 kc56), (vX8_combined_44 κ k0 y1 y2 y3 P13 P28 x34 P52 kdy1 kc14 kc15 kc16 kc17 kc29 kc30 kc31 kc32 ex34 c35_0 c35_1 c35_2 kc53 kc54 kc55 kc56)⟩ dX8_combined_143
          · by_cases c35_3 : x34.toInt = 45
            · refine lv_lookup (off := 102) (tgt := 144) C.x C.b dX8_combined_42 (by decide) (by rw [c35_3]; decide) (by decide) ?_
              refine lv_aload_n C.x C.b dX8_combined_144 rfl (lv_at hl 2 rfl) ?_
              refine lv_aload_n C.x C.b dX8_combined_145 rfl (lv_at hl 3 rfl) ?_
              refine pg_X5_0 (v := x34) C hP (t20 (a := k0) (t := 2) (hr20_0.T (hr5_0.T ht0 (by decide)) (by decide))) ex34 cw_697 dX8_combined_146 ?_
              refine lv_aload_n C.x C.b dX8_combined_149 rfl (lv_at hl 1 rfl) ?_
              refine lv_aload C.x C.b dX8_combined_150 (lv_at hl 0 rfl) ?_
              refine c_callVq (n := 3) (As := [.int x34, .ref b18, .ref b33]) (rest := []) C hP hS hl.1 (NX8_calculate l D cy ad A sz0 sa (tP (tQ (tQ (tA (tI (tI (tI (tI (tP (tQ (tQ (tA (tI (tI (tI (tI κ 8 n6) 9 n7) 10 n8) 11 n9) 16 F10) 15 Z11) 17 Z12) P13) 8 n21) 9 n22) 10 n23) 11 n24) 16 F25) 15 Z26) 17 Z27) P28) H.size (SLT H) C.f (fun q h => C.a q (Nat.le_trans hS.1 h)) x34 b18 b33 (hr20_0.T hb18 (by decide)) hb33 hr20_1 hr20_2 (vX8_combined_45 κ k0 y1 y2 y3 P13 P28 x34 kdy1 kc14 kc15 kc16 kc17 kc29 kc30 kc31 kc32 ex34 c35_0 c35_1 c35_2 c35_3)) ⟨cw_801, cw_804, by decide +kernel⟩ ⟨cw_802, cw_803, cw_705⟩ rfl (hP.recvS (k := 3) (ci := 10) C.K rfl rfl) rfl rfl (lv_room (Nat.le_of_ble_eq_true rfl)) ⟨(vX8_combined_22 d ), (vX8_combined_23 d )⟩ ⟨(vX8_combined_46 κ k0 y1 y2 y3 P13 P28 x34 kdy1 kc14 kc15 kc16 kc17 kc29 kc30 kc31 kc32 ex34 c35_0 c35_1 c35_2 c35_3), (vX8_combined_47 κ k0 y1 y2 y3 P13 P28 x34 kdy1 kc14 kc15 kc16 kc17 kc29 kc30 kc31 kc32 ex34 c35_0 c35_1 c35_2 c35_3)⟩ dX8_combined_152 (fun r57 u H locs hr57 hP hS => ?_)
              obtain ⟨n58, P59⟩ := u
              have hP : CH D cy ad A (tP (tI (tP (tQ (tQ (tA (tI (tI (tI (tI (tP (tQ (tQ (tA (tI (tI (tI (tI κ 8 n6) 9 n7) 10 n8) 11 n9) 16 F10) 15 Z11) 17 Z12) P13) 8 n21) 9 n22) 10 n23) 11 n24) 16 F25) 15 Z26) 17 Z27) P28) 9 n58) P59) H := hP
              have hr57 : (EX P28 P59) ∧ (PV sa P59) ∧ (SV ad P59 (κ.2.1 0) (κ.2.1 1) (κ.2.2.2.1 6) (κ.2.2.2.1 7) (κ.2.2.2.1 8) (κ.2.2.2.1 13) Z26 Z27 (κ.1 1).toInt) ∧ (NT P59 1 r57) := hr57
              obtain ⟨hr57_0, hr57_1, hr57_2, hr57_3⟩ := hr57
              have kc60 : cto P59 y1 = cto P28 y1 := hr57_0.ct (hr20_0.nt (hr5_0.nt ty1 (by decide)) (by decide)) (by decide)
              have kc61 : cto P59 y2 = cto P28 y2 := hr57_0.ct (hr20_0.nt (hr5_0.nt ty2 (by decide)) (by decide)) (by decide)
              have kc62 : cto P59 y3 = cto P28 y3 := hr57_0.ct (hr20_0.nt (hr5_0.nt ty3 (by decide)) (by decide)) (by decide)
              have kc63 : cto P59 (some k0) = cto P28 (some k0) := hr57_0.ct (nt_s (hr20_0.T (hr5_0.T ht0 (by decide)) (by decide))) (by decide)
              have hP : CH D cy ad A (tP (tQ (tQ (tA (tI (tI (tI (tI κ 8 n21) 9 n58) 10 n23) 11 n24) 16 F25) 15 Z26) 17 Z27) P59) H := CH.cong hP rfl rfl rfl rfl rfl rfl rfl rfl rfl rfl rfl rfl rfl rfl rfl rfl rfl rfl rfl rfl rfl rfl rfl rfl rfl rfl rfl
              exact c_retq (v := r57) (Or.inl ⟨_, rfl⟩) C hsz hsl ⟨n21, n58, n23, n24, F25, Z26, Z27, P59⟩ ⟨((hr5_0.trans hr20_0).trans hr57_0), hr57_1, hr57_2, hr57_3, (vX8_combined_16 n21 hr20_4_0 hr20_4_1)⟩ hP hS ⟨(vX8_combined_48 κ k0 y1 y2 y3 P13 P28 x34 P59 kdy1 kc14 kc15 kc16 kc17 kc29 kc30 kc31 kc32 ex34 c35_0 c35_1 c35_2 c35_3 kc60 kc61 kc62 kc63), (vX8_combined_49 κ k0 y1 y2 y3 P13 P28 x34 P59 kdy1 kc14 kc15 kc16 kc17 kc29 kc30 kc31 kc32 ex34 c35_0 c35_1 c35_2 c35_3 kc60 kc61 kc62 kc63)⟩ ⟨(vX8_combined_50 κ k0 y1 y2 y3 P13 P28 x34 P59 kdy1 kc14 kc15 kc16 kc17 kc29 kc30 kc31 kc32 ex34 c35_0 c35_1 c35_2 c35_3 kc60 kc61 kc62 kc63), (vX8_combined_51 κ k0 y1 y2 y3 P13 P28 x34 P59 kdy1 kc14 kc15 kc16 kc17 kc29 kc30 kc31 kc32 ex34 c35_0 c35_1 c35_2 c35_3 kc60 kc61 kc62 kc63)⟩ dX8_combined_155
            · by_cases c35_4 : x34.toInt = 47
              · refine lv_lookup (off := 102) (tgt := 144) C.x C.b dX8_combined_42 (by decide) (by rw [c35_4]; decide) (by decide) ?_
                refine lv_aload_n C.x C.b dX8_combined_144 rfl (lv_at hl 2 rfl) ?_
                refine lv_aload_n C.x C.b dX8_combined_145 rfl (lv_at hl 3 rfl) ?_
                refine pg_X5_0 (v := x34) C hP (t20 (a := k0) (t := 2) (hr20_0.T (hr5_0.T ht0 (by decide)) (by decide))) ex34 cw_697 dX8_combined_146 ?_
                refine lv_aload_n C.x C.b dX8_combined_149 rfl (lv_at hl 1 rfl) ?_
                refine lv_aload C.x C.b dX8_combined_150 (lv_at hl 0 rfl) ?_
                refine c_callVq (n := 3) (As := [.int x34, .ref b18, .ref b33]) (rest := []) C hP hS hl.1 (NX8_calculate l D cy ad A sz0 sa (tP (tQ (tQ (tA (tI (tI (tI (tI (tP (tQ (tQ (tA (tI (tI (tI (tI κ 8 n6) 9 n7) 10 n8) 11 n9) 16 F10) 15 Z11) 17 Z12) P13) 8 n21) 9 n22) 10 n23) 11 n24) 16 F25) 15 Z26) 17 Z27) P28) H.size (SLT H) C.f (fun q h => C.a q (Nat.le_trans hS.1 h)) x34 b18 b33 (hr20_0.T hb18 (by decide)) hb33 hr20_1 hr20_2 (vX8_combined_52 κ k0 y1 y2 y3 P13 P28 x34 kdy1 kc14 kc15 kc16 kc17 kc29 kc30 kc31 kc32 ex34 c35_0 c35_1 c35_2 c35_3 c35_4)) ⟨cw_801, cw_804, by decide +kernel⟩ ⟨cw_802, cw_803, cw_705⟩ rfl (hP.recvS (k := 3) (ci := 10) C.K rfl rfl) rfl rfl (lv_room (Nat.le_of_ble_eq_true rfl)) ⟨(vX8_combined_22 d ), (vX8_combined_23 d )⟩ ⟨(vX8_combined_53 κ k0 y1 y2 y3 P13 P28 x34 kdy1 kc14 kc15 kc16 kc17 kc29 kc30 kc31 kc32 ex34 c35_0 c35_1 c35_2 c35_3 c35_4), (vX8_combined_54 κ k0 y1 y2 y3 P13 P28 x34 kdy1 kc14 kc15 kc16 kc17 kc29 kc30 kc31 kc32 ex34 c35_0 c35_1 c35_2 c35_3 c35_4)⟩ dX8_combined_152 (fun r64 u H locs hr64 hP hS => ?_)
                obtain ⟨n65, P66⟩ := u
                have hP : CH D cy ad A (tP (tI (tP (tQ (tQ (tA (tI (tI (tI (tI (tP (tQ (tQ (tA (tI (tI (tI (tI κ 8 n6) 9 n7) 10 n8) 11 n9) 16 F10) 15 Z11) 17 Z12) P13) 8 n21) 9 n22) 10 n23) 11 n24) 16 F25) 15 Z26) 17 Z27) P28) 9 n65) P66) H := hP
                have hr64 : (EX P28 P66) ∧ (PV sa P66) ∧ (SV ad P66 (κ.2.1 0) (κ.2.1 1) (κ.2.2.2.1 6) (κ.2.2.2.1 7) (κ.2.2.2.1 8) (κ.2.2.2.1 13) Z26 Z27 (κ.1 1).toInt) ∧ (NT P66 1 r64) := hr64
                obtain ⟨hr64_0, hr64_1, hr64_2, hr64_3⟩ := hr64
                have kc67 : cto P66 y1 = cto P28 y1 := hr64_0.ct (hr20_0.nt (hr5_0.nt ty1 (by decide)) (by decide)) (by decide)
                have kc68 : cto P66 y2 = cto P28 y2 := hr64_0.ct (hr20_0.nt (hr5_0.nt ty2 (by decide)) (by decide)) (by decide)
                have kc69 : cto P66 y3 = cto P28 y3 := hr64_0.ct (hr20_0.nt (hr5_0.nt ty3 (by decide)) (by decide)) (by decide)
                have kc70 : cto P66 (some k0) = cto P28 (some k0) := hr64_0.ct (nt_s (hr20_0.T (hr5_0.T ht0 (by decide)) (by decide))) (by decide)
                have hP : CH D cy ad A (tP (tQ (tQ (tA (tI (tI (tI (tI κ 8 n21) 9 n65) 10 n23) 11 n24) 16 F25) 15 Z26) 17 Z27) P66) H := CH.cong hP rfl rfl rfl rfl rfl rfl rfl rfl rfl rfl rfl rfl rfl rfl rfl rfl rfl rfl rfl rfl rfl rfl rfl rfl rfl rfl rfl
                exact c_retq (v := r64) (Or.inl ⟨_, rfl⟩) C hsz hsl ⟨n21, n65, n23, n24, F25, Z26, Z27, P66⟩ ⟨((hr5_0.trans hr20_0).trans hr64_0), hr64_1, hr64_2, hr64_3, (vX8_combined_16 n21 hr20_4_0 hr20_4_1)⟩ hP hS ⟨(vX8_combined_55 κ k0 y1 y2 y3 P13 P28 x34 P66 kdy1 kc14 kc15 kc16 kc17 kc29 kc30 kc31 kc32 ex34 c35_0 c35_1 c35_2 c35_3 c35_4 kc67 kc68 kc69 kc70), (vX8_combined_56 κ k0 y1 y2 y3 P13 P28 x34 P66 kdy1 kc14 kc15 kc16 kc17 kc29 kc30 kc31 kc32 ex34 c35_0 c35_1 c35_2 c35_3 c35_4 kc67 kc68 kc69 kc70)⟩ ⟨(vX8_combined_57 κ k0 y1 y2 y3 P13 P28 x34 P66 kdy1 kc14 kc15 kc16 kc17 kc29 kc30 kc31 kc32 ex34 c35_0 c35_1 c35_2 c35_3 c35_4 kc67 kc68 kc69 kc70), (vX8_combined_58 κ k0 y1 y2 y3 P13 P28 x34 P66 kdy1 kc14 kc15 kc16 kc17 kc29 kc30 kc31 kc32 ex34 c35_0 c35_1 c35_2 c35_3 c35_4 kc67 kc68 kc69 kc70)⟩ dX8_combined_155
              · by_cases c35_5 : x34.toInt = 8509
                · refine lv_lookup (off := 76) (tgt := 118) C.x C.b dX8_combined_42 (by decide) (by rw [c35_5]; decide) (by decide) ?_
                  refine lv_aload_n C.x C.b dX8_combined_118 rfl (lv_at hl 1 rfl) ?_
                  refine lv_aload C.x C.b dX8_combined_119 (lv_at hl 0 rfl) ?_
                  refine c_callSi (C2 := "") (b := 0) (n := 2) (As := [.ref b18, .ref b33]) (rest := []) C hP hS hl.1 (NX8_areSame l D cy ad A sz0 sa (tP (tQ (tQ (tA (tI (tI (tI (tI (tP (tQ (tQ (tA (tI (tI (tI (tI κ 8 n6) 9 n7) 10 n8) 11 n9) 16 F10) 15 Z11) 17 Z12) P13) 8 n21) 9 n22) 10 n23) 11 n24) 16 F25) 15 Z26) 17 Z27) P28) H.size (SLT H) C.f (fun q h => C.a q (Nat.le_trans hS.1 h)) b18 b33 (hr20_0.T hb18 (by decide)) hb33 hr20_1) ⟨cw_828, cw_830, by decide +kernel⟩ ⟨cw_829, cw_705⟩ rfl rfl (lv_room (Nat.le_of_ble_eq_true rfl)) ⟨(vX8_combined_59 d ), (vX8_combined_60 d )⟩ ⟨(vX8_combined_61 κ k0 y1 y2 y3 P13 P28 x34 kdy1 kc14 kc15 kc16 kc17 kc29 kc30 kc31 kc32 ex34 c35_0 c35_1 c35_2 c35_3 c35_4 c35_5), (vX8_combined_62 κ k0 y1 y2 y3 P13 P28 x34 kdy1 kc14 kc15 kc16 kc17 kc29 kc30 kc31 kc32 ex34 c35_0 c35_1 c35_2 c35_3 c35_4 c35_5)⟩ dX8_combined_121 (fun r71 u H locs hr71 hP hS => ?_)
                  have hr71 : (0 ≤ r71.toInt ∧ r71.toInt ≤ 1) := hr71
                  obtain ⟨hr71_0, hr71_1⟩ := hr71
                  refine lv_if_ne (tgt := 131) C.x C.b dX8_combined_124 (by decide) (fun c72 => ?_) (fun c72 => ?_)
                  · have c72 : ¬ r71.toInt = 0 := by have h := z_ne c72; rw [show (0 : Int32).toInt = 0 from by decide +kernel] at h; exact h
                    refine lv_iconst (v := 0) C.x C.b dX8_combined_131 (by decide +kernel) ?_
                    refine c_callSq (C2 := "") (b := 0) (n := 1) (As := [.int 0]) (rest := []) C hP hS hl.1 (NX10_ofBool l D cy ad A sz0 sa (tP (tQ (tQ (tA (tI (tI (tI (tI (tP (tQ (tQ (tA (tI (tI (tI (tI κ 8 n6) 9 n7) 10 n8) 11 n9) 16 F10) 15 Z11) 17 Z12) P13) 8 n21) 9 n22) 10 n23) 11 n24) 16 F25) 15 Z26) 17 Z27) P28) H.size (SLT H) C.f (fun q h => C.a q (Nat.le_trans hS.1 h)) (0 : Int32) hr20_1) ⟨cw_752, cw_82, by decide +kernel⟩ ⟨cw_81, cw_40⟩ rfl rfl (lv_room (Nat.le_of_ble_eq_true rfl)) ⟨(vX8_combined_59 d ), (vX8_combined_63 d )⟩ ⟨(vX8_combined_64 κ k0 y1 y2 y3 P13 P28 x34 kdy1 kc14 kc15 kc16 kc17 kc29 kc30 kc31 kc32 ex34 c35_0 c35_1 c35_2 c35_3 c35_4 c35_5), (vX8_combined_65 κ k0 y1 y2 y3 P13 P28 x34 kdy1 kc14 kc15 kc16 kc17 kc29 kc30 kc31 kc32 ex34 c35_0 c35_1 c35_2 c35_3 c35_4 c35_5)⟩ dX8_combined_132 (fun r73 u H locs hr73 hP hS => ?_)
                    obtain ⟨P74, rfl⟩ : ∃ z, z = u := ⟨_, rfl⟩
                    have hP : CH D cy ad A (tP (tP (tQ (tQ (tA (tI (tI (tI (tI (tP (tQ (tQ (tA (tI (tI (tI (tI κ 8 n6) 9 n7) 10 n8) 11 n9) 16 F10) 15 Z11) 17 Z12) P13) 8 n21) 9 n22) 10 n23) 11 n24) 16 F25) 15 Z26) 17 Z27) P28) P74) H := hP
                    have hr73 : (EX P28 P74) ∧ (PV sa P74) ∧ (NN P74 1 r73) := hr73
                    obtain ⟨hr73_0, hr73_1, hr73_2⟩ := hr73
                    have kc75 : cto P74 y1 = cto P28 y1 := hr73_0.ct (hr20_0.nt (hr5_0.nt ty1 (by decide)) (by decide)) (by decide)
                    have kc76 : cto P74 y2 = cto P28 y2 := hr73_0.ct (hr20_0.nt (hr5_0.nt ty2 (by decide)) (by decide)) (by decide)
                    have kc77 : cto P74 y3 = cto P28 y3 := hr73_0.ct (hr20_0.nt (hr5_0.nt ty3 (by decide)) (by decide)) (by decide)
                    have kc78 : cto P74 (some k0) = cto P28 (some k0) := hr73_0.ct (nt_s (hr20_0.T (hr5_0.T ht0 (by decide)) (by decide))) (by decide)
                    obtain ⟨b79, rfl, tb79⟩ := hr73_2
                    have svz80 : SV ad P74 (κ.2.1 0) (κ.2.1 1) (κ.2.2.2.1 6) (κ.2.2.2.1 7) (κ.2.2.2.1 8) (κ.2.2.2.1 13) Z26 Z27 (κ.1 1).toInt := hr20_2.ex hr73_0
                    have hP : CH D cy ad A (tP (tQ (tQ (tA (tI (tI (tI (tI κ 8 n21) 9 n22) 10 n23) 11 n24) 16 F25) 15 Z26) 17 Z27) P74) H := CH.cong hP rfl rfl rfl rfl rfl rfl rfl rfl rfl rfl rfl rfl rfl rfl rfl rfl rfl rfl rfl rfl rfl rfl rfl rfl rfl rfl rfl
                    exact c_retq (v := (some b79)) (Or.inl ⟨_, rfl⟩) C hsz hsl ⟨n21, n22, n23, n24, F25, Z26, Z27, P74⟩ ⟨((hr5_0.trans hr20_0).trans hr73_0), hr73_1, svz80, (nt_s tb79), (vX8_combined_16 n21 hr20_4_0 hr20_4_1)⟩ hP hS ⟨(vX8_combined_66 κ k0 y1 y2 y3 P13 P28 x34 P74 kdy1 kc14 kc15 kc16 kc17 kc29 kc30 kc31 kc32 ex34 c35_0 c35_1 c35_2 c35_3 c35_4 c35_5 kc75 kc76 kc77 kc78), (vX8_combined_67 κ k0 y1 y2 y3 P13 P28 x34 P74 kdy1 kc14 kc15 kc16 kc17 kc29 kc30 kc31 kc32 ex34 c35_0 c35_1 c35_2 c35_3 c35_4 c35_5 kc75 kc76 kc77 kc78)⟩ ⟨(vX8_combined_68 κ k0 y1 y2 y3 P13 P28 x34 P74 kdy1 kc14 kc15 kc16 kc17 kc29 kc30 kc31 kc32 ex34 c35_0 c35_1 c35_2 c35_3 c35_4 c35_5 kc75 kc76 kc77 kc78), (vX8_combined_69 κ k0 y1 y2 y3 P13 P28 x34 P74 kdy1 kc14 kc15 kc16 kc17 kc29 kc30 kc31 kc32 ex34 c35_0 c35_1 c35_2 c35_3 c35_4 c35_5 kc75 kc76 kc77 kc78)⟩ dX8_combined_135
                  · have c72 : r71.toInt = 0 := by have h := z_eq c72; rw [show (0 : Int32).toInt = 0 from by decide +kernel] at h; exact h
                    refine lv_iconst (v := 1) C.x C.b dX8_combined_127 (by decide +kernel) ?_
                    refine lv_goto (tgt := 132) C.x C.b dX8_combined_128 (by decide) ?_
                    refine c_callSq (C2 := "") (b := 0) (n := 1) (As := [.int 1]) (rest := []) C hP hS hl.1 (NX10_ofBool l D cy ad A sz0 sa (tP (tQ (tQ (tA (tI (tI (tI (tI (tP (tQ (tQ (tA (tI (tI (tI (tI κ 8 n6) 9 n7) 10 n8) 11 n9) 16 F10) 15 Z11) 17 Z12) P13) 8 n21) 9 n22) 10 n23) 11 n24) 16 F25) 15 Z26) 17 Z27) P28) H.size (SLT H) C.f (fun q h => C.a q (Nat.le_trans hS.1 h)) (1 : Int32) hr20_1) ⟨cw_752, cw_82, by decide +kernel⟩ ⟨cw_81, cw_40⟩ rfl rfl (lv_room (Nat.le_of_ble_eq_true rfl)) ⟨(vX8_combined_59 d ), (vX8_combined_63 d )⟩ ⟨(vX8_combined_64 κ k0 y1 y2 y3 P13 P28 x34 kdy1 kc14 kc15 kc16 kc17 kc29 kc30 kc31 kc32 ex34 c35_0 c35_1 c35_2 c35_3 c35_4 c35_5), (vX8_combined_65 κ k0 y1 y2 y3 P13 P28 x34 kdy1 kc14 kc15 kc16 kc17 kc29 kc30 kc31 kc32 ex34 c35_0 c35_1 c35_2 c35_3 c35_4 c35_5)⟩ dX8_combined_132 (fun r81 u H locs hr81 hP hS => ?_)
                    obtain ⟨P82, rfl⟩ : ∃ z, z = u := ⟨_, rfl⟩
                    have hP : CH D cy ad A (tP (tP (tQ (tQ (tA (tI (tI (tI (tI (tP (tQ (tQ (tA (tI (tI (tI (tI κ 8 n6) 9 n7) 10 n8) 11 n9) 16 F10) 15 Z11) 17 Z12) P13) 8 n21) 9 n22) 10 n23) 11 n24) 16 F25) 15 Z26) 17 Z27) P28) P82) H := hP
                    have hr81 : (EX P28 P82) ∧ (PV sa P82) ∧ (NN P82 1 r81) := hr81
                    obtain ⟨hr81_0, hr81_1, hr81_2⟩ := hr81
                    have kc83 : cto P82 y1 = cto P28 y1 := hr81_0.ct (hr20_0.nt (hr5_0.nt ty1 (by decide)) (by decide)) (by decide)
                    have kc84 : cto P82 y2 = cto P28 y2 := hr81_0.ct (hr20_0.nt (hr5_0.nt ty2 (by decide)) (by decide)) (by decide)
                    have kc85 : cto P82 y3 = cto P28 y3 := hr81_0.ct (hr20_0.nt (hr5_0.nt ty3 (by decide)) (by decide)) (by decide)
                    have kc86 : cto P82 (some k0) = cto P28 (some k0) := hr81_0.ct (nt_s (hr20_0.T (hr5_0.T ht0 (by decide)) (by decide))) (by decide)
                    obtain ⟨b87, rfl, tb87⟩ := hr81_2
                    have svz88 : SV ad P82 (κ.2.1 0) (κ.2.1 1) (κ.2.2.2.1 6) (κ.2.2.2.1 7) (κ.2.2.2.1 8) (κ.2.2.2.1 13) Z26 Z27 (κ.1 1).toInt := hr20_2.ex hr81_0
                    have hP : CH D cy ad A (tP (tQ (tQ (tA (tI (tI (tI (tI κ 8 n21) 9 n22) 10 n23) 11 n24) 16 F25) 15 Z26) 17 Z27) P82) H := CH.cong hP rfl rfl rfl rfl rfl rfl rfl rfl rfl rfl rfl rfl rfl rfl rfl rfl rfl rfl rfl rfl rfl rfl rfl rfl rfl rfl rfl
                    exact c_retq (v := (some b87)) (Or.inl ⟨_, rfl⟩) C hsz hsl ⟨n21, n22, n23, n24, F25, Z26, Z27, P82⟩ ⟨((hr5_0.trans hr20_0).trans hr81_0), hr81_1, svz88, (nt_s tb87), (vX8_combined_16 n21 hr20_4_0 hr20_4_1)⟩ hP hS ⟨(vX8_combined_70 κ k0 y1 y2 y3 P13 P28 x34 P82 kdy1 kc14 kc15 kc16 kc17 kc29 kc30 kc31 kc32 ex34 c35_0 c35_1 c35_2 c35_3 c35_4 c35_5 kc83 kc84 kc85 kc86), (vX8_combined_71 κ k0 y1 y2 y3 P13 P28 x34 P82 kdy1 kc14 kc15 kc16 kc17 kc29 kc30 kc31 kc32 ex34 c35_0 c35_1 c35_2 c35_3 c35_4 c35_5 kc83 kc84 kc85 kc86)⟩ ⟨(vX8_combined_72 κ k0 y1 y2 y3 P13 P28 x34 P82 kdy1 kc14 kc15 kc16 kc17 kc29 kc30 kc31 kc32 ex34 c35_0 c35_1 c35_2 c35_3 c35_4 c35_5 kc83 kc84 kc85 kc86), (vX8_combined_73 κ k0 y1 y2 y3 P13 P28 x34 P82 kdy1 kc14 kc15 kc16 kc17 kc29 kc30 kc31 kc32 ex34 c35_0 c35_1 c35_2 c35_3 c35_4 c35_5 kc83 kc84 kc85 kc86)⟩ dX8_combined_135
                · by_cases c35_6 : x34.toInt = 15677
                  · refine lv_lookup (off := 66) (tgt := 108) C.x C.b dX8_combined_42 (by decide) (by rw [c35_6]; decide) (by decide) ?_
                    refine lv_aload_n C.x C.b dX8_combined_108 rfl (lv_at hl 1 rfl) ?_
                    refine lv_aload C.x C.b dX8_combined_109 (lv_at hl 0 rfl) ?_
                    refine c_callSi (C2 := "") (b := 0) (n := 2) (As := [.ref b18, .ref b33]) (rest := []) C hP hS hl.1 (NX8_areSame l D cy ad A sz0 sa (tP (tQ (tQ (tA (tI (tI (tI (tI (tP (tQ (tQ (tA (tI (tI (tI (tI κ 8 n6) 9 n7) 10 n8) 11 n9) 16 F10) 15 Z11) 17 Z12) P13) 8 n21) 9 n22) 10 n23) 11 n24) 16 F25) 15 Z26) 17 Z27) P28) H.size (SLT H) C.f (fun q h => C.a q (Nat.le_trans hS.1 h)) b18 b33 (hr20_0.T hb18 (by decide)) hb33 hr20_1) ⟨cw_828, cw_830, by decide +kernel⟩ ⟨cw_829, cw_705⟩ rfl rfl (lv_room (Nat.le_of_ble_eq_true rfl)) ⟨(vX8_combined_59 d ), (vX8_combined_60 d )⟩ ⟨(vX8_combined_74 κ k0 y1 y2 y3 P13 P28 x34 kdy1 kc14 kc15 kc16 kc17 kc29 kc30 kc31 kc32 ex34 c35_0 c35_1 c35_2 c35_3 c35_4 c35_5 c35_6), (vX8_combined_75 κ k0 y1 y2 y3 P13 P28 x34 kdy1 kc14 kc15 kc16 kc17 kc29 kc30 kc31 kc32 ex34 c35_0 c35_1 c35_2 c35_3 c35_4 c35_5 c35_6)⟩ dX8_combined_111 (fun r89 u H locs hr89 hP hS => ?_)
                    have hr89 : (0 ≤ r89.toInt ∧ r89.toInt ≤ 1) := hr89
                    obtain ⟨hr89_0, hr89_1⟩ := hr89
                    refine c_callSq (C2 := "") (b := 0) (n := 1) (As := [.int r89]) (rest := []) C hP hS hl.1 (NX10_ofBool l D cy ad A sz0 sa (tP (tQ (tQ (tA (tI (tI (tI (tI (tP (tQ (tQ (tA (tI (tI (tI (tI κ 8 n6) 9 n7) 10 n8) 11 n9) 16 F10) 15 Z11) 17 Z12) P13) 8 n21) 9 n22) 10 n23) 11 n24) 16 F25) 15 Z26) 17 Z27) P28) H.size (SLT H) C.f (fun q h => C.a q (Nat.le_trans hS.1 h)) r89 hr20_1) ⟨cw_752, cw_82, by decide +kernel⟩ ⟨cw_81, cw_40⟩ rfl rfl (lv_room (Nat.le_of_ble_eq_true rfl)) ⟨(vX8_combined_59 d ), (vX8_combined_63 d )⟩ ⟨(vX8_combined_76 κ k0 y1 y2 y3 P13 P28 x34 kdy1 kc14 kc15 kc16 kc17 kc29 kc30 kc31 kc32 ex34 c35_0 c35_1 c35_2 c35_3 c35_4 c35_5 c35_6), (vX8_combined_77 κ k0 y1 y2 y3 P13 P28 x34 kdy1 kc14 kc15 kc16 kc17 kc29 kc30 kc31 kc32 ex34 c35_0 c35_1 c35_2 c35_3 c35_4 c35_5 c35_6)⟩ dX8_combined_114 (fun r90 u H locs hr90 hP hS => ?_)
                    obtain ⟨P91, rfl⟩ : ∃ z, z = u := ⟨_, rfl⟩
                    have hP : CH D cy ad A (tP (tP (tQ (tQ (tA (tI (tI (tI (tI (tP (tQ (tQ (tA (tI (tI (tI (tI κ 8 n6) 9 n7) 10 n8) 11 n9) 16 F10) 15 Z11) 17 Z12) P13) 8 n21) 9 n22) 10 n23) 11 n24) 16 F25) 15 Z26) 17 Z27) P28) P91) H := hP
                    have hr90 : (EX P28 P91) ∧ (PV sa P91) ∧ (NN P91 1 r90) := hr90
                    obtain ⟨hr90_0, hr90_1, hr90_2⟩ := hr90
                    have kc92 : cto P91 y1 = cto P28 y1 := hr90_0.ct (hr20_0.nt (hr5_0.nt ty1 (by decide)) (by decide)) (by decide)
                    have kc93 : cto P91 y2 = cto P28 y2 := hr90_0.ct (hr20_0.nt (hr5_0.nt ty2 (by decide)) (by decide)) (by decide)
                    have kc94 : cto P91 y3 = cto P28 y3 := hr90_0.ct (hr20_0.nt (hr5_0.nt ty3 (by decide)) (by decide)) (by decide)
                    have kc95 : cto P91 (some k0) = cto P28 (some k0) := hr90_0.ct (nt_s (hr20_0.T (hr5_0.T ht0 (by decide)) (by decide))) (by decide)
                    obtain ⟨b96, rfl, tb96⟩ := hr90_2
                    have svz97 : SV ad P91 (κ.2.1 0) (κ.2.1 1) (κ.2.2.2.1 6) (κ.2.2.2.1 7) (κ.2.2.2.1 8) (κ.2.2.2.1 13) Z26 Z27 (κ.1 1).toInt := hr20_2.ex hr90_0
                    have hP : CH D cy ad A (tP (tQ (tQ (tA (tI (tI (tI (tI κ 8 n21) 9 n22) 10 n23) 11 n24) 16 F25) 15 Z26) 17 Z27) P91) H := CH.cong hP rfl rfl rfl rfl rfl rfl rfl rfl rfl rfl rfl rfl rfl rfl rfl rfl rfl rfl rfl rfl rfl rfl rfl rfl rfl rfl rfl
                    exact c_retq (v := (some b96)) (Or.inl ⟨_, rfl⟩) C hsz hsl ⟨n21, n22, n23, n24, F25, Z26, Z27, P91⟩ ⟨((hr5_0.trans hr20_0).trans hr90_0), hr90_1, svz97, (nt_s tb96), (vX8_combined_16 n21 hr20_4_0 hr20_4_1)⟩ hP hS ⟨(vX8_combined_78 κ k0 y1 y2 y3 P13 P28 x34 P91 kdy1 kc14 kc15 kc16 kc17 kc29 kc30 kc31 kc32 ex34 c35_0 c35_1 c35_2 c35_3 c35_4 c35_5 c35_6 kc92 kc93 kc94 kc95), (vX8_combined_79 κ k0 y1 y2 y3 P13 P28 x34 P91 kdy1 kc14 kc15 kc16 kc17 kc29 kc30 kc31 kc32 ex34 c35_0 c35_1 c35_2 c35_3 c35_4 c35_5 c35_6 kc92 kc93 kc94 kc95)⟩ ⟨(vX8_combined_80 κ k0 y1 y2 y3 P13 P28 x34 P91 kdy1 kc14 kc15 kc16 kc17 kc29 kc30 kc31 kc32 ex34 c35_0 c35_1 c35_2 c35_3 c35_4 c35_5 c35_6 kc92 kc93 kc94 kc95), (vX8_combined_81 κ k0 y1 y2 y3 P13 P28 x34 P91 kdy1 kc14 kc15 kc16 kc17 kc29 kc30 kc31 kc32 ex34 c35_0 c35_1 c35_2 c35_3 c35_4 c35_5 c35_6 kc92 kc93 kc94 kc95)⟩ dX8_combined_117
                  · refine lv_lookup (off := 114) (tgt := 156) C.x C.b dX8_combined_42 (by decide) (by simp [Op.lookupswitch.offset, c35_0, c35_1, c35_2, c35_3, c35_4, c35_5, c35_6, (show ¬ (37 : Int) = x34.toInt from fun h9 => c35_0 h9.symm), (show ¬ (42 : Int) = x34.toInt from fun h9 => c35_1 h9.symm), (show ¬ (43 : Int) = x34.toInt from fun h9 => c35_2 h9.symm), (show ¬ (45 : Int) = x34.toInt from fun h9 => c35_3 h9.symm), (show ¬ (47 : Int) = x34.toInt from fun h9 => c35_4 h9.symm), (show ¬ (8509 : Int) = x34.toInt from fun h9 => c35_5 h9.symm), (show ¬ (15677 : Int) = x34.toInt from fun h9 => c35_6 h9.symm)]) (by decide) ?_
                    refine lv_aload_n C.x C.b dX8_combined_156 rfl (lv_at hl 2 rfl) ?_
                    refine lv_aload_n C.x C.b dX8_combined_157 rfl (lv_at hl 3 rfl) ?_
                    refine pg_X5_0 (v := x34) C hP (t20 (a := k0) (t := 2) (hr20_0.T (hr5_0.T ht0 (by decide)) (by decide))) ex34 cw_697 dX8_combined_158 ?_
                    refine lv_aload_n C.x C.b dX8_combined_161 rfl (lv_at hl 1 rfl) ?_
                    refine lv_aload C.x C.b dX8_combined_162 (lv_at hl 0 rfl) ?_
                    refine c_callVq (n := 3) (As := [.int x34, .ref b18, .ref b33]) (rest := []) C hP hS hl.1 (NX8_compare l D cy ad A sz0 sa (tP (tQ (tQ (tA (tI (tI (tI (tI (tP (tQ (tQ (tA (tI (tI (tI (tI κ 8 n6) 9 n7) 10 n8) 11 n9) 16 F10) 15 Z11) 17 Z12) P13) 8 n21) 9 n22) 10 n23) 11 n24) 16 F25) 15 Z26) 17 Z27) P28) H.size (SLT H) C.f (fun q h => C.a q (Nat.le_trans hS.1 h)) x34 b18 b33 (hr20_0.T hb18 (by decide)) hb33 hr20_1 hr20_2) ⟨cw_832, cw_835, by decide +kernel⟩ ⟨cw_833, cw_834, cw_705⟩ rfl (hP.recvS (k := 3) (ci := 10) C.K rfl rfl) rfl rfl (lv_room (Nat.le_of_ble_eq_true rfl)) ⟨(vX8_combined_82 d ), (vX8_combined_83 d )⟩ ⟨(vX8_combined_84 κ k0 y1 y2 y3 P13 P28 x34 kdy1 kc14 kc15 kc16 kc17 kc29 kc30 kc31 kc32 ex34 c35_0 c35_1 c35_2 c35_3 c35_4 c35_5 c35_6), (vX8_combined_85 κ k0 y1 y2 y3 P13 P28 x34 kdy1 kc14 kc15 kc16 kc17 kc29 kc30 kc31 kc32 ex34 c35_0 c35_1 c35_2 c35_3 c35_4 c35_5 c35_6)⟩ dX8_combined_164 (fun r98 u H locs hr98 hP hS => ?_)
                    obtain ⟨n99, P100⟩ := u
                    have hP : CH D cy ad A (tP (tI (tP (tQ (tQ (tA (tI (tI (tI (tI (tP (tQ (tQ (tA (tI (tI (tI (tI κ 8 n6) 9 n7) 10 n8) 11 n9) 16 F10) 15 Z11) 17 Z12) P13) 8 n21) 9 n22) 10 n23) 11 n24) 16 F25) 15 Z26) 17 Z27) P28) 9 n99) P100) H := hP
                    have hr98 : (EX P28 P100) ∧ (PV sa P100) ∧ (SV ad P100 (κ.2.1 0) (κ.2.1 1) (κ.2.2.2.1 6) (κ.2.2.2.1 7) (κ.2.2.2.1 8) (κ.2.2.2.1 13) Z26 Z27 (κ.1 1).toInt) ∧ (NT P100 1 r98) := hr98
                    obtain ⟨hr98_0, hr98_1, hr98_2, hr98_3⟩ := hr98
                    have kc101 : cto P100 y1 = cto P28 y1 := hr98_0.ct (hr20_0.nt (hr5_0.nt ty1 (by decide)) (by decide)) (by decide)
                    have kc102 : cto P100 y2 = cto P28 y2 := hr98_0.ct (hr20_0.nt (hr5_0.nt ty2 (by decide)) (by decide)) (by decide)
                    have kc103 : cto P100 y3 = cto P28 y3 := hr98_0.ct (hr20_0.nt (hr5_0.nt ty3 (by decide)) (by decide)) (by decide)
                    have kc104 : cto P100 (some k0) = cto P28 (some k0) := hr98_0.ct (nt_s (hr20_0.T (hr5_0.T ht0 (by decide)) (by decide))) (by decide)
                    have hP : CH D cy ad A (tP (tQ (tQ (tA (tI (tI (tI (tI κ 8 n21) 9 n99) 10 n23) 11 n24) 16 F25) 15 Z26) 17 Z27) P100) H := CH.cong hP rfl rfl rfl rfl rfl rfl rfl rfl rfl rfl rfl rfl rfl rfl rfl rfl rfl rfl rfl rfl rfl rfl rfl rfl rfl rfl rfl
                    exact c_retq (v := r98) (Or.inl ⟨_, rfl⟩) C hsz hsl ⟨n21, n99, n23, n24, F25, Z26, Z27, P100⟩ ⟨((hr5_0.trans hr20_0).trans hr98_0), hr98_1, hr98_2, hr98_3, (vX8_combined_16 n21 hr20_4_0 hr20_4_1)⟩ hP hS ⟨(vX8_combined_86 κ k0 y1 y2 y3 P13 P28 x34 P100 kdy1 kc14 kc15 kc16 kc17 kc29 kc30 kc31 kc32 ex34 c35_0 c35_1 c35_2 c35_3 c35_4 c35_5 c35_6 kc101 kc102 kc103 kc104), (vX8_combined_87 κ k0 y1 y2 y3 P13 P28 x34 P100 kdy1 kc14 kc15 kc16 kc17 kc29 kc30 kc31 kc32 ex34 c35_0 c35_1 c35_2 c35_3 c35_4 c35_5 c35_6 kc101 kc102 kc103 kc104)⟩ ⟨(vX8_combined_88 κ k0 y1 y2 y3 P13 P28 x34 P100 kdy1 kc14 kc15 kc16 kc17 kc29 kc30 kc31 kc32 ex34 c35_0 c35_1 c35_2 c35_3 c35_4 c35_5 c35_6 kc101 kc102 kc103 kc104), (vX8_combined_89 κ k0 y1 y2 y3 P13 P28 x34 P100 kdy1 kc14 kc15 kc16 kc17 kc29 kc30 kc31 kc32 ex34 c35_0 c35_1 c35_2 c35_3 c35_4 c35_5 c35_6 kc101 kc102 kc103 kc104)⟩ dX8_combined_167

-- nw@7 @7
theorem vX8_setProperty_1 (k2 : Int32) (d : Nat) (x4 : Int32) (hpre_2 : 0 ≤ k2.toInt) (hpre_3 : k2.toInt ≤ 40) (hpre_4 : 40 ≤ k2.toInt + ((d : Nat) : Int)) (ex4 : x4 = k2 + (1 : Int32)) : x4.toInt = k2.toInt + 1 := by
  have q1 : (1 : Int32).toInt = 1 := by decide +kernel
  have w1 : (1 : Int32).toInt = 1 := by decide +kernel
  rw [ex4, z_add (by omega) (by omega)]; first | done | omega
-- pre:X8_eval@8 @8
theorem vX8_setProperty_2 (κ : KS) (k2 : Int32) (d : Nat) (x4 : Int32) (hpre_0 : 0 ≤ (κ.1 8).toInt) (hpre_1 : (κ.1 8).toInt ≤ 12) (hpre_2 : 0 ≤ k2.toInt) (hpre_3 : k2.toInt ≤ 40) (hpre_4 : 40 ≤ k2.toInt + ((d : Nat) : Int)) (ex4 : x4 = k2 + (1 : Int32)) (tx4 : x4.toInt = k2.toInt + 1) : 0 ≤ (κ.1 8).toInt ∧ (κ.1 8).toInt ≤ 12 ∧ 0 ≤ x4.toInt ∧ x4.toInt ≤ 41 ∧ 41 ≤ x4.toInt + ((d : Nat) : Int) := by
  have q1 : (1 : Int32).toInt = 1 := by decide +kernel
  refine ⟨?_, ?_, ?_, ?_, ?_⟩ <;> first | assumption | omega | (subst_vars; omega) | trivial
-- frames @8
theorem vX8_setProperty_3 (d : Nat)  : 4 * d + 30 + 1 ≤ 4 * d + 32 := by
  first | assumption | omega | (subst_vars; omega) | trivial
-- locals @8
theorem vX8_setProperty_4 (d : Nat)  : 8 + (3 + 11) + (200 * d + 700) ≤ 200 * d + 820 := by
  first | assumption | omega | (subst_vars; omega) | trivial
-- room @8
theorem vX8_setProperty_5 (κ : KS) (k0 : Nat) (k1 : Option Nat) (y1 : Option Nat) (y2 : Option Nat) (y3 : Option Nat) (kdy1 : 1 + cto κ.2.2.2.2 y1 + cto κ.2.2.2.2 y2 + cto κ.2.2.2.2 y3 ≤ cto κ.2.2.2.2 (some k0)) : 0 + (13 * cto κ.2.2.2.2 y1) ≤ 13 * (cto κ.2.2.2.2 (some k0) + cto κ.2.2.2.2 k1) := by
  first | assumption | omega | (subst_vars; omega) | trivial
-- room @8
theorem vX8_setProperty_6 (κ : KS) (k0 : Nat) (k1 : Option Nat) (y1 : Option Nat) (y2 : Option Nat) (y3 : Option Nat) (kdy1 : 1 + cto κ.2.2.2.2 y1 + cto κ.2.2.2.2 y2 + cto κ.2.2.2.2 y3 ≤ cto κ.2.2.2.2 (some k0)) : 0 + (120 * cto κ.2.2.2.2 y1) ≤ 120 * (cto κ.2.2.2.2 (some k0) + cto κ.2.2.2.2 k1) := by
  first | assumption | omega | (subst_vars; omega) | trivial
-- frames @28
theorem vX8_setProperty_7 (d : Nat)  : 0 + 1 ≤ 4 * d + 32 := by
  first | assumption | omega | (subst_vars; omega) | trivial
-- locals @28
theorem vX8_setProperty_8 (d : Nat)  : 8 + (2 + 11) + 0 ≤ 200 * d + 820 := by
  first | assumption | omega | (subst_vars; omega) | trivial
-- room @28
theorem vX8_setProperty_9 (κ : KS) (k0 : Nat) (k1 : Option Nat) (y1 : Option Nat) (y2 : Option Nat) (y3 : Option Nat) (P13 : PL) (kdy1 : 1 + cto κ.2.2.2.2 y1 + cto κ.2.2.2.2 y2 + cto κ.2.2.2.2 y3 ≤ cto κ.2.2.2.2 (some k0)) (kc14 : cto P13 k1 = cto κ.2.2.2.2 k1) (kc15 : cto P13 y1 = cto κ.2.2.2.2 y1) (kc16 : cto P13 y2 = cto κ.2.2.2.2 y2) (kc17 : cto P13 y3 = cto κ.2.2.2.2 y3) (kc18 : cto P13 (some k0) = cto κ.2.2.2.2 (some k0)) : 0 + (13 * cto κ.2.2.2.2 y1) + 0 ≤ 13 * (cto κ.2.2.2.2 (some k0) + cto κ.2.2.2.2 k1) := by
  first | assumption | omega | (subst_vars; omega) | trivial
-- room @28
theorem vX8_setProperty_10 (κ : KS) (k0 : Nat) (k1 : Option Nat) (y1 : Option Nat) (y2 : Option Nat) (y3 : Option Nat) (P13 : PL) (kdy1 : 1 + cto κ.2.2.2.2 y1 + cto κ.2.2.2.2 y2 + cto κ.2.2.2.2 y3 ≤ cto κ.2.2.2.2 (some k0)) (kc14 : cto P13 k1 = cto κ.2.2.2.2 k1) (kc15 : cto P13 y1 = cto κ.2.2.2.2 y1) (kc16 : cto P13 y2 = cto κ.2.2.2.2 y2) (kc17 : cto P13 y3 = cto κ.2.2.2.2 y3) (kc18 : cto P13 (some k0) = cto κ.2.2.2.2 (some k0)) : 0 + (120 * cto κ.2.2.2.2 y1) + 0 ≤ 120 * (cto κ.2.2.2.2 (some k0) + cto κ.2.2.2.2 k1) := by
  first | assumption | omega | (subst_vars; omega) | trivial
-- post @31
theorem vX8_setProperty_11 (n6 : Int32) (hr5_4_0 : 0 ≤ n6.toInt) (hr5_4_1 : n6.toInt ≤ 12) : 0 ≤ n6.toInt ∧ n6.toInt ≤ 12 := by
  refine ⟨?_, ?_⟩ <;> first | assumption | omega | (subst_vars; omega) | trivial
-- growm @31
theorem vX8_setProperty_12 (κ : KS) (k0 : Nat) (k1 : Option Nat) (y1 : Option Nat) (y2 : Option Nat) (y3 : Option Nat) (P13 : PL) (kdy1 : 1 + cto κ.2.2.2.2 y1 + cto κ.2.2.2.2 y2 + cto κ.2.2.2.2 y3 ≤ cto κ.2.2.2.2 (some k0)) (kc14 : cto P13 k1 = cto κ.2.2.2.2 k1) (kc15 : cto P13 y1 = cto κ.2.2.2.2 y1) (kc16 : cto P13 y2 = cto κ.2.2.2.2 y2) (kc17 : cto P13 y3 = cto κ.2.2.2.2 y3) (kc18 : cto P13 (some k0) = cto κ.2.2.2.2 (some k0)) : 13 * (cto κ.2.2.2.2 (some k0) + cto κ.2.2.2.2 k1) ≤ 13 * (cto κ.2.2.2.2 (some k0) + cto κ.2.2.2.2 k1) := by
  first | assumption | omega | (subst_vars; omega) | trivial
-- growm @31
theorem vX8_setProperty_13 (κ : KS) (k0 : Nat) (k1 : Option Nat) (y1 : Option Nat) (y2 : Option Nat) (y3 : Option Nat) (P13 : PL) (kdy1 : 1 + cto κ.2.2.2.2 y1 + cto κ.2.2.2.2 y2 + cto κ.2.2.2.2 y3 ≤ cto κ.2.2.2.2 (some k0)) (kc14 : cto P13 k1 = cto κ.2.2.2.2 k1) (kc15 : cto P13 y1 = cto κ.2.2.2.2 y1) (kc16 : cto P13 y2 = cto κ.2.2.2.2 y2) (kc17 : cto P13 y3 = cto κ.2.2.2.2 y3) (kc18 : cto P13 (some k0) = cto κ.2.2.2.2 (some k0)) : 120 * (cto κ.2.2.2.2 (some k0) + cto κ.2.2.2.2 k1) ≤ 120 * (cto κ.2.2.2.2 (some k0) + cto κ.2.2.2.2 k1) := by
  first | assumption | omega | (subst_vars; omega) | trivial
-- room @57
theorem vX8_setProperty_14 (κ : KS) (k0 : Nat) (k1 : Option Nat) (y1 : Option Nat) (y2 : Option Nat) (y3 : Option Nat) (P13 : PL) (b19 : Nat) (x22 : Int32) (kdy1 : 1 + cto κ.2.2.2.2 y1 + cto κ.2.2.2.2 y2 + cto κ.2.2.2.2 y3 ≤ cto κ.2.2.2.2 (some k0)) (kc14 : cto P13 k1 = cto κ.2.2.2.2 k1) (kc15 : cto P13 y1 = cto κ.2.2.2.2 y1) (kc16 : cto P13 y2 = cto κ.2.2.2.2 y2) (kc17 : cto P13 y3 = cto κ.2.2.2.2 y3) (kc18 : cto P13 (some k0) = cto κ.2.2.2.2 (some k0)) (ex22 : oI P13 0 b19 = x22) (c23 : ¬ x22.toInt = 0) : 0 + (13 * cto κ.2.2.2.2 y1) + 0 ≤ 13 * (cto κ.2.2.2.2 (some k0) + cto κ.2.2.2.2 k1) := by
  first | assumption | omega | (subst_vars; omega) | trivial
-- room @57
theorem vX8_setProperty_15 (κ : KS) (k0 : Nat) (k1 : Option Nat) (y1 : Option Nat) (y2 : Option Nat) (y3 : Option Nat) (P13 : PL) (b19 : Nat) (x22 : Int32) (kdy1 : 1 + cto κ.2.2.2.2 y1 + cto κ.2.2.2.2 y2 + cto κ.2.2.2.2 y3 ≤ cto κ.2.2.2.2 (some k0)) (kc14 : cto P13 k1 = cto κ.2.2.2.2 k1) (kc15 : cto P13 y1 = cto κ.2.2.2.2 y1) (kc16 : cto P13 y2 = cto κ.2.2.2.2 y2) (kc17 : cto P13 y3 = cto κ.2.2.2.2 y3) (kc18 : cto P13 (some k0) = cto κ.2.2.2.2 (some k0)) (ex22 : oI P13 0 b19 = x22) (c23 : ¬ x22.toInt = 0) : 0 + (120 * cto κ.2.2.2.2 y1) + 0 ≤ 120 * (cto κ.2.2.2.2 (some k0) + cto κ.2.2.2.2 k1) := by
  first | assumption | omega | (subst_vars; omega) | trivial
-- growm @60
theorem vX8_setProperty_16 (κ : KS) (k0 : Nat) (k1 : Option Nat) (y1 : Option Nat) (y2 : Option Nat) (y3 : Option Nat) (P13 : PL) (b19 : Nat) (x22 : Int32) (kdy1 : 1 + cto κ.2.2.2.2 y1 + cto κ.2.2.2.2 y2 + cto κ.2.2.2.2 y3 ≤ cto κ.2.2.2.2 (some k0)) (kc14 : cto P13 k1 = cto κ.2.2.2.2 k1) (kc15 : cto P13 y1 = cto κ.2.2.2.2 y1) (kc16 : cto P13 y2 = cto κ.2.2.2.2 y2) (kc17 : cto P13 y3 = cto κ.2.2.2.2 y3) (kc18 : cto P13 (some k0) = cto κ.2.2.2.2 (some k0)) (ex22 : oI P13 0 b19 = x22) (c23 : ¬ x22.toInt = 0) : 13 * (cto κ.2.2.2.2 (some k0) + cto κ.2.2.2.2 k1) ≤ 13 * (cto κ.2.2.2.2 (some k0) + cto κ.2.2.2.2 k1) := by
  first | assumption | omega | (subst_vars; omega) | trivial
-- growm @60
theorem vX8_setProperty_17 (κ : KS) (k0 : Nat) (k1 : Option Nat) (y1 : Option Nat) (y2 : Option Nat) (y3 : Option Nat) (P13 : PL) (b19 : Nat) (x22 : Int32) (kdy1 : 1 + cto κ.2.2.2.2 y1 + cto κ.2.2.2.2 y2 + cto κ.2.2.2.2 y3 ≤ cto κ.2.2.2.2 (some k0)) (kc14 : cto P13 k1 = cto κ.2.2.2.2 k1) (kc15 : cto P13 y1 = cto κ.2.2.2.2 y1) (kc16 : cto P13 y2 = cto κ.2.2.2.2 y2) (kc17 : cto P13 y3 = cto κ.2.2.2.2 y3) (kc18 : cto P13 (some k0) = cto κ.2.2.2.2 (some k0)) (ex22 : oI P13 0 b19 = x22) (c23 : ¬ x22.toInt = 0) : 120 * (cto κ.2.2.2.2 (some k0) + cto κ.2.2.2.2 k1) ≤ 120 * (cto κ.2.2.2.2 (some k0) + cto κ.2.2.2.2 k1) := by
  first | assumption | omega | (subst_vars; omega) | trivial
-- frames @49
theorem vX8_setProperty_18 (d : Nat)  : 2 + 1 ≤ 4 * d + 32 := by
  first | assumption | omega | (subst_vars; omega) | trivial
-- locals @49
theorem vX8_setProperty_19 (d : Nat)  : 8 + (3 + 11) + 46 ≤ 200 * d + 820 := by
  first | assumption | omega | (subst_vars; omega) | trivial
-- room @49
theorem vX8_setProperty_20 (κ : KS) (k0 : Nat) (k1 : Option Nat) (y1 : Option Nat) (y2 : Option Nat) (y3 : Option Nat) (P13 : PL) (b19 : Nat) (x22 : Int32) (x28 : Int32) (kdy1 : 1 + cto κ.2.2.2.2 y1 + cto κ.2.2.2.2 y2 + cto κ.2.2.2.2 y3 ≤ cto κ.2.2.2.2 (some k0)) (kc14 : cto P13 k1 = cto κ.2.2.2.2 k1) (kc15 : cto P13 y1 = cto κ.2.2.2.2 y1) (kc16 : cto P13 y2 = cto κ.2.2.2.2 y2) (kc17 : cto P13 y3 = cto κ.2.2.2.2 y3) (kc18 : cto P13 (some k0) = cto κ.2.2.2.2 (some k0)) (ex22 : oI P13 0 b19 = x22) (c23 : ¬ x22.toInt = 0) (ex28 : oI P13 3 k0 = x28) : 0 + (13 * cto κ.2.2.2.2 y1) + 0 ≤ 13 * (cto κ.2.2.2.2 (some k0) + cto κ.2.2.2.2 k1) := by
  first | assumption | omega | (subst_vars; omega) | trivial
-- room @49
theorem vX8_setProperty_21 (κ : KS) (k0 : Nat) (k1 : Option Nat) (y1 : Option Nat) (y2 : Option Nat) (y3 : Option Nat) (P13 : PL) (b19 : Nat) (x22 : Int32) (x28 : Int32) (kdy1 : 1 + cto κ.2.2.2.2 y1 + cto κ.2.2.2.2 y2 + cto κ.2.2.2.2 y3 ≤ cto κ.2.2.2.2 (some k0)) (kc14 : cto P13 k1 = cto κ.2.2.2.2 k1) (kc15 : cto P13 y1 = cto κ.2.2.2.2 y1) (kc16 : cto P13 y2 = cto κ.2.2.2.2 y2) (kc17 : cto P13 y3 = cto κ.2.2.2.2 y3) (kc18 : cto P13 (some k0) = cto κ.2.2.2.2 (some k0)) (ex22 : oI P13 0 b19 = x22) (c23 : ¬ x22.toInt = 0) (ex28 : oI P13 3 k0 = x28) : 0 + (120 * cto κ.2.2.2.2 y1) + 0 ≤ 120 * (cto κ.2.2.2.2 (some k0) + cto κ.2.2.2.2 k1) := by
  first | assumption | omega | (subst_vars; omega) | trivial
-- room @57
theorem vX8_setProperty_22 (κ : KS) (k0 : Nat) (k1 : Option Nat) (y1 : Option Nat) (y2 : Option Nat) (y3 : Option Nat) (P13 : PL) (b19 : Nat) (x22 : Int32) (x28 : Int32) (kdy1 : 1 + cto κ.2.2.2.2 y1 + cto κ.2.2.2.2 y2 + cto κ.2.2.2.2 y3 ≤ cto κ.2.2.2.2 (some k0)) (kc14 : cto P13 k1 = cto κ.2.2.2.2 k1) (kc15 : cto P13 y1 = cto κ.2.2.2.2 y1) (kc16 : cto P13 y2 = cto κ.2.2.2.2 y2) (kc17 : cto P13 y3 = cto κ.2.2.2.2 y3) (kc18 : cto P13 (some k0) = cto κ.2.2.2.2 (some k0)) (ex22 : oI P13 0 b19 = x22) (c23 : ¬ x22.toInt = 0) (ex28 : oI P13 3 k0 = x28) : 0 + (13 * cto κ.2.2.2.2 y1) + 0 + 0 ≤ 13 * (cto κ.2.2.2.2 (some k0) + cto κ.2.2.2.2 k1) := by
  first | assumption | omega | (subst_vars; omega) | trivial
-- room @57
theorem vX8_setProperty_23 (κ : KS) (k0 : Nat) (k1 : Option Nat) (y1 : Option Nat) (y2 : Option Nat) (y3 : Option Nat) (P13 : PL) (b19 : Nat) (x22 : Int32) (x28 : Int32) (kdy1 : 1 + cto κ.2.2.2.2 y1 + cto κ.2.2.2.2 y2 + cto κ.2.2.2.2 y3 ≤ cto κ.2.2.2.2 (some k0)) (kc14 : cto P13 k1 = cto κ.2.2.2.2 k1) (kc15 : cto P13 y1 = cto κ.2.2.2.2 y1) (kc16 : cto P13 y2 = cto κ.2.2.2.2 y2) (kc17 : cto P13 y3 = cto κ.2.2.2.2 y3) (kc18 : cto P13 (some k0) = cto κ.2.2.2.2 (some k0)) (ex22 : oI P13 0 b19 = x22) (c23 : ¬ x22.toInt = 0) (ex28 : oI P13 3 k0 = x28) : 0 + (120 * cto κ.2.2.2.2 y1) + 0 + 0 ≤ 120 * (cto κ.2.2.2.2 (some k0) + cto κ.2.2.2.2 k1) := by
  first | assumption | omega | (subst_vars; omega) | trivial
-- growm @60
theorem vX8_setProperty_24 (κ : KS) (k0 : Nat) (k1 : Option Nat) (y1 : Option Nat) (y2 : Option Nat) (y3 : Option Nat) (P13 : PL) (b19 : Nat) (x22 : Int32) (x28 : Int32) (kdy1 : 1 + cto κ.2.2.2.2 y1 + cto κ.2.2.2.2 y2 + cto κ.2.2.2.2 y3 ≤ cto κ.2.2.2.2 (some k0)) (kc14 : cto P13 k1 = cto κ.2.2.2.2 k1) (kc15 : cto P13 y1 = cto κ.2.2.2.2 y1) (kc16 : cto P13 y2 = cto κ.2.2.2.2 y2) (kc17 : cto P13 y3 = cto κ.2.2.2.2 y3) (kc18 : cto P13 (some k0) = cto κ.2.2.2.2 (some k0)) (ex22 : oI P13 0 b19 = x22) (c23 : ¬ x22.toInt = 0) (ex28 : oI P13 3 k0 = x28) : 13 * (cto κ.2.2.2.2 (some k0) + cto κ.2.2.2.2 k1) ≤ 13 * (cto κ.2.2.2.2 (some k0) + cto κ.2.2.2.2 k1) := by
  first | assumption | omega | (subst_vars; omega) | trivial
-- growm @60
theorem vX8_setProperty_25 (κ : KS) (k0 : Nat) (k1 : Option Nat) (y1 : Option Nat) (y2 : Option Nat) (y3 : Option Nat) (P13 : PL) (b19 : Nat) (x22 : Int32) (x28 : Int32) (kdy1 : 1 + cto κ.2.2.2.2 y1 + cto κ.2.2.2.2 y2 + cto κ.2.2.2.2 y3 ≤ cto κ.2.2.2.2 (some k0)) (kc14 : cto P13 k1 = cto κ.2.2.2.2 k1) (kc15 : cto P13 y1 = cto κ.2.2.2.2 y1) (kc16 : cto P13 y2 = cto κ.2.2.2.2 y2) (kc17 : cto P13 y3 = cto κ.2.2.2.2 y3) (kc18 : cto P13 (some k0) = cto κ.2.2.2.2 (some k0)) (ex22 : oI P13 0 b19 = x22) (c23 : ¬ x22.toInt = 0) (ex28 : oI P13 3 k0 = x28) : 120 * (cto κ.2.2.2.2 (some k0) + cto κ.2.2.2.2 k1) ≤ 120 * (cto κ.2.2.2.2 (some k0) + cto κ.2.2.2.2 k1) := by
  first | assumption | omega | (subst_vars; omega) | trivial
-- nw@65 @65
theorem vX8_setProperty_26 (k2 : Int32) (d : Nat) (x4 : Int32) (x33 : Int32) (hpre_2 : 0 ≤ k2.toInt) (hpre_3 : k2.toInt ≤ 40) (hpre_4 : 40 ≤ k2.toInt + ((d : Nat) : Int)) (ex4 : x4 = k2 + (1 : Int32)) (tx4 : x4.toInt = k2.toInt + 1) (ex33 : x33 = k2 + (1 : Int32)) : x33.toInt = k2.toInt + 1 := by
  have q1 : (1 : Int32).toInt = 1 := by decide +kernel
  have w1 : (1 : Int32).toInt = 1 := by decide +kernel
  rw [ex33, z_add (by omega) (by omega)]; first | done | omega
-- pre:X8_eval@66 @66
theorem vX8_setProperty_27 (k2 : Int32) (d : Nat) (x4 : Int32) (n6 : Int32) (x33 : Int32) (hpre_2 : 0 ≤ k2.toInt) (hpre_3 : k2.toInt ≤ 40) (hpre_4 : 40 ≤ k2.toInt + ((d : Nat) : Int)) (ex4 : x4 = k2 + (1 : Int32)) (tx4 : x4.toInt = k2.toInt + 1) (hr5_4_0 : 0 ≤ n6.toInt) (hr5_4_1 : n6.toInt ≤ 12) (ex33 : x33 = k2 + (1 : Int32)) (tx33 : x33.toInt = k2.toInt + 1) : 0 ≤ n6.toInt ∧ n6.toInt ≤ 12 ∧ 0 ≤ x33.toInt ∧ x33.toInt ≤ 41 ∧ 41 ≤ x33.toInt + ((d : Nat) : Int) := by
  have q1 : (1 : Int32).toInt = 1 := by decide +kernel
  refine ⟨?_, ?_, ?_, ?_, ?_⟩ <;> first | assumption | omega | (subst_vars; omega) | trivial
-- room @66
theorem vX8_setProperty_28 (κ : KS) (k0 : Nat) (k1 : Option Nat) (y1 : Option Nat) (y2 : Option Nat) (y3 : Option Nat) (P13 : PL) (b19 : Nat) (x22 : Int32) (x28 : Int32) (kdy1 : 1 + cto κ.2.2.2.2 y1 + cto κ.2.2.2.2 y2 + cto κ.2.2.2.2 y3 ≤ cto κ.2.2.2.2 (some k0)) (kc14 : cto P13 k1 = cto κ.2.2.2.2 k1) (kc15 : cto P13 y1 = cto κ.2.2.2.2 y1) (kc16 : cto P13 y2 = cto κ.2.2.2.2 y2) (kc17 : cto P13 y3 = cto κ.2.2.2.2 y3) (kc18 : cto P13 (some k0) = cto κ.2.2.2.2 (some k0)) (ex22 : oI P13 0 b19 = x22) (c23 : ¬ x22.toInt = 0) (ex28 : oI P13 3 k0 = x28) : 0 + (13 * cto κ.2.2.2.2 y1) + 0 + (13 * cto P13 k1) ≤ 13 * (cto κ.2.2.2.2 (some k0) + cto κ.2.2.2.2 k1) := by
  first | assumption | omega | (subst_vars; omega) | trivial
-- room @66
theorem vX8_setProperty_29 (κ : KS) (k0 : Nat) (k1 : Option Nat) (y1 : Option Nat) (y2 : Option Nat) (y3 : Option Nat) (P13 : PL) (b19 : Nat) (x22 : Int32) (x28 : Int32) (kdy1 : 1 + cto κ.2.2.2.2 y1 + cto κ.2.2.2.2 y2 + cto κ.2.2.2.2 y3 ≤ cto κ.2.2.2.2 (some k0)) (kc14 : cto P13 k1 = cto κ.2.2.2.2 k1) (kc15 : cto P13 y1 = cto κ.2.2.2.2 y1) (kc16 : cto P13 y2 = cto κ.2.2.2.2 y2) (kc17 : cto P13 y3 = cto κ.2.2.2.2 y3) (kc18 : cto P13 (some k0) = cto κ.2.2.2.2 (some k0)) (ex22 : oI P13 0 b19 = x22) (c23 : ¬ x22.toInt = 0) (ex28 : oI P13 3 k0 = x28) : 0 + (120 * cto κ.2.2.2.2 y1) + 0 + (120 * cto P13 k1) ≤ 120 * (cto κ.2.2.2.2 (some k0) + cto κ.2.2.2.2 k1) := by
  first | assumption | omega | (subst_vars; omega) | trivial
-- post @92
theorem vX8_setProperty_30 (n35 : Int32) (hr34_4_0 : 0 ≤ n35.toInt) (hr34_4_1 : n35.toInt ≤ 12) : 0 ≤ n35.toInt ∧ n35.toInt ≤ 12 := by
  refine ⟨?_, ?_⟩ <;> first | assumption | omega | (subst_vars; omega) | trivial
-- grow @92
theorem vX8_setProperty_31 (κ : KS) (k0 : Nat) (k1 : Option Nat) (y1 : Option Nat) (y2 : Option Nat) (y3 : Option Nat) (P13 : PL) (b19 : Nat) (x22 : Int32) (x28 : Int32) (P42 : PL) (kdy1 : 1 + cto κ.2.2.2.2 y1 + cto κ.2.2.2.2 y2 + cto κ.2.2.2.2 y3 ≤ cto κ.2.2.2.2 (some k0)) (kc14 : cto P13 k1 = cto κ.2.2.2.2 k1) (kc15 : cto P13 y1 = cto κ.2.2.2.2 y1) (kc16 : cto P13 y2 = cto κ.2.2.2.2 y2) (kc17 : cto P13 y3 = cto κ.2.2.2.2 y3) (kc18 : cto P13 (some k0) = cto κ.2.2.2.2 (some k0)) (ex22 : oI P13 0 b19 = x22) (c23 : ¬ x22.toInt = 0) (ex28 : oI P13 3 k0 = x28) (kc43 : cto P42 k1 = cto P13 k1) (kc44 : cto P42 y1 = cto P13 y1) (kc45 : cto P42 y2 = cto P13 y2) (kc46 : cto P42 y3 = cto P13 y3) (kc47 : cto P42 (some k0) = cto P13 (some k0)) : 0 + (13 * cto κ.2.2.2.2 y1) + 0 + (13 * cto P13 k1) ≤ 13 * (cto κ.2.2.2.2 (some k0) + cto κ.2.2.2.2 k1) := by
  first | assumption | omega | (subst_vars; omega) | trivial
-- grow @92
theorem vX8_setProperty_32 (κ : KS) (k0 : Nat) (k1 : Option Nat) (y1 : Option Nat) (y2 : Option Nat) (y3 : Option Nat) (P13 : PL) (b19 : Nat) (x22 : Int32) (x28 : Int32) (P42 : PL) (kdy1 : 1 + cto κ.2.2.2.2 y1 + cto κ.2.2.2.2 y2 + cto κ.2.2.2.2 y3 ≤ cto κ.2.2.2.2 (some k0)) (kc14 : cto P13 k1 = cto κ.2.2.2.2 k1) (kc15 : cto P13 y1 = cto κ.2.2.2.2 y1) (kc16 : cto P13 y2 = cto κ.2.2.2.2 y2) (kc17 : cto P13 y3 = cto κ.2.2.2.2 y3) (kc18 : cto P13 (some k0) = cto κ.2.2.2.2 (some k0)) (ex22 : oI P13 0 b19 = x22) (c23 : ¬ x22.toInt = 0) (ex28 : oI P13 3 k0 = x28) (kc43 : cto P42 k1 = cto P13 k1) (kc44 : cto P42 y1 = cto P13 y1) (kc45 : cto P42 y2 = cto P13 y2) (kc46 : cto P42 y3 = cto P13 y3) (kc47 : cto P42 (some k0) = cto P13 (some k0)) : 0 + (120 * cto κ.2.2.2.2 y1) + 0 + (120 * cto P13 k1) ≤ 120 * (cto κ.2.2.2.2 (some k0) + cto κ.2.2.2.2 k1) := by
  first | assumption | omega | (subst_vars; omega) | trivial
-- growm @92
theorem vX8_setProperty_33 (κ : KS) (k0 : Nat) (k1 : Option Nat) (y1 : Option Nat) (y2 : Option Nat) (y3 : Option Nat) (P13 : PL) (b19 : Nat) (x22 : Int32) (x28 : Int32) (P42 : PL) (kdy1 : 1 + cto κ.2.2.2.2 y1 + cto κ.2.2.2.2 y2 + cto κ.2.2.2.2 y3 ≤ cto κ.2.2.2.2 (some k0)) (kc14 : cto P13 k1 = cto κ.2.2.2.2 k1) (kc15 : cto P13 y1 = cto κ.2.2.2.2 y1) (kc16 : cto P13 y2 = cto κ.2.2.2.2 y2) (kc17 : cto P13 y3 = cto κ.2.2.2.2 y3) (kc18 : cto P13 (some k0) = cto κ.2.2.2.2 (some k0)) (ex22 : oI P13 0 b19 = x22) (c23 : ¬ x22.toInt = 0) (ex28 : oI P13 3 k0 = x28) (kc43 : cto P42 k1 = cto P13 k1) (kc44 : cto P42 y1 = cto P13 y1) (kc45 : cto P42 y2 = cto P13 y2) (kc46 : cto P42 y3 = cto P13 y3) (kc47 : cto P42 (some k0) = cto P13 (some k0)) : 13 * (cto κ.2.2.2.2 (some k0) + cto κ.2.2.2.2 k1) ≤ 13 * (cto κ.2.2.2.2 (some k0) + cto κ.2.2.2.2 k1) := by
  first | assumption | omega | (subst_vars; omega) | trivial
-- growm @92
theorem vX8_setProperty_34 (κ : KS) (k0 : Nat) (k1 : Option Nat) (y1 : Option Nat) (y2 : Option Nat) (y3 : Option Nat) (P13 : PL) (b19 : Nat) (x22 : Int32) (x28 : Int32) (P42 : PL) (kdy1 : 1 + cto κ.2.2.2.2 y1 + cto κ.2.2.2.2 y2 + cto κ.2.2.2.2 y3 ≤ cto κ.2.2.2.2 (some k0)) (kc14 : cto P13 k1 = cto κ.2.2.2.2 k1) (kc15 : cto P13 y1 = cto κ.2.2.2.2 y1) (kc16 : cto P13 y2 = cto κ.2.2.2.2 y2) (kc17 : cto P13 y3 = cto κ.2.2.2.2 y3) (kc18 : cto P13 (some k0) = cto κ.2.2.2.2 (some k0)) (ex22 : oI P13 0 b19 = x22) (c23 : ¬ x22.toInt = 0) (ex28 : oI P13 3 k0 = x28) (kc43 : cto P42 k1 = cto P13 k1) (kc44 : cto P42 y1 = cto P13 y1) (kc45 : cto P42 y2 = cto P13 y2) (kc46 : cto P42 y3 = cto P13 y3) (kc47 : cto P42 (some k0) = cto P13 (some k0)) : 120 * (cto κ.2.2.2.2 (some k0) + cto κ.2.2.2.2 k1) ≤ 120 * (cto κ.2.2.2.2 (some k0) + cto κ.2.2.2.2 k1) := by
  first | assumption | omega | (subst_vars; omega) | trivial
-- frames @89
theorem vX8_setProperty_35 (d : Nat)  : 9 + 1 ≤ 4 * d + 32 := by
  first | assumption | omega | (subst_vars; omega) | trivial
-- locals @89
theorem vX8_setProperty_36 (d : Nat)  : 8 + (6 + 11) + 218 ≤ 200 * d + 820 := by
  first | assumption | omega | (subst_vars; omega) | trivial
-- room @89
theorem vX8_setProperty_37 (κ : KS) (k0 : Nat) (k1 : Option Nat) (y1 : Option Nat) (y2 : Option Nat) (y3 : Option Nat) (P13 : PL) (b19 : Nat) (x22 : Int32) (x28 : Int32) (P42 : PL) (kdy1 : 1 + cto κ.2.2.2.2 y1 + cto κ.2.2.2.2 y2 + cto κ.2.2.2.2 y3 ≤ cto κ.2.2.2.2 (some k0)) (kc14 : cto P13 k1 = cto κ.2.2.2.2 k1) (kc15 : cto P13 y1 = cto κ.2.2.2.2 y1) (kc16 : cto P13 y2 = cto κ.2.2.2.2 y2) (kc17 : cto P13 y3 = cto κ.2.2.2.2 y3) (kc18 : cto P13 (some k0) = cto κ.2.2.2.2 (some k0)) (ex22 : oI P13 0 b19 = x22) (c23 : ¬ x22.toInt = 0) (ex28 : oI P13 3 k0 = x28) (kc43 : cto P42 k1 = cto P13 k1) (kc44 : cto P42 y1 = cto P13 y1) (kc45 : cto P42 y2 = cto P13 y2) (kc46 : cto P42 y3 = cto P13 y3) (kc47 : cto P42 (some k0) = cto P13 (some k0)) : 0 + (13 * cto κ.2.2.2.2 y1) + 0 + (13 * cto P13 k1) + 3 ≤ 13 * (cto κ.2.2.2.2 (some k0) + cto κ.2.2.2.2 k1) := by
  first | assumption | omega | (subst_vars; omega) | trivial
-- room @89
theorem vX8_setProperty_38 (κ : KS) (k0 : Nat) (k1 : Option Nat) (y1 : Option Nat) (y2 : Option Nat) (y3 : Option Nat) (P13 : PL) (b19 : Nat) (x22 : Int32) (x28 : Int32) (P42 : PL) (kdy1 : 1 + cto κ.2.2.2.2 y1 + cto κ.2.2.2.2 y2 + cto κ.2.2.2.2 y3 ≤ cto κ.2.2.2.2 (some k0)) (kc14 : cto P13 k1 = cto κ.2.2.2.2 k1) (kc15 : cto P13 y1 = cto κ.2.2.2.2 y1) (kc16 : cto P13 y2 = cto κ.2.2.2.2 y2) (kc17 : cto P13 y3 = cto κ.2.2.2.2 y3) (kc18 : cto P13 (some k0) = cto κ.2.2.2.2 (some k0)) (ex22 : oI P13 0 b19 = x22) (c23 : ¬ x22.toInt = 0) (ex28 : oI P13 3 k0 = x28) (kc43 : cto P42 k1 = cto P13 k1) (kc44 : cto P42 y1 = cto P13 y1) (kc45 : cto P42 y2 = cto P13 y2) (kc46 : cto P42 y3 = cto P13 y3) (kc47 : cto P42 (some k0) = cto P13 (some k0)) : 0 + (120 * cto κ.2.2.2.2 y1) + 0 + (120 * cto P13 k1) + 21 ≤ 120 * (cto κ.2.2.2.2 (some k0) + cto κ.2.2.2.2 k1) := by
  first | assumption | omega | (subst_vars; omega) | trivial
-- grow @92
theorem vX8_setProperty_39 (κ : KS) (k0 : Nat) (k1 : Option Nat) (y1 : Option Nat) (y2 : Option Nat) (y3 : Option Nat) (P13 : PL) (b19 : Nat) (x22 : Int32) (x28 : Int32) (P42 : PL) (P51 : PL) (kdy1 : 1 + cto κ.2.2.2.2 y1 + cto κ.2.2.2.2 y2 + cto κ.2.2.2.2 y3 ≤ cto κ.2.2.2.2 (some k0)) (kc14 : cto P13 k1 = cto κ.2.2.2.2 k1) (kc15 : cto P13 y1 = cto κ.2.2.2.2 y1) (kc16 : cto P13 y2 = cto κ.2.2.2.2 y2) (kc17 : cto P13 y3 = cto κ.2.2.2.2 y3) (kc18 : cto P13 (some k0) = cto κ.2.2.2.2 (some k0)) (ex22 : oI P13 0 b19 = x22) (c23 : ¬ x22.toInt = 0) (ex28 : oI P13 3 k0 = x28) (kc43 : cto P42 k1 = cto P13 k1) (kc44 : cto P42 y1 = cto P13 y1) (kc45 : cto P42 y2 = cto P13 y2) (kc46 : cto P42 y3 = cto P13 y3) (kc47 : cto P42 (some k0) = cto P13 (some k0)) (kc52 : cto P51 k1 = cto P42 k1) (kc53 : cto P51 y1 = cto P42 y1) (kc54 : cto P51 y2 = cto P42 y2) (kc55 : cto P51 y3 = cto P42 y3) (kc56 : cto P51 (some k0) = cto P42 (some k0)) : 0 + (13 * cto κ.2.2.2.2 y1) + 0 + (13 * cto P13 k1) + 3 ≤ 13 * (cto κ.2.2.2.2 (some k0) + cto κ.2.2.2.2 k1) := by
  first | assumption | omega | (subst_vars; omega) | trivial
-- grow @92
theorem vX8_setProperty_40 (κ : KS) (k0 : Nat) (k1 : Option Nat) (y1 : Option Nat) (y2 : Option Nat) (y3 : Option Nat) (P13 : PL) (b19 : Nat) (x22 : Int32) (x28 : Int32) (P42 : PL) (P51 : PL) (kdy1 : 1 + cto κ.2.2.2.2 y1 + cto κ.2.2.2.2 y2 + cto κ.2.2.2.2 y3 ≤ cto κ.2.2.2.2 (some k0)) (kc14 : cto P13 k1 = cto κ.2.2.2.2 k1) (kc15 : cto P13 y1 = cto κ.2.2.2.2 y1) (kc16 : cto P13 y2 = cto κ.2.2.2.2 y2) (kc17 : cto P13 y3 = cto κ.2.2.2.2 y3) (kc18 : cto P13 (some k0) = cto κ.2.2.2.2 (some k0)) (ex22 : oI P13 0 b19 = x22) (c23 : ¬ x22.toInt = 0) (ex28 : oI P13 3 k0 = x28) (kc43 : cto P42 k1 = cto P13 k1) (kc44 : cto P42 y1 = cto P13 y1) (kc45 : cto P42 y2 = cto P13 y2) (kc46 : cto P42 y3 = cto P13 y3) (kc47 : cto P42 (some k0) = cto P13 (some k0)) (kc52 : cto P51 k1 = cto P42 k1) (kc53 : cto P51 y1 = cto P42 y1) (kc54 : cto P51 y2 = cto P42 y2) (kc55 : cto P51 y3 = cto P42 y3) (kc56 : cto P51 (some k0) = cto P42 (some k0)) : 0 + (120 * cto κ.2.2.2.2 y1) + 0 + (120 * cto P13 k1) + 21 ≤ 120 * (cto κ.2.2.2.2 (some k0) + cto κ.2.2.2.2 k1) := by
  first | assumption | omega | (subst_vars; omega) | trivial
-- growm @92
theorem vX8_setProperty_41 (κ : KS) (k0 : Nat) (k1 : Option Nat) (y1 : Option Nat) (y2 : Option Nat) (y3 : Option Nat) (P13 : PL) (b19 : Nat) (x22 : Int32) (x28 : Int32) (P42 : PL) (P51 : PL) (kdy1 : 1 + cto κ.2.2.2.2 y1 + cto κ.2.2.2.2 y2 + cto κ.2.2.2.2 y3 ≤ cto κ.2.2.2.2 (some k0)) (kc14 : cto P13 k1 = cto κ.2.2.2.2 k1) (kc15 : cto P13 y1 = cto κ.2.2.2.2 y1) (kc16 : cto P13 y2 = cto κ.2.2.2.2 y2) (kc17 : cto P13 y3 = cto κ.2.2.2.2 y3) (kc18 : cto P13 (some k0) = cto κ.2.2.2.2 (some k0)) (ex22 : oI P13 0 b19 = x22) (c23 : ¬ x22.toInt = 0) (ex28 : oI P13 3 k0 = x28) (kc43 : cto P42 k1 = cto P13 k1) (kc44 : cto P42 y1 = cto P13 y1) (kc45 : cto P42 y2 = cto P13 y2) (kc46 : cto P42 y3 = cto P13 y3) (kc47 : cto P42 (some k0) = cto P13 (some k0)) (kc52 : cto P51 k1 = cto P42 k1) (kc53 : cto P51 y1 = cto P42 y1) (kc54 : cto P51 y2 = cto P42 y2) (kc55 : cto P51 y3 = cto P42 y3) (kc56 : cto P51 (some k0) = cto P42 (some k0)) : 13 * (cto κ.2.2.2.2 (some k0) + cto κ.2.2.2.2 k1) ≤ 13 * (cto κ.2.2.2.2 (some k0) + cto κ.2.2.2.2 k1) := by
  first | assumption | omega | (subst_vars; omega) | trivial
-- growm @92
theorem vX8_setProperty_42 (κ : KS) (k0 : Nat) (k1 : Option Nat) (y1 : Option Nat) (y2 : Option Nat) (y3 : Option Nat) (P13 : PL) (b19 : Nat) (x22 : Int32) (x28 : Int32) (P42 : PL) (P51 : PL) (kdy1 : 1 + cto κ.2.2.2.2 y1 + cto κ.2.2.2.2 y2 + cto κ.2.2.2.2 y3 ≤ cto κ.2.2.2.2 (some k0)) (kc14 : cto P13 k1 = cto κ.2.2.2.2 k1) (kc15 : cto P13 y1 = cto κ.2.2.2.2 y1) (kc16 : cto P13 y2 = cto κ.2.2.2.2 y2) (kc17 : cto P13 y3 = cto κ.2.2.2.2 y3) (kc18 : cto P13 (some k0) = cto κ.2.2.2.2 (some k0)) (ex22 : oI P13 0 b19 = x22) (c23 : ¬ x22.toInt = 0) (ex28 : oI P13 3 k0 = x28) (kc43 : cto P42 k1 = cto P13 k1) (kc44 : cto P42 y1 = cto P13 y1) (kc45 : cto P42 y2 = cto P13 y2) (kc46 : cto P42 y3 = cto P13 y3) (kc47 : cto P42 (some k0) = cto P13 (some k0)) (kc52 : cto P51 k1 = cto P42 k1) (kc53 : cto P51 y1 = cto P42 y1) (kc54 : cto P51 y2 = cto P42 y2) (kc55 : cto P51 y3 = cto P42 y3) (kc56 : cto P51 (some k0) = cto P42 (some k0)) : 120 * (cto κ.2.2.2.2 (some k0) + cto κ.2.2.2.2 k1) ≤ 120 * (cto κ.2.2.2.2 (some k0) + cto κ.2.2.2.2 k1) := by
  first | assumption | omega | (subst_vars; omega) | trivial
-- room @28
theorem vX8_setProperty_43 (κ : KS) (k0 : Nat) (k1 : Option Nat) (y1 : Option Nat) (y2 : Option Nat) (y3 : Option Nat) (P13 : PL) (b19 : Nat) (x22 : Int32) (kdy1 : 1 + cto κ.2.2.2.2 y1 + cto κ.2.2.2.2 y2 + cto κ.2.2.2.2 y3 ≤ cto κ.2.2.2.2 (some k0)) (kc14 : cto P13 k1 = cto κ.2.2.2.2 k1) (kc15 : cto P13 y1 = cto κ.2.2.2.2 y1) (kc16 : cto P13 y2 = cto κ.2.2.2.2 y2) (kc17 : cto P13 y3 = cto κ.2.2.2.2 y3) (kc18 : cto P13 (some k0) = cto κ.2.2.2.2 (some k0)) (ex22 : oI P13 0 b19 = x22) (c23 : x22.toInt = 0) : 0 + (13 * cto κ.2.2.2.2 y1) + 0 ≤ 13 * (cto κ.2.2.2.2 (some k0) + cto κ.2.2.2.2 k1) := by
  first | assumption | omega | (subst_vars; omega) | trivial
-- room @28
theorem vX8_setProperty_44 (κ : KS) (k0 : Nat) (k1 : Option Nat) (y1 : Option Nat) (y2 : Option Nat) (y3 : Option Nat) (P13 : PL) (b19 : Nat) (x22 : Int32) (kdy1 : 1 + cto κ.2.2.2.2 y1 + cto κ.2.2.2.2 y2 + cto κ.2.2.2.2 y3 ≤ cto κ.2.2.2.2 (some k0)) (kc14 : cto P13 k1 = cto κ.2.2.2.2 k1) (kc15 : cto P13 y1 = cto κ.2.2.2.2 y1) (kc16 : cto P13 y2 = cto κ.2.2.2.2 y2) (kc17 : cto P13 y3 = cto κ.2.2.2.2 y3) (kc18 : cto P13 (some k0) = cto κ.2.2.2.2 (some k0)) (ex22 : oI P13 0 b19 = x22) (c23 : x22.toInt = 0) : 0 + (120 * cto κ.2.2.2.2 y1) + 0 ≤ 120 * (cto κ.2.2.2.2 (some k0) + cto κ.2.2.2.2 k1) := by
  first | assumption | omega | (subst_vars; omega) | trivial
-- growm @31
theorem vX8_setProperty_45 (κ : KS) (k0 : Nat) (k1 : Option Nat) (y1 : Option Nat) (y2 : Option Nat) (y3 : Option Nat) (P13 : PL) (b19 : Nat) (x22 : Int32) (kdy1 : 1 + cto κ.2.2.2.2 y1 + cto κ.2.2.2.2 y2 + cto κ.2.2.2.2 y3 ≤ cto κ.2.2.2.2 (some k0)) (kc14 : cto P13 k1 = cto κ.2.2.2.2 k1) (kc15 : cto P13 y1 = cto κ.2.2.2.2 y1) (kc16 : cto P13 y2 = cto κ.2.2.2.2 y2) (kc17 : cto P13 y3 = cto κ.2.2.2.2 y3) (kc18 : cto P13 (some k0) = cto κ.2.2.2.2 (some k0)) (ex22 : oI P13 0 b19 = x22) (c23 : x22.toInt = 0) : 13 * (cto κ.2.2.2.2 (some k0) + cto κ.2.2.2.2 k1) ≤ 13 * (cto κ.2.2.2.2 (some k0) + cto κ.2.2.2.2 k1) := by
  first | assumption | omega | (subst_vars; omega) | trivial
-- growm @31
theorem vX8_setProperty_46 (κ : KS) (k0 : Nat) (k1 : Option Nat) (y1 : Option Nat) (y2 : Option Nat) (y3 : Option Nat) (P13 : PL) (b19 : Nat) (x22 : Int32) (kdy1 : 1 + cto κ.2.2.2.2 y1 + cto κ.2.2.2.2 y2 + cto κ.2.2.2.2 y3 ≤ cto κ.2.2.2.2 (some k0)) (kc14 : cto P13 k1 = cto κ.2.2.2.2 k1) (kc15 : cto P13 y1 = cto κ.2.2.2.2 y1) (kc16 : cto P13 y2 = cto κ.2.2.2.2 y2) (kc17 : cto P13 y3 = cto κ.2.2.2.2 y3) (kc18 : cto P13 (some k0) = cto κ.2.2.2.2 (some k0)) (ex22 : oI P13 0 b19 = x22) (c23 : x22.toInt = 0) : 120 * (cto κ.2.2.2.2 (some k0) + cto κ.2.2.2.2 k1) ≤ 120 * (cto κ.2.2.2.2 (some k0) + cto κ.2.2.2.2 k1) := by
  first | assumption | omega | (subst_vars; omega) | trivial
set_option maxHeartbeats 4000000 in
set_option maxRecDepth 100000 in
theorem NX8_setProperty (l : Launch) (D : va_G) (cy : Nat → ClassId) (ad : Nat → Nat) (A : Nat → Prop) (sz0 : Nat) (sa : Nat → Nat) (d : Nat) (IH : KX8_eval l D cy ad A sz0 sa d) (κ : KS) (sz sl : Nat) (hAF : ∀ q, A q → Fr sz0 q) (hAn : ∀ q : Nat, sz ≤ q → A q) (k0 : Nat) (k1 : Option Nat) (k2 : Int32) (ht0 : oT κ.2.2.2.2 k0 = 2) (ht1 : NT κ.2.2.2.2 2 k1) (hPV : PV sa κ.2.2.2.2) (hSV : SV ad κ.2.2.2.2 (κ.2.1 0) (κ.2.1 1) (κ.2.2.2.1 6) (κ.2.2.2.1 7) (κ.2.2.2.1 8) (κ.2.2.2.1 13) (κ.2.2.2.1 15) (κ.2.2.2.1 17) (κ.1 1).toInt) (hpre : 0 ≤ (κ.1 8).toInt ∧ (κ.1 8).toInt ≤ 12 ∧ 0 ≤ k2.toInt ∧ k2.toInt ≤ 40 ∧ 40 ≤ k2.toInt + ((d : Nat) : Int)) : Met l yX8_setProperty (Cond.code yX8_setProperty cX8_setProperty 6 (some (.object "PhraseDesk$Value")) :: GWc) ({ frames := 4 * d + 32, cells := 13 * (cto κ.2.2.2.2 (some k0) + cto κ.2.2.2.2 k1), slots := 120 * (cto κ.2.2.2.2 (some k0) + cto κ.2.2.2.2 k1), locals := 200 * d + 820 }) (PcC D cy ad A sz0 sa [.ref (ad 3), .ref k0, va_rf k1, .int k2] κ sz sl) (va_Qq (fun (r : Option Nat) (u : Int32 × Int32 × Int32 × Int32 × (Nat → Int32) × (Nat → Option Nat) × (Nat → Option Nat) × PL) => (EX κ.2.2.2.2 u.2.2.2.2.2.2.2) ∧ (PV sa u.2.2.2.2.2.2.2) ∧ (SV ad u.2.2.2.2.2.2.2 (κ.2.1 0) (κ.2.1 1) (κ.2.2.2.1 6) (κ.2.2.2.1 7) (κ.2.2.2.1 8) (κ.2.2.2.1 13) u.2.2.2.2.2.1 u.2.2.2.2.2.2.1 (κ.1 1).toInt) ∧ (NT u.2.2.2.2.2.2.2 1 r) ∧ (0 ≤ u.1.toInt ∧ u.1.toInt ≤ 12)) (fun (u : Int32 × Int32 × Int32 × Int32 × (Nat → Int32) × (Nat → Option Nat) × (Nat → Option Nat) × PL) (t : State) => Bx D cy ad A sz sl (tP (tQ (tQ (tA (tI (tI (tI (tI κ 8 u.1) 9 u.2.1) 10 u.2.2.1) 11 u.2.2.2.1) 16 u.2.2.2.2.1) 15 u.2.2.2.2.2.1) 17 u.2.2.2.2.2.2.1) u.2.2.2.2.2.2.2) (13 * (cto κ.2.2.2.2 (some k0) + cto κ.2.2.2.2 k1)) (120 * (cto κ.2.2.2.2 (some k0) + cto κ.2.2.2.2 k1)) t) A) (13 * (cto κ.2.2.2.2 (some k0) + cto κ.2.2.2.2 k1)) (120 * (cto κ.2.2.2.2 (some k0) + cto κ.2.2.2.2 k1)) A := by
  refine CM_of (loc0 := [(0, .ref (ad 3)), (1, .ref k0), (2, va_rf k1), (3, .int k2)]) (own := RX8) (nm := "setProperty") (by decide) rfl rfl (by cases k1 <;> rfl) (by cases k1 <;> exact Nat.le_of_ble_eq_true rfl) hAF hAn ?_
  intro p e s m below meth c ls hsz hsl C hP hS hl
  obtain ⟨hpre_0, hpre_1, hpre_2, hpre_3, hpre_4⟩ := hpre
  obtain ⟨y1, ey1⟩ : ∃ z, oR κ.2.2.2.2 3 k0 = z := ⟨_, rfl⟩
  have ty1 : NT κ.2.2.2.2 2 y1 := by rw [← ey1]; exact (hPV.t2 ht0).2.1
  obtain ⟨y2, ey2⟩ : ∃ z, oR κ.2.2.2.2 4 k0 = z := ⟨_, rfl⟩
  have ty2 : NT κ.2.2.2.2 2 y2 := by rw [← ey2]; exact (hPV.t2 ht0).2.2.1
  obtain ⟨y3, ey3⟩ : ∃ z, oR κ.2.2.2.2 5 k0 = z := ⟨_, rfl⟩
  have ty3 : NT κ.2.2.2.2 2 y3 := by rw [← ey3]; exact (hPV.t2 ht0).2.2.2.1
  have kdy1 : 1 + cto κ.2.2.2.2 y1 + cto κ.2.2.2.2 y2 + cto κ.2.2.2.2 y3 ≤ cto κ.2.2.2.2 (some k0) := by rw [← ey1, ← ey2, ← ey3]; exact (hPV.t2 ht0).2.2.2.2
  refine lv_aload_n C.x C.b dX8_setProperty_0 rfl (lv_at hl 0 rfl) ?_
  refine lv_aload_n C.x C.b dX8_setProperty_1 rfl (lv_at hl 1 rfl) ?_
  refine pg_X5_3 (v := y1) C hP (t20 (a := k0) (t := 2) ht0) ey1 cw_700 dX8_setProperty_2 ?_
  refine lv_iload_n C.x C.b dX8_setProperty_5 rfl (lv_at hl 3 rfl) ?_
  refine lv_iconst (v := 1) C.x C.b dX8_setProperty_6 (by decide +kernel) ?_
  refine lv_iadd C.x C.b dX8_setProperty_7 ?_
  refine lv_topi (fun x4 ex4 => ?_)
  have tx4 : x4.toInt = k2.toInt + 1 := (vX8_setProperty_1 k2 d x4 hpre_2 hpre_3 hpre_4 ex4)
  refine c_callVq (n := 2) (As := [va_rf y1, .int x4]) (rest := []) C hP hS hl.1 (IH κ s.heap.size (SLT s.heap) C.f (fun q h => C.a q (Nat.le_trans hS.1 h)) y1 x4 ty1 hPV hSV (vX8_setProperty_2 κ k2 d x4 hpre_0 hpre_1 hpre_2 hpre_3 hpre_4 ex4 tx4)) ⟨cw_711, cw_696, by decide +kernel⟩ ⟨cw_712, cw_713, cw_705⟩ rfl (hP.recvS (k := 3) (ci := 10) C.K rfl rfl) rfl rfl (lv_room (Nat.le_of_ble_eq_true rfl)) ⟨(vX8_setProperty_3 d ), (vX8_setProperty_4 d )⟩ ⟨(vX8_setProperty_5 κ k0 k1 y1 y2 y3 kdy1), (vX8_setProperty_6 κ k0 k1 y1 y2 y3 kdy1)⟩ dX8_setProperty_8 (fun r5 u H locs hr5 hP hS => ?_)
  obtain ⟨n6, n7, n8, n9, F10, Z11, Z12, P13⟩ := u
  have hP : CH D cy ad A (tP (tQ (tQ (tA (tI (tI (tI (tI κ 8 n6) 9 n7) 10 n8) 11 n9) 16 F10) 15 Z11) 17 Z12) P13) H := hP
  have hr5 : (EX κ.2.2.2.2 P13) ∧ (PV sa P13) ∧ (SV ad P13 (κ.2.1 0) (κ.2.1 1) (κ.2.2.2.1 6) (κ.2.2.2.1 7) (κ.2.2.2.1 8) (κ.2.2.2.1 13) Z11 Z12 (κ.1 1).toInt) ∧ (NT P13 1 r5) ∧ (0 ≤ n6.toInt ∧ n6.toInt ≤ 12) := hr5
  obtain ⟨hr5_0, hr5_1, hr5_2, hr5_3, hr5_4⟩ := hr5
  have kc14 : cto P13 k1 = cto κ.2.2.2.2 k1 := hr5_0.ct ht1 (by decide)
  have kc15 : cto P13 y1 = cto κ.2.2.2.2 y1 := hr5_0.ct ty1 (by decide)
  have kc16 : cto P13 y2 = cto κ.2.2.2.2 y2 := hr5_0.ct ty2 (by decide)
  have kc17 : cto P13 y3 = cto κ.2.2.2.2 y3 := hr5_0.ct ty3 (by decide)
  have kc18 : cto P13 (some k0) = cto κ.2.2.2.2 (some k0) := hr5_0.ct (nt_s ht0) (by decide)
  obtain ⟨hr5_4_0, hr5_4_1⟩ := hr5_4
  refine lq_astore (lv' := [(4, va_rf r5), (0, .ref (ad 3)), (1, .ref k0), (2, va_rf k1), (3, .int k2)]) C.x C.b dX8_setProperty_11 hl (by decide) (by cases r5 <;> cases k1 <;> rfl) (fun ls hl => ?_)
  refine lq_aload C.x C.b dX8_setProperty_13 (lv_at hl 0 rfl) ?_
  cases r5 with
  | none =>
    refine lv_ifnullN (tgt := 26) C.x C.b dX8_setProperty_15 (by decide) ?_
    refine lv_aload_n C.x C.b dX8_setProperty_26 rfl (lv_at hl 1 rfl) ?_
    refine lv_iconst (v := 4) C.x C.b dX8_setProperty_27 (by decide +kernel) ?_
    refine c_callVq (n := 1) (As := [.int 4]) (rest := []) C hP hS hl.1 (NX8_fail l D cy ad A sz0 sa (tP (tQ (tQ (tA (tI (tI (tI (tI κ 8 n6) 9 n7) 10 n8) 11 n9) 16 F10) 15 Z11) 17 Z12) P13) H.size (SLT H) C.f (fun q h => C.a q (Nat.le_trans hS.1 h)) (4 : Int32) ) ⟨cw_702, cw_695, by decide +kernel⟩ ⟨cw_703, cw_704, cw_705⟩ rfl (hP.recvS (k := 3) (ci := 10) C.K rfl rfl) rfl rfl (lv_room (Nat.le_of_ble_eq_true rfl)) ⟨(vX8_setProperty_7 d ), (vX8_setProperty_8 d )⟩ ⟨(vX8_setProperty_9 κ k0 k1 y1 y2 y3 P13 kdy1 kc14 kc15 kc16 kc17 kc18), (vX8_setProperty_10 κ k0 k1 y1 y2 y3 P13 kdy1 kc14 kc15 kc16 kc17 kc18)⟩ dX8_setProperty_28 (fun r20 u H locs hr20 hP hS => ?_)
    obtain ⟨n21, rfl⟩ : ∃ z, z = u := ⟨_, rfl⟩
    have hP : CH D cy ad A (tI (tP (tQ (tQ (tA (tI (tI (tI (tI κ 8 n6) 9 n7) 10 n8) 11 n9) 16 F10) 15 Z11) 17 Z12) P13) 9 n21) H := hP
    have hr20 : (NT P13 1 r20) := hr20
    have hP : CH D cy ad A (tP (tQ (tQ (tA (tI (tI (tI (tI κ 8 n6) 9 n21) 10 n8) 11 n9) 16 F10) 15 Z11) 17 Z12) P13) H := CH.cong hP rfl rfl rfl rfl rfl rfl rfl rfl rfl rfl rfl rfl rfl rfl rfl rfl rfl rfl rfl rfl rfl rfl rfl rfl rfl rfl rfl
    exact c_retq (v := r20) (Or.inl ⟨_, rfl⟩) C hsz hsl ⟨n6, n21, n8, n9, F10, Z11, Z12, P13⟩ ⟨hr5_0, hr5_1, hr5_2, hr20, (vX8_setProperty_11 n6 hr5_4_0 hr5_4_1)⟩ hP hS ⟨(vX8_setProperty_9 κ k0 k1 y1 y2 y3 P13 kdy1 kc14 kc15 kc16 kc17 kc18), (vX8_setProperty_10 κ k0 k1 y1 y2 y3 P13 kdy1 kc14 kc15 kc16 kc17 kc18)⟩ ⟨(vX8_setProperty_12 κ k0 k1 y1 y2 y3 P13 kdy1 kc14 kc15 kc16 kc17 kc18), (vX8_setProperty_13 κ k0 k1 y1 y2 y3 P13 kdy1 kc14 kc15 kc16 kc17 kc18)⟩ dX8_setProperty_31
  | some b19 =>
    have hb19 : oT P13 b19 = 1 := hr5_3 b19 rfl
    refine lv_ifnull C.x C.b dX8_setProperty_15 ?_
    refine lv_aload C.x C.b dX8_setProperty_18 (lv_at hl 0 rfl) ?_
    obtain ⟨x22, ex22⟩ : ∃ z, oI P13 0 b19 = z := ⟨_, rfl⟩
    refine pg_X10_0 (v := x22) C hP (t20 (a := b19) (t := 1) hb19) ex22 cw_718 dX8_setProperty_20 ?_
    refine lv_if_ne (tgt := 32) C.x C.b dX8_setProperty_23 (by decide) (fun c23 => ?_) (fun c23 => ?_)
    · have c23 : ¬ x22.toInt = 0 := by have h := z_ne c23; rw [show (0 : Int32).toInt = 0 from by decide +kernel] at h; exact h
      refine lv_aload C.x C.b dX8_setProperty_32 (lv_at hl 0 rfl) ?_
      obtain ⟨x24, ex24⟩ : ∃ z, oR P13 1 b19 = z := ⟨_, rfl⟩
      refine pg_X10_4 (v := x24) C hP (t20 (a := b19) (t := 1) hb19) ex24 cw_720 dX8_setProperty_34 ?_
      have tx24 : NT P13 6 x24 := by rw [← ex24]; exact (hr5_1.t1 hb19).2.1
      cases x24 with
      | none =>
        refine lv_ifnullN (tgt := 55) C.x C.b dX8_setProperty_37 (by decide) ?_
        refine lv_aload_n C.x C.b dX8_setProperty_55 rfl (lv_at hl 1 rfl) ?_
        refine lv_iconst (v := 5) C.x C.b dX8_setProperty_56 (by decide +kernel) ?_
        refine c_callVq (n := 1) (As := [.int 5]) (rest := []) C hP hS hl.1 (NX8_fail l D cy ad A sz0 sa (tP (tQ (tQ (tA (tI (tI (tI (tI κ 8 n6) 9 n7) 10 n8) 11 n9) 16 F10) 15 Z11) 17 Z12) P13) H.size (SLT H) C.f (fun q h => C.a q (Nat.le_trans hS.1 h)) (5 : Int32) ) ⟨cw_702, cw_695, by decide +kernel⟩ ⟨cw_703, cw_704, cw_705⟩ rfl (hP.recvS (k := 3) (ci := 10) C.K rfl rfl) rfl rfl (lv_room (Nat.le_of_ble_eq_true rfl)) ⟨(vX8_setProperty_7 d ), (vX8_setProperty_8 d )⟩ ⟨(vX8_setProperty_14 κ k0 k1 y1 y2 y3 P13 b19 x22 kdy1 kc14 kc15 kc16 kc17 kc18 ex22 c23), (vX8_setProperty_15 κ k0 k1 y1 y2 y3 P13 b19 x22 kdy1 kc14 kc15 kc16 kc17 kc18 ex22 c23)⟩ dX8_setProperty_57 (fun r26 u H locs hr26 hP hS => ?_)
        obtain ⟨n27, rfl⟩ : ∃ z, z = u := ⟨_, rfl⟩
        have hP : CH D cy ad A (tI (tP (tQ (tQ (tA (tI (tI (tI (tI κ 8 n6) 9 n7) 10 n8) 11 n9) 16 F10) 15 Z11) 17 Z12) P13) 9 n27) H := hP
        have hr26 : (NT P13 1 r26) := hr26
        have hP : CH D cy ad A (tP (tQ (tQ (tA (tI (tI (tI (tI κ 8 n6) 9 n27) 10 n8) 11 n9) 16 F10) 15 Z11) 17 Z12) P13) H := CH.cong hP rfl rfl rfl rfl rfl rfl rfl rfl rfl rfl rfl rfl rfl rfl rfl rfl rfl rfl rfl rfl rfl rfl rfl rfl rfl rfl rfl
        exact c_retq (v := r26) (Or.inl ⟨_, rfl⟩) C hsz hsl ⟨n6, n27, n8, n9, F10, Z11, Z12, P13⟩ ⟨hr5_0, hr5_1, hr5_2, hr26, (vX8_setProperty_11 n6 hr5_4_0 hr5_4_1)⟩ hP hS ⟨(vX8_setProperty_14 κ k0 k1 y1 y2 y3 P13 b19 x22 kdy1 kc14 kc15 kc16 kc17 kc18 ex22 c23), (vX8_setProperty_15 κ k0 k1 y1 y2 y3 P13 b19 x22 kdy1 kc14 kc15 kc16 kc17 kc18 ex22 c23)⟩ ⟨(vX8_setProperty_16 κ k0 k1 y1 y2 y3 P13 b19 x22 kdy1 kc14 kc15 kc16 kc17 kc18 ex22 c23), (vX8_setProperty_17 κ k0 k1 y1 y2 y3 P13 b19 x22 kdy1 kc14 kc15 kc16 kc17 kc18 ex22 c23)⟩ dX8_setProperty_60
      | some b25 =>
        have hb25 : oT P13 b25 = 6 := tx24 b25 rfl
        refine lv_ifnull C.x C.b dX8_setProperty_37 ?_
        refine lv_aload C.x C.b dX8_setProperty_40 (lv_at hl 0 rfl) ?_
        refine pg_X10_4 (v := (some b25)) C hP (t20 (a := b19) (t := 1) hb19) ex24 cw_720 dX8_setProperty_42 ?_
        refine lv_aload_n C.x C.b dX8_setProperty_45 rfl (lv_at hl 2 rfl) ?_
        obtain ⟨x28, ex28⟩ : ∃ z, oI P13 3 k0 = z := ⟨_, rfl⟩
        refine pg_X5_1 (v := x28) C hP (t20 (a := k0) (t := 2) (hr5_0.T ht0 (by decide))) ex28 cw_699 dX8_setProperty_46 ?_
        refine c_callVq (n := 1) (As := [.int x28]) (rest := []) C hP hS hl.1 (NX9_valueOf l D cy ad A sz0 sa (tP (tQ (tQ (tA (tI (tI (tI (tI κ 8 n6) 9 n7) 10 n8) 11 n9) 16 F10) 15 Z11) 17 Z12) P13) H.size (SLT H) C.f (fun q h => C.a q (Nat.le_trans hS.1 h)) b25 x28 hb25 hr5_1) ⟨cw_723, cw_727, by decide +kernel⟩ ⟨cw_724, cw_725, cw_726⟩ rfl (hP.recvP (t := 6) (ci := 11) C.K (t20 (a := b25) (t := 6) hb25) (by decide) rfl rfl) rfl rfl (lv_room (Nat.le_of_ble_eq_true rfl)) ⟨(vX8_setProperty_18 d ), (vX8_setProperty_19 d )⟩ ⟨(vX8_setProperty_20 κ k0 k1 y1 y2 y3 P13 b19 x22 x28 kdy1 kc14 kc15 kc16 kc17 kc18 ex22 c23 ex28), (vX8_setProperty_21 κ k0 k1 y1 y2 y3 P13 b19 x22 x28 kdy1 kc14 kc15 kc16 kc17 kc18 ex22 c23 ex28)⟩ dX8_setProperty_49 (fun r29 u H locs hr29 hP hS => ?_)
        have hr29 : (NT P13 1 r29) := hr29
        cases r29 with
        | none =>
          refine lv_ifnonnullN C.x C.b dX8_setProperty_52 ?_
          refine lv_aload_n C.x C.b dX8_setProperty_55 rfl (lv_at hl 1 rfl) ?_
          refine lv_iconst (v := 5) C.x C.b dX8_setProperty_56 (by decide +kernel) ?_
          refine c_callVq (n := 1) (As := [.int 5]) (rest := []) C hP hS hl.1 (NX8_fail l D cy ad A sz0 sa (tP (tQ (tQ (tA (tI (tI (tI (tI κ 8 n6) 9 n7) 10 n8) 11 n9) 16 F10) 15 Z11) 17 Z12) P13) H.size (SLT H) C.f (fun q h => C.a q (Nat.le_trans hS.1 h)) (5 : Int32) ) ⟨cw_702, cw_695, by decide +kernel⟩ ⟨cw_703, cw_704, cw_705⟩ rfl (hP.recvS (k := 3) (ci := 10) C.K rfl rfl) rfl rfl (lv_room (Nat.le_of_ble_eq_true rfl)) ⟨(vX8_setProperty_7 d ), (vX8_setProperty_8 d )⟩ ⟨(vX8_setProperty_22 κ k0 k1 y1 y2 y3 P13 b19 x22 x28 kdy1 kc14 kc15 kc16 kc17 kc18 ex22 c23 ex28), (vX8_setProperty_23 κ k0 k1 y1 y2 y3 P13 b19 x22 x28 kdy1 kc14 kc15 kc16 kc17 kc18 ex22 c23 ex28)⟩ dX8_setProperty_57 (fun r31 u H locs hr31 hP hS => ?_)
          obtain ⟨n32, rfl⟩ : ∃ z, z = u := ⟨_, rfl⟩
          have hP : CH D cy ad A (tI (tP (tQ (tQ (tA (tI (tI (tI (tI κ 8 n6) 9 n7) 10 n8) 11 n9) 16 F10) 15 Z11) 17 Z12) P13) 9 n32) H := hP
          have hr31 : (NT P13 1 r31) := hr31
          have hP : CH D cy ad A (tP (tQ (tQ (tA (tI (tI (tI (tI κ 8 n6) 9 n32) 10 n8) 11 n9) 16 F10) 15 Z11) 17 Z12) P13) H := CH.cong hP rfl rfl rfl rfl rfl rfl rfl rfl rfl rfl rfl rfl rfl rfl rfl rfl rfl rfl rfl rfl rfl rfl rfl rfl rfl rfl rfl
          exact c_retq (v := r31) (Or.inl ⟨_, rfl⟩) C hsz hsl ⟨n6, n32, n8, n9, F10, Z11, Z12, P13⟩ ⟨hr5_0, hr5_1, hr5_2, hr31, (vX8_setProperty_11 n6 hr5_4_0 hr5_4_1)⟩ hP hS ⟨(vX8_setProperty_22 κ k0 k1 y1 y2 y3 P13 b19 x22 x28 kdy1 kc14 kc15 kc16 kc17 kc18 ex22 c23 ex28), (vX8_setProperty_23 κ k0 k1 y1 y2 y3 P13 b19 x22 x28 kdy1 kc14 kc15 kc16 kc17 kc18 ex22 c23 ex28)⟩ ⟨(vX8_setProperty_24 κ k0 k1 y1 y2 y3 P13 b19 x22 x28 kdy1 kc14 kc15 kc16 kc17 kc18 ex22 c23 ex28), (vX8_setProperty_25 κ k0 k1 y1 y2 y3 P13 b19 x22 x28 kdy1 kc14 kc15 kc16 kc17 kc18 ex22 c23 ex28)⟩ dX8_setProperty_60
        | some b30 =>
          have hb30 : oT P13 b30 = 1 := hr29 b30 rfl
          refine lv_ifnonnull (tgt := 61) C.x C.b dX8_setProperty_52 (by decide) ?_
          refine lv_aload_n C.x C.b dX8_setProperty_61 rfl (lv_at hl 1 rfl) ?_
          refine lq_aload_n C.x C.b dX8_setProperty_62 rfl (lv_at hl 3 rfl) ?_
          refine lv_iload_n C.x C.b dX8_setProperty_63 rfl (lv_at hl 4 rfl) ?_
          refine lv_iconst (v := 1) C.x C.b dX8_setProperty_64 (by decide +kernel) ?_
          refine lv_iadd C.x C.b dX8_setProperty_65 ?_
          refine lv_topi (fun x33 ex33 => ?_)
          have tx33 : x33.toInt = k2.toInt + 1 := (vX8_setProperty_26 k2 d x4 x33 hpre_2 hpre_3 hpre_4 ex4 tx4 ex33)
          refine c_callVq (n := 2) (As := [va_rf k1, .int x33]) (rest := []) C hP hS hl.1 (IH (tP (tQ (tQ (tA (tI (tI (tI (tI κ 8 n6) 9 n7) 10 n8) 11 n9) 16 F10) 15 Z11) 17 Z12) P13) H.size (SLT H) C.f (fun q h => C.a q (Nat.le_trans hS.1 h)) k1 x33 (hr5_0.nt ht1 (by decide)) hr5_1 hr5_2 (vX8_setProperty_27 k2 d x4 n6 x33 hpre_2 hpre_3 hpre_4 ex4 tx4 hr5_4_0 hr5_4_1 ex33 tx33)) ⟨cw_711, cw_696, by decide +kernel⟩ ⟨cw_712, cw_713, cw_705⟩ rfl (hP.recvS (k := 3) (ci := 10) C.K rfl rfl) rfl rfl (lv_room (Nat.le_of_ble_eq_true rfl)) ⟨(vX8_setProperty_3 d ), (vX8_setProperty_4 d )⟩ ⟨(vX8_setProperty_28 κ k0 k1 y1 y2 y3 P13 b19 x22 x28 kdy1 kc14 kc15 kc16 kc17 kc18 ex22 c23 ex28), (vX8_setProperty_29 κ k0 k1 y1 y2 y3 P13 b19 x22 x28 kdy1 kc14 kc15 kc16 kc17 kc18 ex22 c23 ex28)⟩ dX8_setProperty_66 (fun r34 u H locs hr34 hP hS => ?_)
          obtain ⟨n35, n36, n37, n38, F39, Z40, Z41, P42⟩ := u
          have hP : CH D cy ad A (tP (tQ (tQ (tA (tI (tI (tI (tI (tP (tQ (tQ (tA (tI (tI (tI (tI κ 8 n6) 9 n7) 10 n8) 11 n9) 16 F10) 15 Z11) 17 Z12) P13) 8 n35) 9 n36) 10 n37) 11 n38) 16 F39) 15 Z40) 17 Z41) P42) H := hP
          have hr34 : (EX P13 P42) ∧ (PV sa P42) ∧ (SV ad P42 (κ.2.1 0) (κ.2.1 1) (κ.2.2.2.1 6) (κ.2.2.2.1 7) (κ.2.2.2.1 8) (κ.2.2.2.1 13) Z40 Z41 (κ.1 1).toInt) ∧ (NT P42 1 r34) ∧ (0 ≤ n35.toInt ∧ n35.toInt ≤ 12) := hr34
          obtain ⟨hr34_0, hr34_1, hr34_2, hr34_3, hr34_4⟩ := hr34
          have kc43 : cto P42 k1 = cto P13 k1 := hr34_0.ct (hr5_0.nt ht1 (by decide)) (by decide)
          have kc44 : cto P42 y1 = cto P13 y1 := hr34_0.ct (hr5_0.nt ty1 (by decide)) (by decide)
          have kc45 : cto P42 y2 = cto P13 y2 := hr34_0.ct (hr5_0.nt ty2 (by decide)) (by decide)
          have kc46 : cto P42 y3 = cto P13 y3 := hr34_0.ct (hr5_0.nt ty3 (by decide)) (by decide)
          have kc47 : cto P42 (some k0) = cto P13 (some k0) := hr34_0.ct (nt_s (hr5_0.T ht0 (by decide))) (by decide)
          obtain ⟨hr34_4_0, hr34_4_1⟩ := hr34_4
          refine lq_astore (lv' := [(5, va_rf r34), (4, .ref b19), (0, .ref (ad 3)), (1, .ref k0), (2, va_rf k1), (3, .int k2)]) C.x C.b dX8_setProperty_69 hl (by decide) (by cases r34 <;> cases k1 <;> rfl) (fun ls hl => ?_)
          refine lq_aload C.x C.b dX8_setProperty_71 (lv_at hl 0 rfl) ?_
          cases r34 with
          | none =>
            refine lv_ifnonnullN C.x C.b dX8_setProperty_73 ?_
            refine lv_null C.x C.b dX8_setProperty_76 ?_
            refine lv_goto (tgt := 92) C.x C.b dX8_setProperty_77 (by decide) ?_
            have hP : CH D cy ad A (tP (tQ (tQ (tA (tI (tI (tI (tI κ 8 n35) 9 n36) 10 n37) 11 n38) 16 F39) 15 Z40) 17 Z41) P42) H := CH.cong hP rfl rfl rfl rfl rfl rfl rfl rfl rfl rfl rfl rfl rfl rfl rfl rfl rfl rfl rfl rfl rfl rfl rfl rfl rfl rfl rfl
            exact c_retq (v := none) (Or.inl ⟨_, rfl⟩) C hsz hsl ⟨n35, n36, n37, n38, F39, Z40, Z41, P42⟩ ⟨(hr5_0.trans hr34_0), hr34_1, hr34_2, nt_n, (vX8_setProperty_30 n35 hr34_4_0 hr34_4_1)⟩ hP hS ⟨(vX8_setProperty_31 κ k0 k1 y1 y2 y3 P13 b19 x22 x28 P42 kdy1 kc14 kc15 kc16 kc17 kc18 ex22 c23 ex28 kc43 kc44 kc45 kc46 kc47), (vX8_setProperty_32 κ k0 k1 y1 y2 y3 P13 b19 x22 x28 P42 kdy1 kc14 kc15 kc16 kc17 kc18 ex22 c23 ex28 kc43 kc44 kc45 kc46 kc47)⟩ ⟨(vX8_setProperty_33 κ k0 k1 y1 y2 y3 P13 b19 x22 x28 P42 kdy1 kc14 kc15 kc16 kc17 kc18 ex22 c23 ex28 kc43 kc44 kc45 kc46 kc47), (vX8_setProperty_34 κ k0 k1 y1 y2 y3 P13 b19 x22 x28 P42 kdy1 kc14 kc15 kc16 kc17 kc18 ex22 c23 ex28 kc43 kc44 kc45 kc46 kc47)⟩ dX8_setProperty_92
          | some b48 =>
            have hb48 : oT P42 b48 = 1 := hr34_3 b48 rfl
            refine lv_ifnonnull (tgt := 80) C.x C.b dX8_setProperty_73 (by decide) ?_
            refine lv_aload_n C.x C.b dX8_setProperty_80 rfl (lv_at hl 2 rfl) ?_
            refine lv_aload C.x C.b dX8_setProperty_81 (lv_at hl 1 rfl) ?_
            refine lv_aload_n C.x C.b dX8_setProperty_83 rfl (lv_at hl 3 rfl) ?_
            refine pg_X5_1 (v := x28) C hP (t20 (a := k0) (t := 2) (hr34_0.T (hr5_0.T ht0 (by decide)) (by decide))) ((hr34_0.I (k := 3) (hr5_0.T ht0 (by decide)) (by decide) (by decide)).trans ex28) cw_699 dX8_setProperty_84 ?_
            refine lv_aload C.x C.b dX8_setProperty_87 (lv_at hl 0 rfl) ?_
            refine c_callVq (n := 3) (As := [.ref b19, .int x28, .ref b48]) (rest := []) C hP hS hl.1 (NX8_setField l D cy ad A sz0 sa (tP (tQ (tQ (tA (tI (tI (tI (tI (tP (tQ (tQ (tA (tI (tI (tI (tI κ 8 n6) 9 n7) 10 n8) 11 n9) 16 F10) 15 Z11) 17 Z12) P13) 8 n35) 9 n36) 10 n37) 11 n38) 16 F39) 15 Z40) 17 Z41) P42) H.size (SLT H) C.f (fun q h => C.a q (Nat.le_trans hS.1 h)) b19 x28 b48 (hr34_0.T hb19 (by decide)) hb48 hr34_1 hr34_2) ⟨cw_851, cw_854, by decide +kernel⟩ ⟨cw_852, cw_853, cw_705⟩ rfl (hP.recvS (k := 3) (ci := 10) C.K rfl rfl) rfl rfl (lv_room (Nat.le_of_ble_eq_true rfl)) ⟨(vX8_setProperty_35 d ), (vX8_setProperty_36 d )⟩ ⟨(vX8_setProperty_37 κ k0 k1 y1 y2 y3 P13 b19 x22 x28 P42 kdy1 kc14 kc15 kc16 kc17 kc18 ex22 c23 ex28 kc43 kc44 kc45 kc46 kc47), (vX8_setProperty_38 κ k0 k1 y1 y2 y3 P13 b19 x22 x28 P42 kdy1 kc14 kc15 kc16 kc17 kc18 ex22 c23 ex28 kc43 kc44 kc45 kc46 kc47)⟩ dX8_setProperty_89 (fun r49 u H locs hr49 hP hS => ?_)
            obtain ⟨n50, P51⟩ := u
            have hP : CH D cy ad A (tP (tI (tP (tQ (tQ (tA (tI (tI (tI (tI (tP (tQ (tQ (tA (tI (tI (tI (tI κ 8 n6) 9 n7) 10 n8) 11 n9) 16 F10) 15 Z11) 17 Z12) P13) 8 n35) 9 n36) 10 n37) 11 n38) 16 F39) 15 Z40) 17 Z41) P42) 9 n50) P51) H := hP
            have hr49 : (EX P42 P51) ∧ (PV sa P51) ∧ (SV ad P51 (κ.2.1 0) (κ.2.1 1) (κ.2.2.2.1 6) (κ.2.2.2.1 7) (κ.2.2.2.1 8) (κ.2.2.2.1 13) Z40 Z41 (κ.1 1).toInt) ∧ (NT P51 1 r49) := hr49
            obtain ⟨hr49_0, hr49_1, hr49_2, hr49_3⟩ := hr49
            have kc52 : cto P51 k1 = cto P42 k1 := hr49_0.ct (hr34_0.nt (hr5_0.nt ht1 (by decide)) (by decide)) (by decide)
            have kc53 : cto P51 y1 = cto P42 y1 := hr49_0.ct (hr34_0.nt (hr5_0.nt ty1 (by decide)) (by decide)) (by decide)
            have kc54 : cto P51 y2 = cto P42 y2 := hr49_0.ct (hr34_0.nt (hr5_0.nt ty2 (by decide)) (by decide)) (by decide)
            have kc55 : cto P51 y3 = cto P42 y3 := hr49_0.ct (hr34_0.nt (hr5_0.nt ty3 (by decide)) (by decide)) (by decide)
            have kc56 : cto P51 (some k0) = cto P42 (some k0) := hr49_0.ct (nt_s (hr34_0.T (hr5_0.T ht0 (by decide)) (by decide))) (by decide)
            have hP : CH D cy ad A (tP (tQ (tQ (tA (tI (tI (tI (tI κ 8 n35) 9 n50) 10 n37) 11 n38) 16 F39) 15 Z40) 17 Z41) P51) H := CH.cong hP rfl rfl rfl rfl rfl rfl rfl rfl rfl rfl rfl rfl rfl rfl rfl rfl rfl rfl rfl rfl rfl rfl rfl rfl rfl rfl rfl
            exact c_retq (v := r49) (Or.inl ⟨_, rfl⟩) C hsz hsl ⟨n35, n50, n37, n38, F39, Z40, Z41, P51⟩ ⟨((hr5_0.trans hr34_0).trans hr49_0), hr49_1, hr49_2, hr49_3, (vX8_setProperty_30 n35 hr34_4_0 hr34_4_1)⟩ hP hS ⟨(vX8_setProperty_39 κ k0 k1 y1 y2 y3 P13 b19 x22 x28 P42 P51 kdy1 kc14 kc15 kc16 kc17 kc18 ex22 c23 ex28 kc43 kc44 kc45 kc46 kc47 kc52 kc53 kc54 kc55 kc56), (vX8_setProperty_40 κ k0 k1 y1 y2 y3 P13 b19 x22 x28 P42 P51 kdy1 kc14 kc15 kc16 kc17 kc18 ex22 c23 ex28 kc43 kc44 kc45 kc46 kc47 kc52 kc53 kc54 kc55 kc56)⟩ ⟨(vX8_setProperty_41 κ k0 k1 y1 y2 y3 P13 b19 x22 x28 P42 P51 kdy1 kc14 kc15 kc16 kc17 kc18 ex22 c23 ex28 kc43 kc44 kc45 kc46 kc47 kc52 kc53 kc54 kc55 kc56), (vX8_setProperty_42 κ k0 k1 y1 y2 y3 P13 b19 x22 x28 P42 P51 kdy1 kc14 kc15 kc16 kc17 kc18 ex22 c23 ex28 kc43 kc44 kc45 kc46 kc47 kc52 kc53 kc54 kc55 kc56)⟩ dX8_setProperty_92
    · have c23 : x22.toInt = 0 := by have h := z_eq c23; rw [show (0 : Int32).toInt = 0 from by decide +kernel] at h; exact h
      refine lv_aload_n C.x C.b dX8_setProperty_26 rfl (lv_at hl 1 rfl) ?_
      refine lv_iconst (v := 4) C.x C.b dX8_setProperty_27 (by decide +kernel) ?_
      refine c_callVq (n := 1) (As := [.int 4]) (rest := []) C hP hS hl.1 (NX8_fail l D cy ad A sz0 sa (tP (tQ (tQ (tA (tI (tI (tI (tI κ 8 n6) 9 n7) 10 n8) 11 n9) 16 F10) 15 Z11) 17 Z12) P13) H.size (SLT H) C.f (fun q h => C.a q (Nat.le_trans hS.1 h)) (4 : Int32) ) ⟨cw_702, cw_695, by decide +kernel⟩ ⟨cw_703, cw_704, cw_705⟩ rfl (hP.recvS (k := 3) (ci := 10) C.K rfl rfl) rfl rfl (lv_room (Nat.le_of_ble_eq_true rfl)) ⟨(vX8_setProperty_7 d ), (vX8_setProperty_8 d )⟩ ⟨(vX8_setProperty_43 κ k0 k1 y1 y2 y3 P13 b19 x22 kdy1 kc14 kc15 kc16 kc17 kc18 ex22 c23), (vX8_setProperty_44 κ k0 k1 y1 y2 y3 P13 b19 x22 kdy1 kc14 kc15 kc16 kc17 kc18 ex22 c23)⟩ dX8_setProperty_28 (fun r57 u H locs hr57 hP hS => ?_)
      obtain ⟨n58, rfl⟩ : ∃ z, z = u := ⟨_, rfl⟩
      have hP : CH D cy ad A (tI (tP (tQ (tQ (tA (tI (tI (tI (tI κ 8 n6) 9 n7) 10 n8) 11 n9) 16 F10) 15 Z11) 17 Z12) P13) 9 n58) H := hP
      have hr57 : (NT P13 1 r57) := hr57
      have hP : CH D cy ad A (tP (tQ (tQ (tA (tI (tI (tI (tI κ 8 n6) 9 n58) 10 n8) 11 n9) 16 F10) 15 Z11) 17 Z12) P13) H := CH.cong hP rfl rfl rfl rfl rfl rfl rfl rfl rfl rfl rfl rfl rfl rfl rfl rfl rfl rfl rfl rfl rfl rfl rfl rfl rfl rfl rfl
      exact c_retq (v := r57) (Or.inl ⟨_, rfl⟩) C hsz hsl ⟨n6, n58, n8, n9, F10, Z11, Z12, P13⟩ ⟨hr5_0, hr5_1, hr5_2, hr57, (vX8_setProperty_11 n6 hr5_4_0 hr5_4_1)⟩ hP hS ⟨(vX8_setProperty_43 κ k0 k1 y1 y2 y3 P13 b19 x22 kdy1 kc14 kc15 kc16 kc17 kc18 ex22 c23), (vX8_setProperty_44 κ k0 k1 y1 y2 y3 P13 b19 x22 kdy1 kc14 kc15 kc16 kc17 kc18 ex22 c23)⟩ ⟨(vX8_setProperty_45 κ k0 k1 y1 y2 y3 P13 b19 x22 kdy1 kc14 kc15 kc16 kc17 kc18 ex22 c23), (vX8_setProperty_46 κ k0 k1 y1 y2 y3 P13 b19 x22 kdy1 kc14 kc15 kc16 kc17 kc18 ex22 c23)⟩ dX8_setProperty_31

-- frames @11
theorem vX8_set_1 (d : Nat)  : 0 + 1 ≤ 4 * d + 33 := by
  first | assumption | omega | (subst_vars; omega) | trivial
-- locals @11
theorem vX8_set_2 (d : Nat)  : 8 + (2 + 11) + 0 ≤ 200 * d + 860 := by
  first | assumption | omega | (subst_vars; omega) | trivial
-- room @11
theorem vX8_set_3 (κ : KS) (k0 : Nat) (y2 : Option Nat) (y3 : Option Nat) (kdy1 : 1 + cto κ.2.2.2.2 none + cto κ.2.2.2.2 y2 + cto κ.2.2.2.2 y3 ≤ cto κ.2.2.2.2 (some k0)) : 0 + 0 ≤ 13 * cto κ.2.2.2.2 (some k0) := by
  have zc0 : cto κ.2.2.2.2 none = 0 := rfl
  first | assumption | omega | (subst_vars; omega) | trivial
-- room @11
theorem vX8_set_4 (κ : KS) (k0 : Nat) (y2 : Option Nat) (y3 : Option Nat) (kdy1 : 1 + cto κ.2.2.2.2 none + cto κ.2.2.2.2 y2 + cto κ.2.2.2.2 y3 ≤ cto κ.2.2.2.2 (some k0)) : 0 + 0 ≤ 120 * cto κ.2.2.2.2 (some k0) := by
  have zc0 : cto κ.2.2.2.2 none = 0 := rfl
  first | assumption | omega | (subst_vars; omega) | trivial
-- post @14
theorem vX8_set_5 (κ : KS) (hpre_0 : 0 ≤ (κ.1 8).toInt) (hpre_1 : (κ.1 8).toInt ≤ 12) : 0 ≤ (κ.1 8).toInt ∧ (κ.1 8).toInt ≤ 12 := by
  refine ⟨?_, ?_⟩ <;> first | assumption | omega | (subst_vars; omega) | trivial
-- growm @14
theorem vX8_set_6 (κ : KS) (k0 : Nat) (y2 : Option Nat) (y3 : Option Nat) (kdy1 : 1 + cto κ.2.2.2.2 none + cto κ.2.2.2.2 y2 + cto κ.2.2.2.2 y3 ≤ cto κ.2.2.2.2 (some k0)) : 13 * cto κ.2.2.2.2 (some k0) ≤ 13 * cto κ.2.2.2.2 (some k0) := by
  have zc0 : cto κ.2.2.2.2 none = 0 := rfl
  first | assumption | omega | (subst_vars; omega) | trivial
-- growm @14
theorem vX8_set_7 (κ : KS) (k0 : Nat) (y2 : Option Nat) (y3 : Option Nat) (kdy1 : 1 + cto κ.2.2.2.2 none + cto κ.2.2.2.2 y2 + cto κ.2.2.2.2 y3 ≤ cto κ.2.2.2.2 (some k0)) : 120 * cto κ.2.2.2.2 (some k0) ≤ 120 * cto κ.2.2.2.2 (some k0) := by
  have zc0 : cto κ.2.2.2.2 none = 0 := rfl
  first | assumption | omega | (subst_vars; omega) | trivial
-- nw@41 @41
theorem vX8_set_8 (k1 : Int32) (d : Nat) (x9 : Int32) (hpre_2 : 0 ≤ k1.toInt) (hpre_3 : k1.toInt ≤ 40) (hpre_4 : 40 ≤ k1.toInt + ((d : Nat) : Int)) (ex9 : x9 = k1 + (1 : Int32)) : x9.toInt = k1.toInt + 1 := by
  have q1 : (1 : Int32).toInt = 1 := by decide +kernel
  have w1 : (1 : Int32).toInt = 1 := by decide +kernel
  rw [ex9, z_add (by omega) (by omega)]; first | done | omega
-- pre:X8_eval@42 @42
theorem vX8_set_9 (κ : KS) (k1 : Int32) (d : Nat) (x9 : Int32) (hpre_0 : 0 ≤ (κ.1 8).toInt) (hpre_1 : (κ.1 8).toInt ≤ 12) (hpre_2 : 0 ≤ k1.toInt) (hpre_3 : k1.toInt ≤ 40) (hpre_4 : 40 ≤ k1.toInt + ((d : Nat) : Int)) (ex9 : x9 = k1 + (1 : Int32)) (tx9 : x9.toInt = k1.toInt + 1) : 0 ≤ (κ.1 8).toInt ∧ (κ.1 8).toInt ≤ 12 ∧ 0 ≤ x9.toInt ∧ x9.toInt ≤ 41 ∧ 41 ≤ x9.toInt + ((d : Nat) : Int) := by
  have q1 : (1 : Int32).toInt = 1 := by decide +kernel
  refine ⟨?_, ?_, ?_, ?_, ?_⟩ <;> first | assumption | omega | (subst_vars; omega) | trivial
-- frames @42
theorem vX8_set_10 (d : Nat)  : 4 * d + 30 + 1 ≤ 4 * d + 33 := by
  first | assumption | omega | (subst_vars; omega) | trivial
-- locals @42
theorem vX8_set_11 (d : Nat)  : 8 + (3 + 11) + (200 * d + 700) ≤ 200 * d + 860 := by
  first | assumption | omega | (subst_vars; omega) | trivial
-- room @42
theorem vX8_set_12 (κ : KS) (k0 : Nat) (y2 : Option Nat) (y3 : Option Nat) (b4 : Nat) (x7 : Int32) (kdy1 : 1 + cto κ.2.2.2.2 (some b4) + cto κ.2.2.2.2 y2 + cto κ.2.2.2.2 y3 ≤ cto κ.2.2.2.2 (some k0)) (ex7 : oI κ.2.2.2.2 2 b4 = x7) (c8 : ¬ x7.toInt = 4) : 0 + (13 * cto κ.2.2.2.2 y2) ≤ 13 * cto κ.2.2.2.2 (some k0) := by
  first | assumption | omega | (subst_vars; omega) | trivial
-- room @42
theorem vX8_set_13 (κ : KS) (k0 : Nat) (y2 : Option Nat) (y3 : Option Nat) (b4 : Nat) (x7 : Int32) (kdy1 : 1 + cto κ.2.2.2.2 (some b4) + cto κ.2.2.2.2 y2 + cto κ.2.2.2.2 y3 ≤ cto κ.2.2.2.2 (some k0)) (ex7 : oI κ.2.2.2.2 2 b4 = x7) (c8 : ¬ x7.toInt = 4) : 0 + (120 * cto κ.2.2.2.2 y2) ≤ 120 * cto κ.2.2.2.2 (some k0) := by
  first | assumption | omega | (subst_vars; omega) | trivial
-- post @53
theorem vX8_set_14 (n11 : Int32) (hr10_4_0 : 0 ≤ n11.toInt) (hr10_4_1 : n11.toInt ≤ 12) : 0 ≤ n11.toInt ∧ n11.toInt ≤ 12 := by
  refine ⟨?_, ?_⟩ <;> first | assumption | omega | (subst_vars; omega) | trivial
-- grow @53
theorem vX8_set_15 (κ : KS) (k0 : Nat) (y2 : Option Nat) (y3 : Option Nat) (b4 : Nat) (x7 : Int32) (P18 : PL) (kdy1 : 1 + cto κ.2.2.2.2 (some b4) + cto κ.2.2.2.2 y2 + cto κ.2.2.2.2 y3 ≤ cto κ.2.2.2.2 (some k0)) (ex7 : oI κ.2.2.2.2 2 b4 = x7) (c8 : ¬ x7.toInt = 4) (kc19 : cto P18 y2 = cto κ.2.2.2.2 y2) (kc20 : cto P18 y3 = cto κ.2.2.2.2 y3) (kc21 : cto P18 (some k0) = cto κ.2.2.2.2 (some k0)) (kc22 : cto P18 (some b4) = cto κ.2.2.2.2 (some b4)) : 0 + (13 * cto κ.2.2.2.2 y2) ≤ 13 * cto κ.2.2.2.2 (some k0) := by
  first | assumption | omega | (subst_vars; omega) | trivial
-- grow @53
theorem vX8_set_16 (κ : KS) (k0 : Nat) (y2 : Option Nat) (y3 : Option Nat) (b4 : Nat) (x7 : Int32) (P18 : PL) (kdy1 : 1 + cto κ.2.2.2.2 (some b4) + cto κ.2.2.2.2 y2 + cto κ.2.2.2.2 y3 ≤ cto κ.2.2.2.2 (some k0)) (ex7 : oI κ.2.2.2.2 2 b4 = x7) (c8 : ¬ x7.toInt = 4) (kc19 : cto P18 y2 = cto κ.2.2.2.2 y2) (kc20 : cto P18 y3 = cto κ.2.2.2.2 y3) (kc21 : cto P18 (some k0) = cto κ.2.2.2.2 (some k0)) (kc22 : cto P18 (some b4) = cto κ.2.2.2.2 (some b4)) : 0 + (120 * cto κ.2.2.2.2 y2) ≤ 120 * cto κ.2.2.2.2 (some k0) := by
  first | assumption | omega | (subst_vars; omega) | trivial
-- growm @53
theorem vX8_set_17 (κ : KS) (k0 : Nat) (y2 : Option Nat) (y3 : Option Nat) (b4 : Nat) (x7 : Int32) (P18 : PL) (kdy1 : 1 + cto κ.2.2.2.2 (some b4) + cto κ.2.2.2.2 y2 + cto κ.2.2.2.2 y3 ≤ cto κ.2.2.2.2 (some k0)) (ex7 : oI κ.2.2.2.2 2 b4 = x7) (c8 : ¬ x7.toInt = 4) (kc19 : cto P18 y2 = cto κ.2.2.2.2 y2) (kc20 : cto P18 y3 = cto κ.2.2.2.2 y3) (kc21 : cto P18 (some k0) = cto κ.2.2.2.2 (some k0)) (kc22 : cto P18 (some b4) = cto κ.2.2.2.2 (some b4)) : 13 * cto κ.2.2.2.2 (some k0) ≤ 13 * cto κ.2.2.2.2 (some k0) := by
  first | assumption | omega | (subst_vars; omega) | trivial
-- growm @53
theorem vX8_set_18 (κ : KS) (k0 : Nat) (y2 : Option Nat) (y3 : Option Nat) (b4 : Nat) (x7 : Int32) (P18 : PL) (kdy1 : 1 + cto κ.2.2.2.2 (some b4) + cto κ.2.2.2.2 y2 + cto κ.2.2.2.2 y3 ≤ cto κ.2.2.2.2 (some k0)) (ex7 : oI κ.2.2.2.2 2 b4 = x7) (c8 : ¬ x7.toInt = 4) (kc19 : cto P18 y2 = cto κ.2.2.2.2 y2) (kc20 : cto P18 y3 = cto κ.2.2.2.2 y3) (kc21 : cto P18 (some k0) = cto κ.2.2.2.2 (some k0)) (kc22 : cto P18 (some b4) = cto κ.2.2.2.2 (some b4)) : 120 * cto κ.2.2.2.2 (some k0) ≤ 120 * cto κ.2.2.2.2 (some k0) := by
  first | assumption | omega | (subst_vars; omega) | trivial
-- locals @61
theorem vX8_set_19 (d : Nat)  : 8 + (4 + 11) + 0 ≤ 200 * d + 860 := by
  first | assumption | omega | (subst_vars; omega) | trivial
-- room @61
theorem vX8_set_20 (κ : KS) (k0 : Nat) (y2 : Option Nat) (y3 : Option Nat) (b4 : Nat) (x7 : Int32) (P18 : PL) (x24 : Int32) (kdy1 : 1 + cto κ.2.2.2.2 (some b4) + cto κ.2.2.2.2 y2 + cto κ.2.2.2.2 y3 ≤ cto κ.2.2.2.2 (some k0)) (ex7 : oI κ.2.2.2.2 2 b4 = x7) (c8 : ¬ x7.toInt = 4) (kc19 : cto P18 y2 = cto κ.2.2.2.2 y2) (kc20 : cto P18 y3 = cto κ.2.2.2.2 y3) (kc21 : cto P18 (some k0) = cto κ.2.2.2.2 (some k0)) (kc22 : cto P18 (some b4) = cto κ.2.2.2.2 (some b4)) (ex24 : oI P18 3 b4 = x24) : 0 + (13 * cto κ.2.2.2.2 y2) + 0 ≤ 13 * cto κ.2.2.2.2 (some k0) := by
  first | assumption | omega | (subst_vars; omega) | trivial
-- room @61
theorem vX8_set_21 (κ : KS) (k0 : Nat) (y2 : Option Nat) (y3 : Option Nat) (b4 : Nat) (x7 : Int32) (P18 : PL) (x24 : Int32) (kdy1 : 1 + cto κ.2.2.2.2 (some b4) + cto κ.2.2.2.2 y2 + cto κ.2.2.2.2 y3 ≤ cto κ.2.2.2.2 (some k0)) (ex7 : oI κ.2.2.2.2 2 b4 = x7) (c8 : ¬ x7.toInt = 4) (kc19 : cto P18 y2 = cto κ.2.2.2.2 y2) (kc20 : cto P18 y3 = cto κ.2.2.2.2 y3) (kc21 : cto P18 (some k0) = cto κ.2.2.2.2 (some k0)) (kc22 : cto P18 (some b4) = cto κ.2.2.2.2 (some b4)) (ex24 : oI P18 3 b4 = x24) : 0 + (120 * cto κ.2.2.2.2 y2) + 0 ≤ 120 * cto κ.2.2.2.2 (some k0) := by
  first | assumption | omega | (subst_vars; omega) | trivial
-- room @75
theorem vX8_set_22 (κ : KS) (k0 : Nat) (y2 : Option Nat) (y3 : Option Nat) (b4 : Nat) (x7 : Int32) (P18 : PL) (x24 : Int32) (kdy1 : 1 + cto κ.2.2.2.2 (some b4) + cto κ.2.2.2.2 y2 + cto κ.2.2.2.2 y3 ≤ cto κ.2.2.2.2 (some k0)) (ex7 : oI κ.2.2.2.2 2 b4 = x7) (c8 : ¬ x7.toInt = 4) (kc19 : cto P18 y2 = cto κ.2.2.2.2 y2) (kc20 : cto P18 y3 = cto κ.2.2.2.2 y3) (kc21 : cto P18 (some k0) = cto κ.2.2.2.2 (some k0)) (kc22 : cto P18 (some b4) = cto κ.2.2.2.2 (some b4)) (ex24 : oI P18 3 b4 = x24) : 0 + (13 * cto κ.2.2.2.2 y2) + 0 + 0 ≤ 13 * cto κ.2.2.2.2 (some k0) := by
  first | assumption | omega | (subst_vars; omega) | trivial
-- room @75
theorem vX8_set_23 (κ : KS) (k0 : Nat) (y2 : Option Nat) (y3 : Option Nat) (b4 : Nat) (x7 : Int32) (P18 : PL) (x24 : Int32) (kdy1 : 1 + cto κ.2.2.2.2 (some b4) + cto κ.2.2.2.2 y2 + cto κ.2.2.2.2 y3 ≤ cto κ.2.2.2.2 (some k0)) (ex7 : oI κ.2.2.2.2 2 b4 = x7) (c8 : ¬ x7.toInt = 4) (kc19 : cto P18 y2 = cto κ.2.2.2.2 y2) (kc20 : cto P18 y3 = cto κ.2.2.2.2 y3) (kc21 : cto P18 (some k0) = cto κ.2.2.2.2 (some k0)) (kc22 : cto P18 (some b4) = cto κ.2.2.2.2 (some b4)) (ex24 : oI P18 3 b4 = x24) : 0 + (120 * cto κ.2.2.2.2 y2) + 0 + 0 ≤ 120 * cto κ.2.2.2.2 (some k0) := by
  first | assumption | omega | (subst_vars; omega) | trivial
-- post @78
theorem vX8_set_24 (n26 : Int32) (hr25_2_0 : 0 ≤ n26.toInt) (hr25_2_1 : n26.toInt ≤ 12) : 0 ≤ n26.toInt ∧ n26.toInt ≤ 12 := by
  refine ⟨?_, ?_⟩ <;> first | assumption | omega | (subst_vars; omega) | trivial
-- growm @78
theorem vX8_set_25 (κ : KS) (k0 : Nat) (y2 : Option Nat) (y3 : Option Nat) (b4 : Nat) (x7 : Int32) (P18 : PL) (x24 : Int32) (kdy1 : 1 + cto κ.2.2.2.2 (some b4) + cto κ.2.2.2.2 y2 + cto κ.2.2.2.2 y3 ≤ cto κ.2.2.2.2 (some k0)) (ex7 : oI κ.2.2.2.2 2 b4 = x7) (c8 : ¬ x7.toInt = 4) (kc19 : cto P18 y2 = cto κ.2.2.2.2 y2) (kc20 : cto P18 y3 = cto κ.2.2.2.2 y3) (kc21 : cto P18 (some k0) = cto κ.2.2.2.2 (some k0)) (kc22 : cto P18 (some b4) = cto κ.2.2.2.2 (some b4)) (ex24 : oI P18 3 b4 = x24) : 13 * cto κ.2.2.2.2 (some k0) ≤ 13 * cto κ.2.2.2.2 (some k0) := by
  first | assumption | omega | (subst_vars; omega) | trivial
-- growm @78
theorem vX8_set_26 (κ : KS) (k0 : Nat) (y2 : Option Nat) (y3 : Option Nat) (b4 : Nat) (x7 : Int32) (P18 : PL) (x24 : Int32) (kdy1 : 1 + cto κ.2.2.2.2 (some b4) + cto κ.2.2.2.2 y2 + cto κ.2.2.2.2 y3 ≤ cto κ.2.2.2.2 (some k0)) (ex7 : oI κ.2.2.2.2 2 b4 = x7) (c8 : ¬ x7.toInt = 4) (kc19 : cto P18 y2 = cto κ.2.2.2.2 y2) (kc20 : cto P18 y3 = cto κ.2.2.2.2 y3) (kc21 : cto P18 (some k0) = cto κ.2.2.2.2 (some k0)) (kc22 : cto P18 (some b4) = cto κ.2.2.2.2 (some b4)) (ex24 : oI P18 3 b4 = x24) : 120 * cto κ.2.2.2.2 (some k0) ≤ 120 * cto κ.2.2.2.2 (some k0) := by
  first | assumption | omega | (subst_vars; omega) | trivial
-- pre:X8_setProperty@30 @30
theorem vX8_set_27 (κ : KS) (k1 : Int32) (d : Nat) (hpre_0 : 0 ≤ (κ.1 8).toInt) (hpre_1 : (κ.1 8).toInt ≤ 12) (hpre_2 : 0 ≤ k1.toInt) (hpre_3 : k1.toInt ≤ 40) (hpre_4 : 40 ≤ k1.toInt + ((d : Nat) : Int)) : 0 ≤ (κ.1 8).toInt ∧ (κ.1 8).toInt ≤ 12 ∧ 0 ≤ k1.toInt ∧ k1.toInt ≤ 40 ∧ 40 ≤ k1.toInt + ((d : Nat) : Int) := by
  refine ⟨?_, ?_, ?_, ?_, ?_⟩ <;> first | assumption | omega | (subst_vars; omega) | trivial
-- frames @30
theorem vX8_set_28 (d : Nat)  : 4 * d + 32 + 1 ≤ 4 * d + 33 := by
  first | assumption | omega | (subst_vars; omega) | trivial
-- locals @30
theorem vX8_set_29 (d : Nat)  : 8 + (6 + 11) + (200 * d + 820) ≤ 200 * d + 860 := by
  first | assumption | omega | (subst_vars; omega) | trivial
-- room @30
theorem vX8_set_30 (κ : KS) (k0 : Nat) (y2 : Option Nat) (y3 : Option Nat) (b4 : Nat) (x7 : Int32) (kdy1 : 1 + cto κ.2.2.2.2 (some b4) + cto κ.2.2.2.2 y2 + cto κ.2.2.2.2 y3 ≤ cto κ.2.2.2.2 (some k0)) (ex7 : oI κ.2.2.2.2 2 b4 = x7) (c8 : x7.toInt = 4) : 0 + (13 * (cto κ.2.2.2.2 (some b4) + cto κ.2.2.2.2 y2)) ≤ 13 * cto κ.2.2.2.2 (some k0) := by
  first | assumption | omega | (subst_vars; omega) | trivial
-- room @30
theorem vX8_set_31 (κ : KS) (k0 : Nat) (y2 : Option Nat) (y3 : Option Nat) (b4 : Nat) (x7 : Int32) (kdy1 : 1 + cto κ.2.2.2.2 (some b4) + cto κ.2.2.2.2 y2 + cto κ.2.2.2.2 y3 ≤ cto κ.2.2.2.2 (some k0)) (ex7 : oI κ.2.2.2.2 2 b4 = x7) (c8 : x7.toInt = 4) : 0 + (120 * (cto κ.2.2.2.2 (some b4) + cto κ.2.2.2.2 y2)) ≤ 120 * cto κ.2.2.2.2 (some k0) := by
  first | assumption | omega | (subst_vars; omega) | trivial
-- post @33
theorem vX8_set_32 (n33 : Int32) (hr32_4_0 : 0 ≤ n33.toInt) (hr32_4_1 : n33.toInt ≤ 12) : 0 ≤ n33.toInt ∧ n33.toInt ≤ 12 := by
  refine ⟨?_, ?_⟩ <;> first | assumption | omega | (subst_vars; omega) | trivial
-- grow @33
theorem vX8_set_33 (κ : KS) (k0 : Nat) (y2 : Option Nat) (y3 : Option Nat) (b4 : Nat) (x7 : Int32) (P40 : PL) (kdy1 : 1 + cto κ.2.2.2.2 (some b4) + cto κ.2.2.2.2 y2 + cto κ.2.2.2.2 y3 ≤ cto κ.2.2.2.2 (some k0)) (ex7 : oI κ.2.2.2.2 2 b4 = x7) (c8 : x7.toInt = 4) (kc41 : cto P40 y2 = cto κ.2.2.2.2 y2) (kc42 : cto P40 y3 = cto κ.2.2.2.2 y3) (kc43 : cto P40 (some k0) = cto κ.2.2.2.2 (some k0)) (kc44 : cto P40 (some b4) = cto κ.2.2.2.2 (some b4)) : 0 + (13 * (cto κ.2.2.2.2 (some b4) + cto κ.2.2.2.2 y2)) ≤ 13 * cto κ.2.2.2.2 (some k0) := by
  first | assumption | omega | (subst_vars; omega) | trivial
-- grow @33
theorem vX8_set_34 (κ : KS) (k0 : Nat) (y2 : Option Nat) (y3 : Option Nat) (b4 : Nat) (x7 : Int32) (P40 : PL) (kdy1 : 1 + cto κ.2.2.2.2 (some b4) + cto κ.2.2.2.2 y2 + cto κ.2.2.2.2 y3 ≤ cto κ.2.2.2.2 (some k0)) (ex7 : oI κ.2.2.2.2 2 b4 = x7) (c8 : x7.toInt = 4) (kc41 : cto P40 y2 = cto κ.2.2.2.2 y2) (kc42 : cto P40 y3 = cto κ.2.2.2.2 y3) (kc43 : cto P40 (some k0) = cto κ.2.2.2.2 (some k0)) (kc44 : cto P40 (some b4) = cto κ.2.2.2.2 (some b4)) : 0 + (120 * (cto κ.2.2.2.2 (some b4) + cto κ.2.2.2.2 y2)) ≤ 120 * cto κ.2.2.2.2 (some k0) := by
  first | assumption | omega | (subst_vars; omega) | trivial
-- growm @33
theorem vX8_set_35 (κ : KS) (k0 : Nat) (y2 : Option Nat) (y3 : Option Nat) (b4 : Nat) (x7 : Int32) (P40 : PL) (kdy1 : 1 + cto κ.2.2.2.2 (some b4) + cto κ.2.2.2.2 y2 + cto κ.2.2.2.2 y3 ≤ cto κ.2.2.2.2 (some k0)) (ex7 : oI κ.2.2.2.2 2 b4 = x7) (c8 : x7.toInt = 4) (kc41 : cto P40 y2 = cto κ.2.2.2.2 y2) (kc42 : cto P40 y3 = cto κ.2.2.2.2 y3) (kc43 : cto P40 (some k0) = cto κ.2.2.2.2 (some k0)) (kc44 : cto P40 (some b4) = cto κ.2.2.2.2 (some b4)) : 13 * cto κ.2.2.2.2 (some k0) ≤ 13 * cto κ.2.2.2.2 (some k0) := by
  first | assumption | omega | (subst_vars; omega) | trivial
-- growm @33
theorem vX8_set_36 (κ : KS) (k0 : Nat) (y2 : Option Nat) (y3 : Option Nat) (b4 : Nat) (x7 : Int32) (P40 : PL) (kdy1 : 1 + cto κ.2.2.2.2 (some b4) + cto κ.2.2.2.2 y2 + cto κ.2.2.2.2 y3 ≤ cto κ.2.2.2.2 (some k0)) (ex7 : oI κ.2.2.2.2 2 b4 = x7) (c8 : x7.toInt = 4) (kc41 : cto P40 y2 = cto κ.2.2.2.2 y2) (kc42 : cto P40 y3 = cto κ.2.2.2.2 y3) (kc43 : cto P40 (some k0) = cto κ.2.2.2.2 (some k0)) (kc44 : cto P40 (some b4) = cto κ.2.2.2.2 (some b4)) : 120 * cto κ.2.2.2.2 (some k0) ≤ 120 * cto κ.2.2.2.2 (some k0) := by
  first | assumption | omega | (subst_vars; omega) | trivial
set_option maxHeartbeats 4000000 in
set_option maxRecDepth 100000 in
theorem NX8_set (l : Launch) (D : va_G) (cy : Nat → ClassId) (ad : Nat → Nat) (A : Nat → Prop) (sz0 : Nat) (sa : Nat → Nat) (d : Nat) (IH : KX8_eval l D cy ad A sz0 sa d) (κ : KS) (sz sl : Nat) (hAF : ∀ q, A q → Fr sz0 q) (hAn : ∀ q : Nat, sz ≤ q → A q) (k0 : Nat) (k1 : Int32) (ht0 : oT κ.2.2.2.2 k0 = 2) (hPV : PV sa κ.2.2.2.2) (hSV : SV ad κ.2.2.2.2 (κ.2.1 0) (κ.2.1 1) (κ.2.2.2.1 6) (κ.2.2.2.1 7) (κ.2.2.2.1 8) (κ.2.2.2.1 13) (κ.2.2.2.1 15) (κ.2.2.2.1 17) (κ.1 1).toInt) (hpre : 0 ≤ (κ.1 8).toInt ∧ (κ.1 8).toInt ≤ 12 ∧ 0 ≤ k1.toInt ∧ k1.toInt ≤ 40 ∧ 40 ≤ k1.toInt + ((d : Nat) : Int)) : Met l yX8_set (Cond.code yX8_set cX8_set 5 (some (.object "PhraseDesk$Value")) :: GWc) ({ frames := 4 * d + 33, cells := 13 * cto κ.2.2.2.2 (some k0), slots := 120 * cto κ.2.2.2.2 (some k0), locals := 200 * d + 860 }) (PcC D cy ad A sz0 sa [.ref (ad 3), .ref k0, .int k1] κ sz sl) (va_Qq (fun (r : Option Nat) (u : Int32 × Int32 × Int32 × Int32 × (Nat → Int32) × (Nat → Option Nat) × (Nat → Option Nat) × PL) => (EX κ.2.2.2.2 u.2.2.2.2.2.2.2) ∧ (PV sa u.2.2.2.2.2.2.2) ∧ (SV ad u.2.2.2.2.2.2.2 (κ.2.1 0) (κ.2.1 1) (κ.2.2.2.1 6) (κ.2.2.2.1 7) (κ.2.2.2.1 8) (κ.2.2.2.1 13) u.2.2.2.2.2.1 u.2.2.2.2.2.2.1 (κ.1 1).toInt) ∧ (NT u.2.2.2.2.2.2.2 1 r) ∧ (0 ≤ u.1.toInt ∧ u.1.toInt ≤ 12)) (fun (u : Int32 × Int32 × Int32 × Int32 × (Nat → Int32) × (Nat → Option Nat) × (Nat → Option Nat) × PL) (t : State) => Bx D cy ad A sz sl (tP (tQ (tQ (tA (tI (tI (tI (tI κ 8 u.1) 9 u.2.1) 10 u.2.2.1) 11 u.2.2.2.1) 16 u.2.2.2.2.1) 15 u.2.2.2.2.2.1) 17 u.2.2.2.2.2.2.1) u.2.2.2.2.2.2.2) (13 * cto κ.2.2.2.2 (some k0)) (120 * cto κ.2.2.2.2 (some k0)) t) A) (13 * cto κ.2.2.2.2 (some k0)) (120 * cto κ.2.2.2.2 (some k0)) A := by
  refine CM_of (loc0 := [(0, .ref (ad 3)), (1, .ref k0), (2, .int k1)]) (own := RX8) (nm := "set") (by decide) rfl rfl rfl (Nat.le_of_ble_eq_true rfl) hAF hAn ?_
  intro p e s m below meth c ls hsz hsl C hP hS hl
  obtain ⟨hpre_0, hpre_1, hpre_2, hpre_3, hpre_4⟩ := hpre
  obtain ⟨y1, ey1⟩ : ∃ z, oR κ.2.2.2.2 3 k0 = z := ⟨_, rfl⟩
  have ty1 : NT κ.2.2.2.2 2 y1 := by rw [← ey1]; exact (hPV.t2 ht0).2.1
  obtain ⟨y2, ey2⟩ : ∃ z, oR κ.2.2.2.2 4 k0 = z := ⟨_, rfl⟩
  have ty2 : NT κ.2.2.2.2 2 y2 := by rw [← ey2]; exact (hPV.t2 ht0).2.2.1
  obtain ⟨y3, ey3⟩ : ∃ z, oR κ.2.2.2.2 5 k0 = z := ⟨_, rfl⟩
  have ty3 : NT κ.2.2.2.2 2 y3 := by rw [← ey3]; exact (hPV.t2 ht0).2.2.2.1
  have kdy1 : 1 + cto κ.2.2.2.2 y1 + cto κ.2.2.2.2 y2 + cto κ.2.2.2.2 y3 ≤ cto κ.2.2.2.2 (some k0) := by rw [← ey1, ← ey2, ← ey3]; exact (hPV.t2 ht0).2.2.2.2
  refine lv_aload_n C.x C.b dX8_set_0 rfl (lv_at hl 1 rfl) ?_
  refine pg_X5_3 (v := y1) C hP (t20 (a := k0) (t := 2) ht0) ey1 cw_700 dX8_set_1 ?_
  refine lq_astore_n (lv' := [(3, va_rf y1), (0, .ref (ad 3)), (1, .ref k0), (2, .int k1)]) C.x C.b dX8_set_4 rfl hl (by decide) (by cases y1 <;> rfl) (fun ls hl => ?_)
  refine lq_aload_n C.x C.b dX8_set_5 rfl (lv_at hl 0 rfl) ?_
  cases y1 with
  | none =>
    refine lv_ifnonnullN C.x C.b dX8_set_6 ?_
    refine lv_aload_n C.x C.b dX8_set_9 rfl (lv_at hl 1 rfl) ?_
    refine lv_iconst (v := 1) C.x C.b dX8_set_10 (by decide +kernel) ?_
    refine c_callVq (n := 1) (As := [.int 1]) (rest := []) C hP hS hl.1 (NX8_fail l D cy ad A sz0 sa κ s.heap.size (SLT s.heap) C.f (fun q h => C.a q (Nat.le_trans hS.1 h)) (1 : Int32) ) ⟨cw_702, cw_695, by decide +kernel⟩ ⟨cw_703, cw_704, cw_705⟩ rfl (hP.recvS (k := 3) (ci := 10) C.K rfl rfl) rfl rfl (lv_room (Nat.le_of_ble_eq_true rfl)) ⟨(vX8_set_1 d ), (vX8_set_2 d )⟩ ⟨(vX8_set_3 κ k0 y2 y3 kdy1), (vX8_set_4 κ k0 y2 y3 kdy1)⟩ dX8_set_11 (fun r5 u H locs hr5 hP hS => ?_)
    obtain ⟨n6, rfl⟩ : ∃ z, z = u := ⟨_, rfl⟩
    have hP : CH D cy ad A (tI κ 9 n6) H := hP
    have hr5 : (NT κ.2.2.2.2 1 r5) := hr5
    have hP : CH D cy ad A (tP (tQ (tQ (tA (tI (tI (tI (tI κ 8 (κ.1 8)) 9 n6) 10 (κ.1 10)) 11 (κ.1 11)) 16 (κ.2.2.1 16)) 15 (κ.2.2.2.1 15)) 17 (κ.2.2.2.1 17)) κ.2.2.2.2) H := CH.cong hP rfl rfl rfl rfl rfl rfl rfl rfl rfl rfl rfl rfl rfl rfl rfl rfl rfl rfl rfl rfl rfl rfl rfl rfl rfl rfl rfl
    exact c_retq (v := r5) (Or.inl ⟨_, rfl⟩) C hsz hsl ⟨(κ.1 8), n6, (κ.1 10), (κ.1 11), (κ.2.2.1 16), (κ.2.2.2.1 15), (κ.2.2.2.1 17), κ.2.2.2.2⟩ ⟨EX.rf, hPV, hSV, hr5, (vX8_set_5 κ hpre_0 hpre_1)⟩ hP hS ⟨(vX8_set_3 κ k0 y2 y3 kdy1), (vX8_set_4 κ k0 y2 y3 kdy1)⟩ ⟨(vX8_set_6 κ k0 y2 y3 kdy1), (vX8_set_7 κ k0 y2 y3 kdy1)⟩ dX8_set_14
  | some b4 =>
    have hb4 : oT κ.2.2.2.2 b4 = 2 := ty1 b4 rfl
    refine lv_ifnonnull (tgt := 15) C.x C.b dX8_set_6 (by decide) ?_
    refine lv_aload_n C.x C.b dX8_set_15 rfl (lv_at hl 0 rfl) ?_
    obtain ⟨x7, ex7⟩ : ∃ z, oI κ.2.2.2.2 2 b4 = z := ⟨_, rfl⟩
    refine pg_X5_0 (v := x7) C hP (t20 (a := b4) (t := 2) hb4) ex7 cw_697 dX8_set_16 ?_
    refine lv_iconst (v := 4) C.x C.b dX8_set_19 (by decide +kernel) ?_
    refine lv_icmp_ne (tgt := 34) C.x C.b dX8_set_20 (by decide) (fun c8 => ?_) (fun c8 => ?_)
    · have c8 : ¬ x7.toInt = 4 := by have h := z_ne c8; rw [show (4 : Int32).toInt = 4 from by decide +kernel] at h; exact h
      refine lv_aload_n C.x C.b dX8_set_34 rfl (lv_at hl 1 rfl) ?_
      refine lv_aload_n C.x C.b dX8_set_35 rfl (lv_at hl 2 rfl) ?_
      refine pg_X5_4 (v := y2) C hP (t20 (a := k0) (t := 2) ht0) ey2 cw_769 dX8_set_36 ?_
      refine lv_iload_n C.x C.b dX8_set_39 rfl (lv_at hl 3 rfl) ?_
      refine lv_iconst (v := 1) C.x C.b dX8_set_40 (by decide +kernel) ?_
      refine lv_iadd C.x C.b dX8_set_41 ?_
      refine lv_topi (fun x9 ex9 => ?_)
      have tx9 : x9.toInt = k1.toInt + 1 := (vX8_set_8 k1 d x9 hpre_2 hpre_3 hpre_4 ex9)
      refine c_callVq (n := 2) (As := [va_rf y2, .int x9]) (rest := []) C hP hS hl.1 (IH κ s.heap.size (SLT s.heap) C.f (fun q h => C.a q (Nat.le_trans hS.1 h)) y2 x9 ty2 hPV hSV (vX8_set_9 κ k1 d x9 hpre_0 hpre_1 hpre_2 hpre_3 hpre_4 ex9 tx9)) ⟨cw_711, cw_696, by decide +kernel⟩ ⟨cw_712, cw_713, cw_705⟩ rfl (hP.recvS (k := 3) (ci := 10) C.K rfl rfl) rfl rfl (lv_room (Nat.le_of_ble_eq_true rfl)) ⟨(vX8_set_10 d ), (vX8_set_11 d )⟩ ⟨(vX8_set_12 κ k0 y2 y3 b4 x7 kdy1 ex7 c8), (vX8_set_13 κ k0 y2 y3 b4 x7 kdy1 ex7 c8)⟩ dX8_set_42 (fun r10 u H locs hr10 hP hS => ?_)
      obtain ⟨n11, n12, n13, n14, F15, Z16, Z17, P18⟩ := u
      have hP : CH D cy ad A (tP (tQ (tQ (tA (tI (tI (tI (tI κ 8 n11) 9 n12) 10 n13) 11 n14) 16 F15) 15 Z16) 17 Z17) P18) H := hP
      have hr10 : (EX κ.2.2.2.2 P18) ∧ (PV sa P18) ∧ (SV ad P18 (κ.2.1 0) (κ.2.1 1) (κ.2.2.2.1 6) (κ.2.2.2.1 7) (κ.2.2.2.1 8) (κ.2.2.2.1 13) Z16 Z17 (κ.1 1).toInt) ∧ (NT P18 1 r10) ∧ (0 ≤ n11.toInt ∧ n11.toInt ≤ 12) := hr10
      obtain ⟨hr10_0, hr10_1, hr10_2, hr10_3, hr10_4⟩ := hr10
      have kc19 : cto P18 y2 = cto κ.2.2.2.2 y2 := hr10_0.ct ty2 (by decide)
      have kc20 : cto P18 y3 = cto κ.2.2.2.2 y3 := hr10_0.ct ty3 (by decide)
      have kc21 : cto P18 (some k0) = cto κ.2.2.2.2 (some k0) := hr10_0.ct (nt_s ht0) (by decide)
      have kc22 : cto P18 (some b4) = cto κ.2.2.2.2 (some b4) := hr10_0.ct (nt_s hb4) (by decide)
      obtain ⟨hr10_4_0, hr10_4_1⟩ := hr10_4
      refine lq_astore (lv' := [(4, va_rf r10), (3, .ref b4), (0, .ref (ad 3)), (1, .ref k0), (2, .int k1)]) C.x C.b dX8_set_45 hl (by decide) (by cases r10 <;> rfl) (fun ls hl => ?_)
      refine lq_aload C.x C.b dX8_set_47 (lv_at hl 0 rfl) ?_
      cases r10 with
      | none =>
        refine lv_ifnonnullN C.x C.b dX8_set_49 ?_
        refine lv_null C.x C.b dX8_set_52 ?_
        exact c_retq (v := none) (Or.inl ⟨_, rfl⟩) C hsz hsl ⟨n11, n12, n13, n14, F15, Z16, Z17, P18⟩ ⟨hr10_0, hr10_1, hr10_2, nt_n, (vX8_set_14 n11 hr10_4_0 hr10_4_1)⟩ hP hS ⟨(vX8_set_15 κ k0 y2 y3 b4 x7 P18 kdy1 ex7 c8 kc19 kc20 kc21 kc22), (vX8_set_16 κ k0 y2 y3 b4 x7 P18 kdy1 ex7 c8 kc19 kc20 kc21 kc22)⟩ ⟨(vX8_set_17 κ k0 y2 y3 b4 x7 P18 kdy1 ex7 c8 kc19 kc20 kc21 kc22), (vX8_set_18 κ k0 y2 y3 b4 x7 P18 kdy1 ex7 c8 kc19 kc20 kc21 kc22)⟩ dX8_set_53
      | some b23 =>
        have hb23 : oT P18 b23 = 1 := hr10_3 b23 rfl
        refine lv_ifnonnull (tgt := 54) C.x C.b dX8_set_49 (by decide) ?_
        refine lv_aload_n C.x C.b dX8_set_54 rfl (lv_at hl 2 rfl) ?_
        refine lv_aload_n C.x C.b dX8_set_55 rfl (lv_at hl 1 rfl) ?_
        obtain ⟨x24, ex24⟩ : ∃ z, oI P18 3 b4 = z := ⟨_, rfl⟩
        refine pg_X5_1 (v := x24) C hP (t20 (a := b4) (t := 2) (hr10_0.T hb4 (by decide))) ex24 cw_699 dX8_set_56 ?_
        refine lv_aload C.x C.b dX8_set_59 (lv_at hl 0 rfl) ?_
        refine c_callVi (n := 2) (As := [.int x24, .ref b23]) (rest := []) C hP hS hl.1 (NX8_setVariable l D cy ad A sz0 sa (tP (tQ (tQ (tA (tI (tI (tI (tI κ 8 n11) 9 n12) 10 n13) 11 n14) 16 F15) 15 Z16) 17 Z17) P18) H.size (SLT H) C.f (fun q h => C.a q (Nat.le_trans hS.1 h)) x24 b23 hb23 hr10_1 hr10_2 (vX8_set_14 n11 hr10_4_0 hr10_4_1)) ⟨cw_846, cw_849, by decide +kernel⟩ ⟨cw_847, cw_848, cw_705⟩ rfl (hP.recvS (k := 3) (ci := 10) C.K rfl rfl) rfl rfl (lv_room (Nat.le_of_ble_eq_true rfl)) ⟨(vX8_set_1 d ), (vX8_set_19 d )⟩ ⟨(vX8_set_20 κ k0 y2 y3 b4 x7 P18 x24 kdy1 ex7 c8 kc19 kc20 kc21 kc22 ex24), (vX8_set_21 κ k0 y2 y3 b4 x7 P18 x24 kdy1 ex7 c8 kc19 kc20 kc21 kc22 ex24)⟩ dX8_set_61 (fun r25 u H locs hr25 hP hS => ?_)
        obtain ⟨n26, F27, Z28⟩ := u
        have hP : CH D cy ad A (tQ (tA (tI (tP (tQ (tQ (tA (tI (tI (tI (tI κ 8 n11) 9 n12) 10 n13) 11 n14) 16 F15) 15 Z16) 17 Z17) P18) 8 n26) 16 F27) 17 Z28) H := hP
        have hr25 : (SV ad P18 (κ.2.1 0) (κ.2.1 1) (κ.2.2.2.1 6) (κ.2.2.2.1 7) (κ.2.2.2.1 8) (κ.2.2.2.1 13) Z16 Z28 (κ.1 1).toInt) ∧ (0 ≤ r25.toInt ∧ r25.toInt ≤ 1) ∧ (0 ≤ n26.toInt ∧ n26.toInt ≤ 12) := hr25
        obtain ⟨hr25_0, hr25_1, hr25_2⟩ := hr25
        obtain ⟨hr25_1_0, hr25_1_1⟩ := hr25_1
        obtain ⟨hr25_2_0, hr25_2_1⟩ := hr25_2
        refine lv_if_eq (tgt := 72) C.x C.b dX8_set_64 (by decide) (fun c29 => ?_) (fun c29 => ?_)
        · have c29 : r25.toInt = 0 := by have h := z_eq c29; rw [show (0 : Int32).toInt = 0 from by decide +kernel] at h; exact h
          refine lv_aload_n C.x C.b dX8_set_72 rfl (lv_at hl 2 rfl) ?_
          refine lv_bipush (v := 11) C.x C.b dX8_set_73 (by decide +kernel) ?_
          refine c_callVq (n := 1) (As := [.int 11]) (rest := []) C hP hS hl.1 (NX8_fail l D cy ad A sz0 sa (tQ (tA (tI (tP (tQ (tQ (tA (tI (tI (tI (tI κ 8 n11) 9 n12) 10 n13) 11 n14) 16 F15) 15 Z16) 17 Z17) P18) 8 n26) 16 F27) 17 Z28) H.size (SLT H) C.f (fun q h => C.a q (Nat.le_trans hS.1 h)) (11 : Int32) ) ⟨cw_702, cw_695, by decide +kernel⟩ ⟨cw_703, cw_704, cw_705⟩ rfl (hP.recvS (k := 3) (ci := 10) C.K rfl rfl) rfl rfl (lv_room (Nat.le_of_ble_eq_true rfl)) ⟨(vX8_set_1 d ), (vX8_set_2 d )⟩ ⟨(vX8_set_22 κ k0 y2 y3 b4 x7 P18 x24 kdy1 ex7 c8 kc19 kc20 kc21 kc22 ex24), (vX8_set_23 κ k0 y2 y3 b4 x7 P18 x24 kdy1 ex7 c8 kc19 kc20 kc21 kc22 ex24)⟩ dX8_set_75 (fun r30 u H locs hr30 hP hS => ?_)
          obtain ⟨n31, rfl⟩ : ∃ z, z = u := ⟨_, rfl⟩
          have hP : CH D cy ad A (tI (tQ (tA (tI (tP (tQ (tQ (tA (tI (tI (tI (tI κ 8 n11) 9 n12) 10 n13) 11 n14) 16 F15) 15 Z16) 17 Z17) P18) 8 n26) 16 F27) 17 Z28) 9 n31) H := hP
          have hr30 : (NT P18 1 r30) := hr30
          have hP : CH D cy ad A (tP (tQ (tQ (tA (tI (tI (tI (tI κ 8 n26) 9 n31) 10 n13) 11 n14) 16 F27) 15 Z16) 17 Z28) P18) H := CH.cong hP rfl rfl rfl rfl rfl rfl rfl rfl rfl rfl rfl rfl rfl rfl rfl rfl rfl rfl rfl rfl rfl rfl rfl rfl rfl rfl rfl
          exact c_retq (v := r30) (Or.inl ⟨_, rfl⟩) C hsz hsl ⟨n26, n31, n13, n14, F27, Z16, Z28, P18⟩ ⟨hr10_0, hr10_1, hr25_0, hr30, (vX8_set_24 n26 hr25_2_0 hr25_2_1)⟩ hP hS ⟨(vX8_set_22 κ k0 y2 y3 b4 x7 P18 x24 kdy1 ex7 c8 kc19 kc20 kc21 kc22 ex24), (vX8_set_23 κ k0 y2 y3 b4 x7 P18 x24 kdy1 ex7 c8 kc19 kc20 kc21 kc22 ex24)⟩ ⟨(vX8_set_25 κ k0 y2 y3 b4 x7 P18 x24 kdy1 ex7 c8 kc19 kc20 kc21 kc22 ex24), (vX8_set_26 κ k0 y2 y3 b4 x7 P18 x24 kdy1 ex7 c8 kc19 kc20 kc21 kc22 ex24)⟩ dX8_set_78
        · have c29 : ¬ r25.toInt = 0 := by have h := z_ne c29; rw [show (0 : Int32).toInt = 0 from by decide +kernel] at h; exact h
          refine lv_aload C.x C.b dX8_set_67 (lv_at hl 0 rfl) ?_
          refine lv_goto (tgt := 78) C.x C.b dX8_set_69 (by decide) ?_
          have hP : CH D cy ad A (tP (tQ (tQ (tA (tI (tI (tI (tI κ 8 n26) 9 n12) 10 n13) 11 n14) 16 F27) 15 Z16) 17 Z28) P18) H := CH.cong hP rfl rfl rfl rfl rfl rfl rfl rfl rfl rfl rfl rfl rfl rfl rfl rfl rfl rfl rfl rfl rfl rfl rfl rfl rfl rfl rfl
          exact c_retq (v := (some b23)) (Or.inl ⟨_, rfl⟩) C hsz hsl ⟨n26, n12, n13, n14, F27, Z16, Z28, P18⟩ ⟨hr10_0, hr10_1, hr25_0, (nt_s hb23), (vX8_set_24 n26 hr25_2_0 hr25_2_1)⟩ hP hS ⟨(vX8_set_20 κ k0 y2 y3 b4 x7 P18 x24 kdy1 ex7 c8 kc19 kc20 kc21 kc22 ex24), (vX8_set_21 κ k0 y2 y3 b4 x7 P18 x24 kdy1 ex7 c8 kc19 kc20 kc21 kc22 ex24)⟩ ⟨(vX8_set_25 κ k0 y2 y3 b4 x7 P18 x24 kdy1 ex7 c8 kc19 kc20 kc21 kc22 ex24), (vX8_set_26 κ k0 y2 y3 b4 x7 P18 x24 kdy1 ex7 c8 kc19 kc20 kc21 kc22 ex24)⟩ dX8_set_78
    · have c8 : x7.toInt = 4 := by have h := z_eq c8; rw [show (4 : Int32).toInt = 4 from by decide +kernel] at h; exact h
      refine lv_aload_n C.x C.b dX8_set_23 rfl (lv_at hl 1 rfl) ?_
      refine lv_aload_n C.x C.b dX8_set_24 rfl (lv_at hl 0 rfl) ?_
      refine lv_aload_n C.x C.b dX8_set_25 rfl (lv_at hl 2 rfl) ?_
      refine pg_X5_4 (v := y2) C hP (t20 (a := k0) (t := 2) ht0) ey2 cw_769 dX8_set_26 ?_
      refine lv_iload_n C.x C.b dX8_set_29 rfl (lv_at hl 3 rfl) ?_
      refine c_callVq (n := 3) (As := [.ref b4, va_rf y2, .int k1]) (rest := []) C hP hS hl.1 (NX8_setProperty l D cy ad A sz0 sa d IH κ s.heap.size (SLT s.heap) C.f (fun q h => C.a q (Nat.le_trans hS.1 h)) b4 y2 k1 hb4 ty2 hPV hSV (vX8_set_27 κ k1 d hpre_0 hpre_1 hpre_2 hpre_3 hpre_4)) ⟨cw_843, cw_850, by decide +kernel⟩ ⟨cw_844, cw_845, cw_705⟩ rfl (hP.recvS (k := 3) (ci := 10) C.K rfl rfl) rfl rfl (lv_room (Nat.le_of_ble_eq_true rfl)) ⟨(vX8_set_28 d ), (vX8_set_29 d )⟩ ⟨(vX8_set_30 κ k0 y2 y3 b4 x7 kdy1 ex7 c8), (vX8_set_31 κ k0 y2 y3 b4 x7 kdy1 ex7 c8)⟩ dX8_set_30 (fun r32 u H locs hr32 hP hS => ?_)
      obtain ⟨n33, n34, n35, n36, F37, Z38, Z39, P40⟩ := u
      have hP : CH D cy ad A (tP (tQ (tQ (tA (tI (tI (tI (tI κ 8 n33) 9 n34) 10 n35) 11 n36) 16 F37) 15 Z38) 17 Z39) P40) H := hP
      have hr32 : (EX κ.2.2.2.2 P40) ∧ (PV sa P40) ∧ (SV ad P40 (κ.2.1 0) (κ.2.1 1) (κ.2.2.2.1 6) (κ.2.2.2.1 7) (κ.2.2.2.1 8) (κ.2.2.2.1 13) Z38 Z39 (κ.1 1).toInt) ∧ (NT P40 1 r32) ∧ (0 ≤ n33.toInt ∧ n33.toInt ≤ 12) := hr32
      obtain ⟨hr32_0, hr32_1, hr32_2, hr32_3, hr32_4⟩ := hr32
      have kc41 : cto P40 y2 = cto κ.2.2.2.2 y2 := hr32_0.ct ty2 (by decide)
      have kc42 : cto P40 y3 = cto κ.2.2.2.2 y3 := hr32_0.ct ty3 (by decide)
      have kc43 : cto P40 (some k0) = cto κ.2.2.2.2 (some k0) := hr32_0.ct (nt_s ht0) (by decide)
      have kc44 : cto P40 (some b4) = cto κ.2.2.2.2 (some b4) := hr32_0.ct (nt_s hb4) (by decide)
      obtain ⟨hr32_4_0, hr32_4_1⟩ := hr32_4
      exact c_retq (v := r32) (Or.inl ⟨_, rfl⟩) C hsz hsl ⟨n33, n34, n35, n36, F37, Z38, Z39, P40⟩ ⟨hr32_0, hr32_1, hr32_2, hr32_3, (vX8_set_32 n33 hr32_4_0 hr32_4_1)⟩ hP hS ⟨(vX8_set_33 κ k0 y2 y3 b4 x7 P40 kdy1 ex7 c8 kc41 kc42 kc43 kc44), (vX8_set_34 κ k0 y2 y3 b4 x7 P40 kdy1 ex7 c8 kc41 kc42 kc43 kc44)⟩ ⟨(vX8_set_35 κ k0 y2 y3 b4 x7 P40 kdy1 ex7 c8 kc41 kc42 kc43 kc44), (vX8_set_36 κ k0 y2 y3 b4 x7 P40 kdy1 ex7 c8 kc41 kc42 kc43 kc44)⟩ dX8_set_33

-- nw@7 @7
theorem vX8_call_1 (k1 : Int32) (d : Nat) (x4 : Int32) (hpre_2 : 0 ≤ k1.toInt) (hpre_3 : k1.toInt ≤ 40) (hpre_4 : 40 ≤ k1.toInt + ((d : Nat) : Int)) (ex4 : x4 = k1 + (1 : Int32)) : x4.toInt = k1.toInt + 1 := by
  have q1 : (1 : Int32).toInt = 1 := by decide +kernel
  have w1 : (1 : Int32).toInt = 1 := by decide +kernel
  rw [ex4, z_add (by omega) (by omega)]; first | done | omega
-- pre:X8_eval@8 @8
theorem vX8_call_2 (κ : KS) (k1 : Int32) (d : Nat) (x4 : Int32) (hpre_0 : 0 ≤ (κ.1 8).toInt) (hpre_1 : (κ.1 8).toInt ≤ 12) (hpre_2 : 0 ≤ k1.toInt) (hpre_3 : k1.toInt ≤ 40) (hpre_4 : 40 ≤ k1.toInt + ((d : Nat) : Int)) (ex4 : x4 = k1 + (1 : Int32)) (tx4 : x4.toInt = k1.toInt + 1) : 0 ≤ (κ.1 8).toInt ∧ (κ.1 8).toInt ≤ 12 ∧ 0 ≤ x4.toInt ∧ x4.toInt ≤ 41 ∧ 41 ≤ x4.toInt + ((d : Nat) : Int) := by
  have q1 : (1 : Int32).toInt = 1 := by decide +kernel
  refine ⟨?_, ?_, ?_, ?_, ?_⟩ <;> first | assumption | omega | (subst_vars; omega) | trivial
-- frames @8
theorem vX8_call_3 (d : Nat)  : 4 * d + 30 + 1 ≤ 4 * d + 33 := by
  first | assumption | omega | (subst_vars; omega) | trivial
-- locals @8
theorem vX8_call_4 (d : Nat)  : 8 + (3 + 11) + (200 * d + 700) ≤ 200 * d + 860 := by
  first | assumption | omega | (subst_vars; omega) | trivial
-- room @8
theorem vX8_call_5 (κ : KS) (k0 : Nat) (y1 : Option Nat) (y2 : Option Nat) (y3 : Option Nat) (kdy1 : 1 + cto κ.2.2.2.2 y1 + cto κ.2.2.2.2 y2 + cto κ.2.2.2.2 y3 ≤ cto κ.2.2.2.2 (some k0)) : 0 + (13 * cto κ.2.2.2.2 y1) ≤ 13 * cto κ.2.2.2.2 (some k0) := by
  first | assumption | omega | (subst_vars; omega) | trivial
-- room @8
theorem vX8_call_6 (κ : KS) (k0 : Nat) (y1 : Option Nat) (y2 : Option Nat) (y3 : Option Nat) (kdy1 : 1 + cto κ.2.2.2.2 y1 + cto κ.2.2.2.2 y2 + cto κ.2.2.2.2 y3 ≤ cto κ.2.2.2.2 (some k0)) : 0 + (120 * cto κ.2.2.2.2 y1) ≤ 120 * cto κ.2.2.2.2 (some k0) := by
  first | assumption | omega | (subst_vars; omega) | trivial
-- post @17
theorem vX8_call_7 (n6 : Int32) (hr5_4_0 : 0 ≤ n6.toInt) (hr5_4_1 : n6.toInt ≤ 12) : 0 ≤ n6.toInt ∧ n6.toInt ≤ 12 := by
  refine ⟨?_, ?_⟩ <;> first | assumption | omega | (subst_vars; omega) | trivial
-- grow @17
theorem vX8_call_8 (κ : KS) (k0 : Nat) (y1 : Option Nat) (y2 : Option Nat) (y3 : Option Nat) (P13 : PL) (kdy1 : 1 + cto κ.2.2.2.2 y1 + cto κ.2.2.2.2 y2 + cto κ.2.2.2.2 y3 ≤ cto κ.2.2.2.2 (some k0)) (kc14 : cto P13 y1 = cto κ.2.2.2.2 y1) (kc15 : cto P13 y2 = cto κ.2.2.2.2 y2) (kc16 : cto P13 y3 = cto κ.2.2.2.2 y3) (kc17 : cto P13 (some k0) = cto κ.2.2.2.2 (some k0)) : 0 + (13 * cto κ.2.2.2.2 y1) ≤ 13 * cto κ.2.2.2.2 (some k0) := by
  first | assumption | omega | (subst_vars; omega) | trivial
-- grow @17
theorem vX8_call_9 (κ : KS) (k0 : Nat) (y1 : Option Nat) (y2 : Option Nat) (y3 : Option Nat) (P13 : PL) (kdy1 : 1 + cto κ.2.2.2.2 y1 + cto κ.2.2.2.2 y2 + cto κ.2.2.2.2 y3 ≤ cto κ.2.2.2.2 (some k0)) (kc14 : cto P13 y1 = cto κ.2.2.2.2 y1) (kc15 : cto P13 y2 = cto κ.2.2.2.2 y2) (kc16 : cto P13 y3 = cto κ.2.2.2.2 y3) (kc17 : cto P13 (some k0) = cto κ.2.2.2.2 (some k0)) : 0 + (120 * cto κ.2.2.2.2 y1) ≤ 120 * cto κ.2.2.2.2 (some k0) := by
  first | assumption | omega | (subst_vars; omega) | trivial
-- growm @17
theorem vX8_call_10 (κ : KS) (k0 : Nat) (y1 : Option Nat) (y2 : Option Nat) (y3 : Option Nat) (P13 : PL) (kdy1 : 1 + cto κ.2.2.2.2 y1 + cto κ.2.2.2.2 y2 + cto κ.2.2.2.2 y3 ≤ cto κ.2.2.2.2 (some k0)) (kc14 : cto P13 y1 = cto κ.2.2.2.2 y1) (kc15 : cto P13 y2 = cto κ.2.2.2.2 y2) (kc16 : cto P13 y3 = cto κ.2.2.2.2 y3) (kc17 : cto P13 (some k0) = cto κ.2.2.2.2 (some k0)) : 13 * cto κ.2.2.2.2 (some k0) ≤ 13 * cto κ.2.2.2.2 (some k0) := by
  first | assumption | omega | (subst_vars; omega) | trivial
-- growm @17
theorem vX8_call_11 (κ : KS) (k0 : Nat) (y1 : Option Nat) (y2 : Option Nat) (y3 : Option Nat) (P13 : PL) (kdy1 : 1 + cto κ.2.2.2.2 y1 + cto κ.2.2.2.2 y2 + cto κ.2.2.2.2 y3 ≤ cto κ.2.2.2.2 (some k0)) (kc14 : cto P13 y1 = cto κ.2.2.2.2 y1) (kc15 : cto P13 y2 = cto κ.2.2.2.2 y2) (kc16 : cto P13 y3 = cto κ.2.2.2.2 y3) (kc17 : cto P13 (some k0) = cto κ.2.2.2.2 (some k0)) : 120 * cto κ.2.2.2.2 (some k0) ≤ 120 * cto κ.2.2.2.2 (some k0) := by
  first | assumption | omega | (subst_vars; omega) | trivial
-- frames @122
theorem vX8_call_12 (d : Nat)  : 0 + 1 ≤ 4 * d + 33 := by
  first | assumption | omega | (subst_vars; omega) | trivial
-- locals @122
theorem vX8_call_13 (d : Nat)  : 8 + (2 + 11) + 0 ≤ 200 * d + 860 := by
  first | assumption | omega | (subst_vars; omega) | trivial
-- room @122
theorem vX8_call_14 (κ : KS) (k0 : Nat) (y1 : Option Nat) (P13 : PL) (b18 : Nat) (x19 : Int32) (kdy1 : 1 + cto κ.2.2.2.2 y1 + cto κ.2.2.2.2 none + cto κ.2.2.2.2 none ≤ cto κ.2.2.2.2 (some k0)) (kc14 : cto P13 y1 = cto κ.2.2.2.2 y1) (kc15 : cto P13 none = cto κ.2.2.2.2 none) (kc16 : cto P13 none = cto κ.2.2.2.2 none) (kc17 : cto P13 (some k0) = cto κ.2.2.2.2 (some k0)) (ex19 : oI P13 0 b18 = x19) (c20 : ¬ x19.toInt = 0) : 0 + (13 * cto κ.2.2.2.2 y1) + 0 ≤ 13 * cto κ.2.2.2.2 (some k0) := by
  have zc0 : cto P13 none = 0 := rfl
  have zc1 : cto κ.2.2.2.2 none = 0 := rfl
  first | assumption | omega | (subst_vars; omega) | trivial
-- room @122
theorem vX8_call_15 (κ : KS) (k0 : Nat) (y1 : Option Nat) (P13 : PL) (b18 : Nat) (x19 : Int32) (kdy1 : 1 + cto κ.2.2.2.2 y1 + cto κ.2.2.2.2 none + cto κ.2.2.2.2 none ≤ cto κ.2.2.2.2 (some k0)) (kc14 : cto P13 y1 = cto κ.2.2.2.2 y1) (kc15 : cto P13 none = cto κ.2.2.2.2 none) (kc16 : cto P13 none = cto κ.2.2.2.2 none) (kc17 : cto P13 (some k0) = cto κ.2.2.2.2 (some k0)) (ex19 : oI P13 0 b18 = x19) (c20 : ¬ x19.toInt = 0) : 0 + (120 * cto κ.2.2.2.2 y1) + 0 ≤ 120 * cto κ.2.2.2.2 (some k0) := by
  have zc0 : cto P13 none = 0 := rfl
  have zc1 : cto κ.2.2.2.2 none = 0 := rfl
  first | assumption | omega | (subst_vars; omega) | trivial
-- growm @125
theorem vX8_call_16 (κ : KS) (k0 : Nat) (y1 : Option Nat) (P13 : PL) (b18 : Nat) (x19 : Int32) (kdy1 : 1 + cto κ.2.2.2.2 y1 + cto κ.2.2.2.2 none + cto κ.2.2.2.2 none ≤ cto κ.2.2.2.2 (some k0)) (kc14 : cto P13 y1 = cto κ.2.2.2.2 y1) (kc15 : cto P13 none = cto κ.2.2.2.2 none) (kc16 : cto P13 none = cto κ.2.2.2.2 none) (kc17 : cto P13 (some k0) = cto κ.2.2.2.2 (some k0)) (ex19 : oI P13 0 b18 = x19) (c20 : ¬ x19.toInt = 0) : 13 * cto κ.2.2.2.2 (some k0) ≤ 13 * cto κ.2.2.2.2 (some k0) := by
  have zc0 : cto P13 none = 0 := rfl
  have zc1 : cto κ.2.2.2.2 none = 0 := rfl
  first | assumption | omega | (subst_vars; omega) | trivial
-- growm @125
theorem vX8_call_17 (κ : KS) (k0 : Nat) (y1 : Option Nat) (P13 : PL) (b18 : Nat) (x19 : Int32) (kdy1 : 1 + cto κ.2.2.2.2 y1 + cto κ.2.2.2.2 none + cto κ.2.2.2.2 none ≤ cto κ.2.2.2.2 (some k0)) (kc14 : cto P13 y1 = cto κ.2.2.2.2 y1) (kc15 : cto P13 none = cto κ.2.2.2.2 none) (kc16 : cto P13 none = cto κ.2.2.2.2 none) (kc17 : cto P13 (some k0) = cto κ.2.2.2.2 (some k0)) (ex19 : oI P13 0 b18 = x19) (c20 : ¬ x19.toInt = 0) : 120 * cto κ.2.2.2.2 (some k0) ≤ 120 * cto κ.2.2.2.2 (some k0) := by
  have zc0 : cto P13 none = 0 := rfl
  have zc1 : cto κ.2.2.2.2 none = 0 := rfl
  first | assumption | omega | (subst_vars; omega) | trivial
-- frames @146
theorem vX8_call_18 (d : Nat)  : 4 + 1 ≤ 4 * d + 33 := by
  first | assumption | omega | (subst_vars; omega) | trivial
-- locals @146
theorem vX8_call_19 (d : Nat)  : 8 + (7 + 11) + 94 ≤ 200 * d + 860 := by
  first | assumption | omega | (subst_vars; omega) | trivial
-- room @164
theorem vX8_call_20 (κ : KS) (k0 : Nat) (y1 : Option Nat) (P13 : PL) (b18 : Nat) (x19 : Int32) (kdy1 : 1 + cto κ.2.2.2.2 y1 + cto κ.2.2.2.2 none + cto κ.2.2.2.2 none ≤ cto κ.2.2.2.2 (some k0)) (kc14 : cto P13 y1 = cto κ.2.2.2.2 y1) (kc15 : cto P13 none = cto κ.2.2.2.2 none) (kc16 : cto P13 none = cto κ.2.2.2.2 none) (kc17 : cto P13 (some k0) = cto κ.2.2.2.2 (some k0)) (ex19 : oI P13 0 b18 = x19) (c20 : ¬ x19.toInt = 0) : 0 + (13 * cto κ.2.2.2.2 y1) + 0 + 0 ≤ 13 * cto κ.2.2.2.2 (some k0) := by
  have zc0 : cto P13 none = 0 := rfl
  have zc1 : cto κ.2.2.2.2 none = 0 := rfl
  first | assumption | omega | (subst_vars; omega) | trivial
-- room @164
theorem vX8_call_21 (κ : KS) (k0 : Nat) (y1 : Option Nat) (P13 : PL) (b18 : Nat) (x19 : Int32) (kdy1 : 1 + cto κ.2.2.2.2 y1 + cto κ.2.2.2.2 none + cto κ.2.2.2.2 none ≤ cto κ.2.2.2.2 (some k0)) (kc14 : cto P13 y1 = cto κ.2.2.2.2 y1) (kc15 : cto P13 none = cto κ.2.2.2.2 none) (kc16 : cto P13 none = cto κ.2.2.2.2 none) (kc17 : cto P13 (some k0) = cto κ.2.2.2.2 (some k0)) (ex19 : oI P13 0 b18 = x19) (c20 : ¬ x19.toInt = 0) : 0 + (120 * cto κ.2.2.2.2 y1) + 0 + 0 ≤ 120 * cto κ.2.2.2.2 (some k0) := by
  have zc0 : cto P13 none = 0 := rfl
  have zc1 : cto κ.2.2.2.2 none = 0 := rfl
  first | assumption | omega | (subst_vars; omega) | trivial
-- frames @176
theorem vX8_call_22 (d : Nat)  : 8 + 1 ≤ 4 * d + 33 := by
  first | assumption | omega | (subst_vars; omega) | trivial
-- locals @176
theorem vX8_call_23 (d : Nat)  : 8 + (4 + 11) + 195 ≤ 200 * d + 860 := by
  first | assumption | omega | (subst_vars; omega) | trivial
-- room @176
theorem vX8_call_24 (κ : KS) (k0 : Nat) (y1 : Option Nat) (P13 : PL) (b18 : Nat) (x19 : Int32) (b32 : Nat) (x35 : Int32) (kdy1 : 1 + cto κ.2.2.2.2 y1 + cto κ.2.2.2.2 none + cto κ.2.2.2.2 none ≤ cto κ.2.2.2.2 (some k0)) (kc14 : cto P13 y1 = cto κ.2.2.2.2 y1) (kc15 : cto P13 none = cto κ.2.2.2.2 none) (kc16 : cto P13 none = cto κ.2.2.2.2 none) (kc17 : cto P13 (some k0) = cto κ.2.2.2.2 (some k0)) (ex19 : oI P13 0 b18 = x19) (c20 : ¬ x19.toInt = 0) (ex35 : oI P13 14 b32 = x35) : 0 + (13 * cto κ.2.2.2.2 y1) + 0 + 3 ≤ 13 * cto κ.2.2.2.2 (some k0) := by
  have zc0 : cto P13 none = 0 := rfl
  have zc1 : cto κ.2.2.2.2 none = 0 := rfl
  first | assumption | omega | (subst_vars; omega) | trivial
-- room @176
theorem vX8_call_25 (κ : KS) (k0 : Nat) (y1 : Option Nat) (P13 : PL) (b18 : Nat) (x19 : Int32) (b32 : Nat) (x35 : Int32) (kdy1 : 1 + cto κ.2.2.2.2 y1 + cto κ.2.2.2.2 none + cto κ.2.2.2.2 none ≤ cto κ.2.2.2.2 (some k0)) (kc14 : cto P13 y1 = cto κ.2.2.2.2 y1) (kc15 : cto P13 none = cto κ.2.2.2.2 none) (kc16 : cto P13 none = cto κ.2.2.2.2 none) (kc17 : cto P13 (some k0) = cto κ.2.2.2.2 (some k0)) (ex19 : oI P13 0 b18 = x19) (c20 : ¬ x19.toInt = 0) (ex35 : oI P13 14 b32 = x35) : 0 + (120 * cto κ.2.2.2.2 y1) + 0 + 21 ≤ 120 * cto κ.2.2.2.2 (some k0) := by
  have zc0 : cto P13 none = 0 := rfl
  have zc1 : cto κ.2.2.2.2 none = 0 := rfl
  first | assumption | omega | (subst_vars; omega) | trivial
-- grow @223
theorem vX8_call_26 (κ : KS) (k0 : Nat) (y1 : Option Nat) (P13 : PL) (b18 : Nat) (x19 : Int32) (b32 : Nat) (x35 : Int32) (P38 : PL) (kdy1 : 1 + cto κ.2.2.2.2 y1 + cto κ.2.2.2.2 none + cto κ.2.2.2.2 none ≤ cto κ.2.2.2.2 (some k0)) (kc14 : cto P13 y1 = cto κ.2.2.2.2 y1) (kc15 : cto P13 none = cto κ.2.2.2.2 none) (kc16 : cto P13 none = cto κ.2.2.2.2 none) (kc17 : cto P13 (some k0) = cto κ.2.2.2.2 (some k0)) (ex19 : oI P13 0 b18 = x19) (c20 : ¬ x19.toInt = 0) (ex35 : oI P13 14 b32 = x35) (kc39 : cto P38 y1 = cto P13 y1) (kc40 : cto P38 (some k0) = cto P13 (some k0)) : 0 + (13 * cto κ.2.2.2.2 y1) + 0 + 3 ≤ 13 * cto κ.2.2.2.2 (some k0) := by
  have zc0 : cto P13 none = 0 := rfl
  have zc1 : cto κ.2.2.2.2 none = 0 := rfl
  first | assumption | omega | (subst_vars; omega) | trivial
-- grow @223
theorem vX8_call_27 (κ : KS) (k0 : Nat) (y1 : Option Nat) (P13 : PL) (b18 : Nat) (x19 : Int32) (b32 : Nat) (x35 : Int32) (P38 : PL) (kdy1 : 1 + cto κ.2.2.2.2 y1 + cto κ.2.2.2.2 none + cto κ.2.2.2.2 none ≤ cto κ.2.2.2.2 (some k0)) (kc14 : cto P13 y1 = cto κ.2.2.2.2 y1) (kc15 : cto P13 none = cto κ.2.2.2.2 none) (kc16 : cto P13 none = cto κ.2.2.2.2 none) (kc17 : cto P13 (some k0) = cto κ.2.2.2.2 (some k0)) (ex19 : oI P13 0 b18 = x19) (c20 : ¬ x19.toInt = 0) (ex35 : oI P13 14 b32 = x35) (kc39 : cto P38 y1 = cto P13 y1) (kc40 : cto P38 (some k0) = cto P13 (some k0)) : 0 + (120 * cto κ.2.2.2.2 y1) + 0 + 21 ≤ 120 * cto κ.2.2.2.2 (some k0) := by
  have zc0 : cto P13 none = 0 := rfl
  have zc1 : cto κ.2.2.2.2 none = 0 := rfl
  first | assumption | omega | (subst_vars; omega) | trivial
-- growm @223
theorem vX8_call_28 (κ : KS) (k0 : Nat) (y1 : Option Nat) (P13 : PL) (b18 : Nat) (x19 : Int32) (b32 : Nat) (x35 : Int32) (P38 : PL) (kdy1 : 1 + cto κ.2.2.2.2 y1 + cto κ.2.2.2.2 none + cto κ.2.2.2.2 none ≤ cto κ.2.2.2.2 (some k0)) (kc14 : cto P13 y1 = cto κ.2.2.2.2 y1) (kc15 : cto P13 none = cto κ.2.2.2.2 none) (kc16 : cto P13 none = cto κ.2.2.2.2 none) (kc17 : cto P13 (some k0) = cto κ.2.2.2.2 (some k0)) (ex19 : oI P13 0 b18 = x19) (c20 : ¬ x19.toInt = 0) (ex35 : oI P13 14 b32 = x35) (kc39 : cto P38 y1 = cto P13 y1) (kc40 : cto P38 (some k0) = cto P13 (some k0)) : 13 * cto κ.2.2.2.2 (some k0) ≤ 13 * cto κ.2.2.2.2 (some k0) := by
  have zc0 : cto P13 none = 0 := rfl
  have zc1 : cto κ.2.2.2.2 none = 0 := rfl
  first | assumption | omega | (subst_vars; omega) | trivial
-- growm @223
theorem vX8_call_29 (κ : KS) (k0 : Nat) (y1 : Option Nat) (P13 : PL) (b18 : Nat) (x19 : Int32) (b32 : Nat) (x35 : Int32) (P38 : PL) (kdy1 : 1 + cto κ.2.2.2.2 y1 + cto κ.2.2.2.2 none + cto κ.2.2.2.2 none ≤ cto κ.2.2.2.2 (some k0)) (kc14 : cto P13 y1 = cto κ.2.2.2.2 y1) (kc15 : cto P13 none = cto κ.2.2.2.2 none) (kc16 : cto P13 none = cto κ.2.2.2.2 none) (kc17 : cto P13 (some k0) = cto κ.2.2.2.2 (some k0)) (ex19 : oI P13 0 b18 = x19) (c20 : ¬ x19.toInt = 0) (ex35 : oI P13 14 b32 = x35) (kc39 : cto P38 y1 = cto P13 y1) (kc40 : cto P38 (some k0) = cto P13 (some k0)) : 120 * cto κ.2.2.2.2 (some k0) ≤ 120 * cto κ.2.2.2.2 (some k0) := by
  have zc0 : cto P13 none = 0 := rfl
  have zc1 : cto κ.2.2.2.2 none = 0 := rfl
  first | assumption | omega | (subst_vars; omega) | trivial
-- room @198
theorem vX8_call_30 (κ : KS) (k0 : Nat) (y1 : Option Nat) (P13 : PL) (b18 : Nat) (x19 : Int32) (b32 : Nat) (x35 : Int32) (P38 : PL) (x42 : Int32) (kdy1 : 1 + cto κ.2.2.2.2 y1 + cto κ.2.2.2.2 none + cto κ.2.2.2.2 none ≤ cto κ.2.2.2.2 (some k0)) (kc14 : cto P13 y1 = cto κ.2.2.2.2 y1) (kc15 : cto P13 none = cto κ.2.2.2.2 none) (kc16 : cto P13 none = cto κ.2.2.2.2 none) (kc17 : cto P13 (some k0) = cto κ.2.2.2.2 (some k0)) (ex19 : oI P13 0 b18 = x19) (c20 : ¬ x19.toInt = 0) (ex35 : oI P13 14 b32 = x35) (kc39 : cto P38 y1 = cto P13 y1) (kc40 : cto P38 (some k0) = cto P13 (some k0)) (ex42 : oI P38 15 b32 = x42) : 0 + (13 * cto κ.2.2.2.2 y1) + 0 + 3 + 3 ≤ 13 * cto κ.2.2.2.2 (some k0) := by
  have zc0 : cto P13 none = 0 := rfl
  have zc1 : cto κ.2.2.2.2 none = 0 := rfl
  first | assumption | omega | (subst_vars; omega) | trivial
-- room @198
theorem vX8_call_31 (κ : KS) (k0 : Nat) (y1 : Option Nat) (P13 : PL) (b18 : Nat) (x19 : Int32) (b32 : Nat) (x35 : Int32) (P38 : PL) (x42 : Int32) (kdy1 : 1 + cto κ.2.2.2.2 y1 + cto κ.2.2.2.2 none + cto κ.2.2.2.2 none ≤ cto κ.2.2.2.2 (some k0)) (kc14 : cto P13 y1 = cto κ.2.2.2.2 y1) (kc15 : cto P13 none = cto κ.2.2.2.2 none) (kc16 : cto P13 none = cto κ.2.2.2.2 none) (kc17 : cto P13 (some k0) = cto κ.2.2.2.2 (some k0)) (ex19 : oI P13 0 b18 = x19) (c20 : ¬ x19.toInt = 0) (ex35 : oI P13 14 b32 = x35) (kc39 : cto P38 y1 = cto P13 y1) (kc40 : cto P38 (some k0) = cto P13 (some k0)) (ex42 : oI P38 15 b32 = x42) : 0 + (120 * cto κ.2.2.2.2 y1) + 0 + 21 + 21 ≤ 120 * cto κ.2.2.2.2 (some k0) := by
  have zc0 : cto P13 none = 0 := rfl
  have zc1 : cto κ.2.2.2.2 none = 0 := rfl
  first | assumption | omega | (subst_vars; omega) | trivial
-- grow @223
theorem vX8_call_32 (κ : KS) (k0 : Nat) (y1 : Option Nat) (P13 : PL) (b18 : Nat) (x19 : Int32) (b32 : Nat) (x35 : Int32) (P38 : PL) (x42 : Int32) (P45 : PL) (kdy1 : 1 + cto κ.2.2.2.2 y1 + cto κ.2.2.2.2 none + cto κ.2.2.2.2 none ≤ cto κ.2.2.2.2 (some k0)) (kc14 : cto P13 y1 = cto κ.2.2.2.2 y1) (kc15 : cto P13 none = cto κ.2.2.2.2 none) (kc16 : cto P13 none = cto κ.2.2.2.2 none) (kc17 : cto P13 (some k0) = cto κ.2.2.2.2 (some k0)) (ex19 : oI P13 0 b18 = x19) (c20 : ¬ x19.toInt = 0) (ex35 : oI P13 14 b32 = x35) (kc39 : cto P38 y1 = cto P13 y1) (kc40 : cto P38 (some k0) = cto P13 (some k0)) (ex42 : oI P38 15 b32 = x42) (kc46 : cto P45 y1 = cto P38 y1) (kc47 : cto P45 (some k0) = cto P38 (some k0)) : 0 + (13 * cto κ.2.2.2.2 y1) + 0 + 3 + 3 ≤ 13 * cto κ.2.2.2.2 (some k0) := by
  have zc0 : cto P13 none = 0 := rfl
  have zc1 : cto κ.2.2.2.2 none = 0 := rfl
  first | assumption | omega | (subst_vars; omega) | trivial
-- grow @223
theorem vX8_call_33 (κ : KS) (k0 : Nat) (y1 : Option Nat) (P13 : PL) (b18 : Nat) (x19 : Int32) (b32 : Nat) (x35 : Int32) (P38 : PL) (x42 : Int32) (P45 : PL) (kdy1 : 1 + cto κ.2.2.2.2 y1 + cto κ.2.2.2.2 none + cto κ.2.2.2.2 none ≤ cto κ.2.2.2.2 (some k0)) (kc14 : cto P13 y1 = cto κ.2.2.2.2 y1) (kc15 : cto P13 none = cto κ.2.2.2.2 none) (kc16 : cto P13 none = cto κ.2.2.2.2 none) (kc17 : cto P13 (some k0) = cto κ.2.2.2.2 (some k0)) (ex19 : oI P13 0 b18 = x19) (c20 : ¬ x19.toInt = 0) (ex35 : oI P13 14 b32 = x35) (kc39 : cto P38 y1 = cto P13 y1) (kc40 : cto P38 (some k0) = cto P13 (some k0)) (ex42 : oI P38 15 b32 = x42) (kc46 : cto P45 y1 = cto P38 y1) (kc47 : cto P45 (some k0) = cto P38 (some k0)) : 0 + (120 * cto κ.2.2.2.2 y1) + 0 + 21 + 21 ≤ 120 * cto κ.2.2.2.2 (some k0) := by
  have zc0 : cto P13 none = 0 := rfl
  have zc1 : cto κ.2.2.2.2 none = 0 := rfl
  first | assumption | omega | (subst_vars; omega) | trivial
-- growm @223
theorem vX8_call_34 (κ : KS) (k0 : Nat) (y1 : Option Nat) (P13 : PL) (b18 : Nat) (x19 : Int32) (b32 : Nat) (x35 : Int32) (P38 : PL) (x42 : Int32) (P45 : PL) (kdy1 : 1 + cto κ.2.2.2.2 y1 + cto κ.2.2.2.2 none + cto κ.2.2.2.2 none ≤ cto κ.2.2.2.2 (some k0)) (kc14 : cto P13 y1 = cto κ.2.2.2.2 y1) (kc15 : cto P13 none = cto κ.2.2.2.2 none) (kc16 : cto P13 none = cto κ.2.2.2.2 none) (kc17 : cto P13 (some k0) = cto κ.2.2.2.2 (some k0)) (ex19 : oI P13 0 b18 = x19) (c20 : ¬ x19.toInt = 0) (ex35 : oI P13 14 b32 = x35) (kc39 : cto P38 y1 = cto P13 y1) (kc40 : cto P38 (some k0) = cto P13 (some k0)) (ex42 : oI P38 15 b32 = x42) (kc46 : cto P45 y1 = cto P38 y1) (kc47 : cto P45 (some k0) = cto P38 (some k0)) : 13 * cto κ.2.2.2.2 (some k0) ≤ 13 * cto κ.2.2.2.2 (some k0) := by
  have zc0 : cto P13 none = 0 := rfl
  have zc1 : cto κ.2.2.2.2 none = 0 := rfl
  first | assumption | omega | (subst_vars; omega) | trivial
-- growm @223
theorem vX8_call_35 (κ : KS) (k0 : Nat) (y1 : Option Nat) (P13 : PL) (b18 : Nat) (x19 : Int32) (b32 : Nat) (x35 : Int32) (P38 : PL) (x42 : Int32) (P45 : PL) (kdy1 : 1 + cto κ.2.2.2.2 y1 + cto κ.2.2.2.2 none + cto κ.2.2.2.2 none ≤ cto κ.2.2.2.2 (some k0)) (kc14 : cto P13 y1 = cto κ.2.2.2.2 y1) (kc15 : cto P13 none = cto κ.2.2.2.2 none) (kc16 : cto P13 none = cto κ.2.2.2.2 none) (kc17 : cto P13 (some k0) = cto κ.2.2.2.2 (some k0)) (ex19 : oI P13 0 b18 = x19) (c20 : ¬ x19.toInt = 0) (ex35 : oI P13 14 b32 = x35) (kc39 : cto P38 y1 = cto P13 y1) (kc40 : cto P38 (some k0) = cto P13 (some k0)) (ex42 : oI P38 15 b32 = x42) (kc46 : cto P45 y1 = cto P38 y1) (kc47 : cto P45 (some k0) = cto P38 (some k0)) : 120 * cto κ.2.2.2.2 (some k0) ≤ 120 * cto κ.2.2.2.2 (some k0) := by
  have zc0 : cto P13 none = 0 := rfl
  have zc1 : cto κ.2.2.2.2 none = 0 := rfl
  first | assumption | omega | (subst_vars; omega) | trivial
-- frames @220
theorem vX8_call_36 (d : Nat)  : 9 + 1 ≤ 4 * d + 33 := by
  first | assumption | omega | (subst_vars; omega) | trivial
-- locals @220
theorem vX8_call_37 (d : Nat)  : 8 + (5 + 11) + 219 ≤ 200 * d + 860 := by
  first | assumption | omega | (subst_vars; omega) | trivial
-- room @220
theorem vX8_call_38 (κ : KS) (k0 : Nat) (y1 : Option Nat) (P13 : PL) (b18 : Nat) (x19 : Int32) (b32 : Nat) (x35 : Int32) (P38 : PL) (x42 : Int32) (P45 : PL) (kdy1 : 1 + cto κ.2.2.2.2 y1 + cto κ.2.2.2.2 none + cto κ.2.2.2.2 none ≤ cto κ.2.2.2.2 (some k0)) (kc14 : cto P13 y1 = cto κ.2.2.2.2 y1) (kc15 : cto P13 none = cto κ.2.2.2.2 none) (kc16 : cto P13 none = cto κ.2.2.2.2 none) (kc17 : cto P13 (some k0) = cto κ.2.2.2.2 (some k0)) (ex19 : oI P13 0 b18 = x19) (c20 : ¬ x19.toInt = 0) (ex35 : oI P13 14 b32 = x35) (kc39 : cto P38 y1 = cto P13 y1) (kc40 : cto P38 (some k0) = cto P13 (some k0)) (ex42 : oI P38 15 b32 = x42) (kc46 : cto P45 y1 = cto P38 y1) (kc47 : cto P45 (some k0) = cto P38 (some k0)) : 0 + (13 * cto κ.2.2.2.2 y1) + 0 + 3 + 3 + 7 ≤ 13 * cto κ.2.2.2.2 (some k0) := by
  have zc0 : cto P13 none = 0 := rfl
  have zc1 : cto κ.2.2.2.2 none = 0 := rfl
  first | assumption | omega | (subst_vars; omega) | trivial
-- room @220
theorem vX8_call_39 (κ : KS) (k0 : Nat) (y1 : Option Nat) (P13 : PL) (b18 : Nat) (x19 : Int32) (b32 : Nat) (x35 : Int32) (P38 : PL) (x42 : Int32) (P45 : PL) (kdy1 : 1 + cto κ.2.2.2.2 y1 + cto κ.2.2.2.2 none + cto κ.2.2.2.2 none ≤ cto κ.2.2.2.2 (some k0)) (kc14 : cto P13 y1 = cto κ.2.2.2.2 y1) (kc15 : cto P13 none = cto κ.2.2.2.2 none) (kc16 : cto P13 none = cto κ.2.2.2.2 none) (kc17 : cto P13 (some k0) = cto κ.2.2.2.2 (some k0)) (ex19 : oI P13 0 b18 = x19) (c20 : ¬ x19.toInt = 0) (ex35 : oI P13 14 b32 = x35) (kc39 : cto P38 y1 = cto P13 y1) (kc40 : cto P38 (some k0) = cto P13 (some k0)) (ex42 : oI P38 15 b32 = x42) (kc46 : cto P45 y1 = cto P38 y1) (kc47 : cto P45 (some k0) = cto P38 (some k0)) : 0 + (120 * cto κ.2.2.2.2 y1) + 0 + 21 + 21 + 57 ≤ 120 * cto κ.2.2.2.2 (some k0) := by
  have zc0 : cto P13 none = 0 := rfl
  have zc1 : cto κ.2.2.2.2 none = 0 := rfl
  first | assumption | omega | (subst_vars; omega) | trivial
-- grow @223
theorem vX8_call_40 (κ : KS) (k0 : Nat) (y1 : Option Nat) (P13 : PL) (b18 : Nat) (x19 : Int32) (b32 : Nat) (x35 : Int32) (P38 : PL) (x42 : Int32) (P45 : PL) (P51 : PL) (kdy1 : 1 + cto κ.2.2.2.2 y1 + cto κ.2.2.2.2 none + cto κ.2.2.2.2 none ≤ cto κ.2.2.2.2 (some k0)) (kc14 : cto P13 y1 = cto κ.2.2.2.2 y1) (kc15 : cto P13 none = cto κ.2.2.2.2 none) (kc16 : cto P13 none = cto κ.2.2.2.2 none) (kc17 : cto P13 (some k0) = cto κ.2.2.2.2 (some k0)) (ex19 : oI P13 0 b18 = x19) (c20 : ¬ x19.toInt = 0) (ex35 : oI P13 14 b32 = x35) (kc39 : cto P38 y1 = cto P13 y1) (kc40 : cto P38 (some k0) = cto P13 (some k0)) (ex42 : oI P38 15 b32 = x42) (kc46 : cto P45 y1 = cto P38 y1) (kc47 : cto P45 (some k0) = cto P38 (some k0)) (kc52 : cto P51 y1 = cto P45 y1) (kc53 : cto P51 (some k0) = cto P45 (some k0)) : 0 + (13 * cto κ.2.2.2.2 y1) + 0 + 3 + 3 + 7 ≤ 13 * cto κ.2.2.2.2 (some k0) := by
  have zc0 : cto P13 none = 0 := rfl
  have zc1 : cto κ.2.2.2.2 none = 0 := rfl
  first | assumption | omega | (subst_vars; omega) | trivial
-- grow @223
theorem vX8_call_41 (κ : KS) (k0 : Nat) (y1 : Option Nat) (P13 : PL) (b18 : Nat) (x19 : Int32) (b32 : Nat) (x35 : Int32) (P38 : PL) (x42 : Int32) (P45 : PL) (P51 : PL) (kdy1 : 1 + cto κ.2.2.2.2 y1 + cto κ.2.2.2.2 none + cto κ.2.2.2.2 none ≤ cto κ.2.2.2.2 (some k0)) (kc14 : cto P13 y1 = cto κ.2.2.2.2 y1) (kc15 : cto P13 none = cto κ.2.2.2.2 none) (kc16 : cto P13 none = cto κ.2.2.2.2 none) (kc17 : cto P13 (some k0) = cto κ.2.2.2.2 (some k0)) (ex19 : oI P13 0 b18 = x19) (c20 : ¬ x19.toInt = 0) (ex35 : oI P13 14 b32 = x35) (kc39 : cto P38 y1 = cto P13 y1) (kc40 : cto P38 (some k0) = cto P13 (some k0)) (ex42 : oI P38 15 b32 = x42) (kc46 : cto P45 y1 = cto P38 y1) (kc47 : cto P45 (some k0) = cto P38 (some k0)) (kc52 : cto P51 y1 = cto P45 y1) (kc53 : cto P51 (some k0) = cto P45 (some k0)) : 0 + (120 * cto κ.2.2.2.2 y1) + 0 + 21 + 21 + 57 ≤ 120 * cto κ.2.2.2.2 (some k0) := by
  have zc0 : cto P13 none = 0 := rfl
  have zc1 : cto κ.2.2.2.2 none = 0 := rfl
  first | assumption | omega | (subst_vars; omega) | trivial
-- growm @223
theorem vX8_call_42 (κ : KS) (k0 : Nat) (y1 : Option Nat) (P13 : PL) (b18 : Nat) (x19 : Int32) (b32 : Nat) (x35 : Int32) (P38 : PL) (x42 : Int32) (P45 : PL) (P51 : PL) (kdy1 : 1 + cto κ.2.2.2.2 y1 + cto κ.2.2.2.2 none + cto κ.2.2.2.2 none ≤ cto κ.2.2.2.2 (some k0)) (kc14 : cto P13 y1 = cto κ.2.2.2.2 y1) (kc15 : cto P13 none = cto κ.2.2.2.2 none) (kc16 : cto P13 none = cto κ.2.2.2.2 none) (kc17 : cto P13 (some k0) = cto κ.2.2.2.2 (some k0)) (ex19 : oI P13 0 b18 = x19) (c20 : ¬ x19.toInt = 0) (ex35 : oI P13 14 b32 = x35) (kc39 : cto P38 y1 = cto P13 y1) (kc40 : cto P38 (some k0) = cto P13 (some k0)) (ex42 : oI P38 15 b32 = x42) (kc46 : cto P45 y1 = cto P38 y1) (kc47 : cto P45 (some k0) = cto P38 (some k0)) (kc52 : cto P51 y1 = cto P45 y1) (kc53 : cto P51 (some k0) = cto P45 (some k0)) : 13 * cto κ.2.2.2.2 (some k0) ≤ 13 * cto κ.2.2.2.2 (some k0) := by
  have zc0 : cto P13 none = 0 := rfl
  have zc1 : cto κ.2.2.2.2 none = 0 := rfl
  first | assumption | omega | (subst_vars; omega) | trivial
-- growm @223
theorem vX8_call_43 (κ : KS) (k0 : Nat) (y1 : Option Nat) (P13 : PL) (b18 : Nat) (x19 : Int32) (b32 : Nat) (x35 : Int32) (P38 : PL) (x42 : Int32) (P45 : PL) (P51 : PL) (kdy1 : 1 + cto κ.2.2.2.2 y1 + cto κ.2.2.2.2 none + cto κ.2.2.2.2 none ≤ cto κ.2.2.2.2 (some k0)) (kc14 : cto P13 y1 = cto κ.2.2.2.2 y1) (kc15 : cto P13 none = cto κ.2.2.2.2 none) (kc16 : cto P13 none = cto κ.2.2.2.2 none) (kc17 : cto P13 (some k0) = cto κ.2.2.2.2 (some k0)) (ex19 : oI P13 0 b18 = x19) (c20 : ¬ x19.toInt = 0) (ex35 : oI P13 14 b32 = x35) (kc39 : cto P38 y1 = cto P13 y1) (kc40 : cto P38 (some k0) = cto P13 (some k0)) (ex42 : oI P38 15 b32 = x42) (kc46 : cto P45 y1 = cto P38 y1) (kc47 : cto P45 (some k0) = cto P38 (some k0)) (kc52 : cto P51 y1 = cto P45 y1) (kc53 : cto P51 (some k0) = cto P45 (some k0)) : 120 * cto κ.2.2.2.2 (some k0) ≤ 120 * cto κ.2.2.2.2 (some k0) := by
  have zc0 : cto P13 none = 0 := rfl
  have zc1 : cto κ.2.2.2.2 none = 0 := rfl
  first | assumption | omega | (subst_vars; omega) | trivial
-- nw@100 @100
theorem vX8_call_44 (k1 : Int32) (d : Nat) (x4 : Int32) (x54 : Int32) (hpre_2 : 0 ≤ k1.toInt) (hpre_3 : k1.toInt ≤ 40) (hpre_4 : 40 ≤ k1.toInt + ((d : Nat) : Int)) (ex4 : x4 = k1 + (1 : Int32)) (tx4 : x4.toInt = k1.toInt + 1) (ex54 : x54 = k1 + (1 : Int32)) : x54.toInt = k1.toInt + 1 := by
  have q1 : (1 : Int32).toInt = 1 := by decide +kernel
  have w1 : (1 : Int32).toInt = 1 := by decide +kernel
  rw [ex54, z_add (by omega) (by omega)]; first | done | omega
-- pre:X8_eval@101 @101
theorem vX8_call_45 (k1 : Int32) (d : Nat) (x4 : Int32) (n6 : Int32) (x54 : Int32) (hpre_2 : 0 ≤ k1.toInt) (hpre_3 : k1.toInt ≤ 40) (hpre_4 : 40 ≤ k1.toInt + ((d : Nat) : Int)) (ex4 : x4 = k1 + (1 : Int32)) (tx4 : x4.toInt = k1.toInt + 1) (hr5_4_0 : 0 ≤ n6.toInt) (hr5_4_1 : n6.toInt ≤ 12) (ex54 : x54 = k1 + (1 : Int32)) (tx54 : x54.toInt = k1.toInt + 1) : 0 ≤ n6.toInt ∧ n6.toInt ≤ 12 ∧ 0 ≤ x54.toInt ∧ x54.toInt ≤ 41 ∧ 41 ≤ x54.toInt + ((d : Nat) : Int) := by
  have q1 : (1 : Int32).toInt = 1 := by decide +kernel
  refine ⟨?_, ?_, ?_, ?_, ?_⟩ <;> first | assumption | omega | (subst_vars; omega) | trivial
-- room @101
theorem vX8_call_46 (κ : KS) (k0 : Nat) (y1 : Option Nat) (P13 : PL) (b18 : Nat) (x19 : Int32) (b22 : Nat) (kdy1 : 1 + cto κ.2.2.2.2 y1 + cto κ.2.2.2.2 none + cto κ.2.2.2.2 (some b22) ≤ cto κ.2.2.2.2 (some k0)) (kc14 : cto P13 y1 = cto κ.2.2.2.2 y1) (kc15 : cto P13 none = cto κ.2.2.2.2 none) (kc16 : cto P13 (some b22) = cto κ.2.2.2.2 (some b22)) (kc17 : cto P13 (some k0) = cto κ.2.2.2.2 (some k0)) (ex19 : oI P13 0 b18 = x19) (c20 : ¬ x19.toInt = 0) : 0 + (13 * cto κ.2.2.2.2 y1) + (13 * cto P13 (some b22)) ≤ 13 * cto κ.2.2.2.2 (some k0) := by
  have zc0 : cto P13 none = 0 := rfl
  have zc1 : cto κ.2.2.2.2 none = 0 := rfl
  first | assumption | omega | (subst_vars; omega) | trivial
-- room @101
theorem vX8_call_47 (κ : KS) (k0 : Nat) (y1 : Option Nat) (P13 : PL) (b18 : Nat) (x19 : Int32) (b22 : Nat) (kdy1 : 1 + cto κ.2.2.2.2 y1 + cto κ.2.2.2.2 none + cto κ.2.2.2.2 (some b22) ≤ cto κ.2.2.2.2 (some k0)) (kc14 : cto P13 y1 = cto κ.2.2.2.2 y1) (kc15 : cto P13 none = cto κ.2.2.2.2 none) (kc16 : cto P13 (some b22) = cto κ.2.2.2.2 (some b22)) (kc17 : cto P13 (some k0) = cto κ.2.2.2.2 (some k0)) (ex19 : oI P13 0 b18 = x19) (c20 : ¬ x19.toInt = 0) : 0 + (120 * cto κ.2.2.2.2 y1) + (120 * cto P13 (some b22)) ≤ 120 * cto κ.2.2.2.2 (some k0) := by
  have zc0 : cto P13 none = 0 := rfl
  have zc1 : cto κ.2.2.2.2 none = 0 := rfl
  first | assumption | omega | (subst_vars; omega) | trivial
-- post @112
theorem vX8_call_48 (n56 : Int32) (hr55_4_0 : 0 ≤ n56.toInt) (hr55_4_1 : n56.toInt ≤ 12) : 0 ≤ n56.toInt ∧ n56.toInt ≤ 12 := by
  refine ⟨?_, ?_⟩ <;> first | assumption | omega | (subst_vars; omega) | trivial
-- grow @112
theorem vX8_call_49 (κ : KS) (k0 : Nat) (y1 : Option Nat) (P13 : PL) (b18 : Nat) (x19 : Int32) (b22 : Nat) (P63 : PL) (kdy1 : 1 + cto κ.2.2.2.2 y1 + cto κ.2.2.2.2 none + cto κ.2.2.2.2 (some b22) ≤ cto κ.2.2.2.2 (some k0)) (kc14 : cto P13 y1 = cto κ.2.2.2.2 y1) (kc15 : cto P13 none = cto κ.2.2.2.2 none) (kc16 : cto P13 (some b22) = cto κ.2.2.2.2 (some b22)) (kc17 : cto P13 (some k0) = cto κ.2.2.2.2 (some k0)) (ex19 : oI P13 0 b18 = x19) (c20 : ¬ x19.toInt = 0) (kc64 : cto P63 y1 = cto P13 y1) (kc65 : cto P63 (some k0) = cto P13 (some k0)) (kc66 : cto P63 (some b22) = cto P13 (some b22)) : 0 + (13 * cto κ.2.2.2.2 y1) + (13 * cto P13 (some b22)) ≤ 13 * cto κ.2.2.2.2 (some k0) := by
  have zc0 : cto P13 none = 0 := rfl
  have zc1 : cto κ.2.2.2.2 none = 0 := rfl
  first | assumption | omega | (subst_vars; omega) | trivial
-- grow @112
theorem vX8_call_50 (κ : KS) (k0 : Nat) (y1 : Option Nat) (P13 : PL) (b18 : Nat) (x19 : Int32) (b22 : Nat) (P63 : PL) (kdy1 : 1 + cto κ.2.2.2.2 y1 + cto κ.2.2.2.2 none + cto κ.2.2.2.2 (some b22) ≤ cto κ.2.2.2.2 (some k0)) (kc14 : cto P13 y1 = cto κ.2.2.2.2 y1) (kc15 : cto P13 none = cto κ.2.2.2.2 none) (kc16 : cto P13 (some b22) = cto κ.2.2.2.2 (some b22)) (kc17 : cto P13 (some k0) = cto κ.2.2.2.2 (some k0)) (ex19 : oI P13 0 b18 = x19) (c20 : ¬ x19.toInt = 0) (kc64 : cto P63 y1 = cto P13 y1) (kc65 : cto P63 (some k0) = cto P13 (some k0)) (kc66 : cto P63 (some b22) = cto P13 (some b22)) : 0 + (120 * cto κ.2.2.2.2 y1) + (120 * cto P13 (some b22)) ≤ 120 * cto κ.2.2.2.2 (some k0) := by
  have zc0 : cto P13 none = 0 := rfl
  have zc1 : cto κ.2.2.2.2 none = 0 := rfl
  first | assumption | omega | (subst_vars; omega) | trivial
-- growm @112
theorem vX8_call_51 (κ : KS) (k0 : Nat) (y1 : Option Nat) (P13 : PL) (b18 : Nat) (x19 : Int32) (b22 : Nat) (P63 : PL) (kdy1 : 1 + cto κ.2.2.2.2 y1 + cto κ.2.2.2.2 none + cto κ.2.2.2.2 (some b22) ≤ cto κ.2.2.2.2 (some k0)) (kc14 : cto P13 y1 = cto κ.2.2.2.2 y1) (kc15 : cto P13 none = cto κ.2.2.2.2 none) (kc16 : cto P13 (some b22) = cto κ.2.2.2.2 (some b22)) (kc17 : cto P13 (some k0) = cto κ.2.2.2.2 (some k0)) (ex19 : oI P13 0 b18 = x19) (c20 : ¬ x19.toInt = 0) (kc64 : cto P63 y1 = cto P13 y1) (kc65 : cto P63 (some k0) = cto P13 (some k0)) (kc66 : cto P63 (some b22) = cto P13 (some b22)) : 13 * cto κ.2.2.2.2 (some k0) ≤ 13 * cto κ.2.2.2.2 (some k0) := by
  have zc0 : cto P13 none = 0 := rfl
  have zc1 : cto κ.2.2.2.2 none = 0 := rfl
  first | assumption | omega | (subst_vars; omega) | trivial
-- growm @112
theorem vX8_call_52 (κ : KS) (k0 : Nat) (y1 : Option Nat) (P13 : PL) (b18 : Nat) (x19 : Int32) (b22 : Nat) (P63 : PL) (kdy1 : 1 + cto κ.2.2.2.2 y1 + cto κ.2.2.2.2 none + cto κ.2.2.2.2 (some b22) ≤ cto κ.2.2.2.2 (some k0)) (kc14 : cto P13 y1 = cto κ.2.2.2.2 y1) (kc15 : cto P13 none = cto κ.2.2.2.2 none) (kc16 : cto P13 (some b22) = cto κ.2.2.2.2 (some b22)) (kc17 : cto P13 (some k0) = cto κ.2.2.2.2 (some k0)) (ex19 : oI P13 0 b18 = x19) (c20 : ¬ x19.toInt = 0) (kc64 : cto P63 y1 = cto P13 y1) (kc65 : cto P63 (some k0) = cto P13 (some k0)) (kc66 : cto P63 (some b22) = cto P13 (some b22)) : 120 * cto κ.2.2.2.2 (some k0) ≤ 120 * cto κ.2.2.2.2 (some k0) := by
  have zc0 : cto P13 none = 0 := rfl
  have zc1 : cto κ.2.2.2.2 none = 0 := rfl
  first | assumption | omega | (subst_vars; omega) | trivial
-- room @122
theorem vX8_call_53 (κ : KS) (k0 : Nat) (y1 : Option Nat) (P13 : PL) (b18 : Nat) (x19 : Int32) (b22 : Nat) (P63 : PL) (kdy1 : 1 + cto κ.2.2.2.2 y1 + cto κ.2.2.2.2 none + cto κ.2.2.2.2 (some b22) ≤ cto κ.2.2.2.2 (some k0)) (kc14 : cto P13 y1 = cto κ.2.2.2.2 y1) (kc15 : cto P13 none = cto κ.2.2.2.2 none) (kc16 : cto P13 (some b22) = cto κ.2.2.2.2 (some b22)) (kc17 : cto P13 (some k0) = cto κ.2.2.2.2 (some k0)) (ex19 : oI P13 0 b18 = x19) (c20 : ¬ x19.toInt = 0) (kc64 : cto P63 y1 = cto P13 y1) (kc65 : cto P63 (some k0) = cto P13 (some k0)) (kc66 : cto P63 (some b22) = cto P13 (some b22)) : 0 + (13 * cto κ.2.2.2.2 y1) + (13 * cto P13 (some b22)) + 0 ≤ 13 * cto κ.2.2.2.2 (some k0) := by
  have zc0 : cto P13 none = 0 := rfl
  have zc1 : cto κ.2.2.2.2 none = 0 := rfl
  first | assumption | omega | (subst_vars; omega) | trivial
-- room @122
theorem vX8_call_54 (κ : KS) (k0 : Nat) (y1 : Option Nat) (P13 : PL) (b18 : Nat) (x19 : Int32) (b22 : Nat) (P63 : PL) (kdy1 : 1 + cto κ.2.2.2.2 y1 + cto κ.2.2.2.2 none + cto κ.2.2.2.2 (some b22) ≤ cto κ.2.2.2.2 (some k0)) (kc14 : cto P13 y1 = cto κ.2.2.2.2 y1) (kc15 : cto P13 none = cto κ.2.2.2.2 none) (kc16 : cto P13 (some b22) = cto κ.2.2.2.2 (some b22)) (kc17 : cto P13 (some k0) = cto κ.2.2.2.2 (some k0)) (ex19 : oI P13 0 b18 = x19) (c20 : ¬ x19.toInt = 0) (kc64 : cto P63 y1 = cto P13 y1) (kc65 : cto P63 (some k0) = cto P13 (some k0)) (kc66 : cto P63 (some b22) = cto P13 (some b22)) : 0 + (120 * cto κ.2.2.2.2 y1) + (120 * cto P13 (some b22)) + 0 ≤ 120 * cto κ.2.2.2.2 (some k0) := by
  have zc0 : cto P13 none = 0 := rfl
  have zc1 : cto κ.2.2.2.2 none = 0 := rfl
  first | assumption | omega | (subst_vars; omega) | trivial
-- room @164
theorem vX8_call_55 (κ : KS) (k0 : Nat) (y1 : Option Nat) (P13 : PL) (b18 : Nat) (x19 : Int32) (b22 : Nat) (P63 : PL) (kdy1 : 1 + cto κ.2.2.2.2 y1 + cto κ.2.2.2.2 none + cto κ.2.2.2.2 (some b22) ≤ cto κ.2.2.2.2 (some k0)) (kc14 : cto P13 y1 = cto κ.2.2.2.2 y1) (kc15 : cto P13 none = cto κ.2.2.2.2 none) (kc16 : cto P13 (some b22) = cto κ.2.2.2.2 (some b22)) (kc17 : cto P13 (some k0) = cto κ.2.2.2.2 (some k0)) (ex19 : oI P13 0 b18 = x19) (c20 : ¬ x19.toInt = 0) (kc64 : cto P63 y1 = cto P13 y1) (kc65 : cto P63 (some k0) = cto P13 (some k0)) (kc66 : cto P63 (some b22) = cto P13 (some b22)) : 0 + (13 * cto κ.2.2.2.2 y1) + (13 * cto P13 (some b22)) + 0 + 0 ≤ 13 * cto κ.2.2.2.2 (some k0) := by
  have zc0 : cto P13 none = 0 := rfl
  have zc1 : cto κ.2.2.2.2 none = 0 := rfl
  first | assumption | omega | (subst_vars; omega) | trivial
-- room @164
theorem vX8_call_56 (κ : KS) (k0 : Nat) (y1 : Option Nat) (P13 : PL) (b18 : Nat) (x19 : Int32) (b22 : Nat) (P63 : PL) (kdy1 : 1 + cto κ.2.2.2.2 y1 + cto κ.2.2.2.2 none + cto κ.2.2.2.2 (some b22) ≤ cto κ.2.2.2.2 (some k0)) (kc14 : cto P13 y1 = cto κ.2.2.2.2 y1) (kc15 : cto P13 none = cto κ.2.2.2.2 none) (kc16 : cto P13 (some b22) = cto κ.2.2.2.2 (some b22)) (kc17 : cto P13 (some k0) = cto κ.2.2.2.2 (some k0)) (ex19 : oI P13 0 b18 = x19) (c20 : ¬ x19.toInt = 0) (kc64 : cto P63 y1 = cto P13 y1) (kc65 : cto P63 (some k0) = cto P13 (some k0)) (kc66 : cto P63 (some b22) = cto P13 (some b22)) : 0 + (120 * cto κ.2.2.2.2 y1) + (120 * cto P13 (some b22)) + 0 + 0 ≤ 120 * cto κ.2.2.2.2 (some k0) := by
  have zc0 : cto P13 none = 0 := rfl
  have zc1 : cto κ.2.2.2.2 none = 0 := rfl
  first | assumption | omega | (subst_vars; omega) | trivial
-- room @176
theorem vX8_call_57 (κ : KS) (k0 : Nat) (y1 : Option Nat) (P13 : PL) (b18 : Nat) (x19 : Int32) (b22 : Nat) (P63 : PL) (b77 : Nat) (x80 : Int32) (kdy1 : 1 + cto κ.2.2.2.2 y1 + cto κ.2.2.2.2 none + cto κ.2.2.2.2 (some b22) ≤ cto κ.2.2.2.2 (some k0)) (kc14 : cto P13 y1 = cto κ.2.2.2.2 y1) (kc15 : cto P13 none = cto κ.2.2.2.2 none) (kc16 : cto P13 (some b22) = cto κ.2.2.2.2 (some b22)) (kc17 : cto P13 (some k0) = cto κ.2.2.2.2 (some k0)) (ex19 : oI P13 0 b18 = x19) (c20 : ¬ x19.toInt = 0) (kc64 : cto P63 y1 = cto P13 y1) (kc65 : cto P63 (some k0) = cto P13 (some k0)) (kc66 : cto P63 (some b22) = cto P13 (some b22)) (ex80 : oI P63 14 b77 = x80) : 0 + (13 * cto κ.2.2.2.2 y1) + (13 * cto P13 (some b22)) + 0 + 3 ≤ 13 * cto κ.2.2.2.2 (some k0) := by
  have zc0 : cto P13 none = 0 := rfl
  have zc1 : cto κ.2.2.2.2 none = 0 := rfl
  first | assumption | omega | (subst_vars; omega) | trivial
-- room @176
theorem vX8_call_58 (κ : KS) (k0 : Nat) (y1 : Option Nat) (P13 : PL) (b18 : Nat) (x19 : Int32) (b22 : Nat) (P63 : PL) (b77 : Nat) (x80 : Int32) (kdy1 : 1 + cto κ.2.2.2.2 y1 + cto κ.2.2.2.2 none + cto κ.2.2.2.2 (some b22) ≤ cto κ.2.2.2.2 (some k0)) (kc14 : cto P13 y1 = cto κ.2.2.2.2 y1) (kc15 : cto P13 none = cto κ.2.2.2.2 none) (kc16 : cto P13 (some b22) = cto κ.2.2.2.2 (some b22)) (kc17 : cto P13 (some k0) = cto κ.2.2.2.2 (some k0)) (ex19 : oI P13 0 b18 = x19) (c20 : ¬ x19.toInt = 0) (kc64 : cto P63 y1 = cto P13 y1) (kc65 : cto P63 (some k0) = cto P13 (some k0)) (kc66 : cto P63 (some b22) = cto P13 (some b22)) (ex80 : oI P63 14 b77 = x80) : 0 + (120 * cto κ.2.2.2.2 y1) + (120 * cto P13 (some b22)) + 0 + 21 ≤ 120 * cto κ.2.2.2.2 (some k0) := by
  have zc0 : cto P13 none = 0 := rfl
  have zc1 : cto κ.2.2.2.2 none = 0 := rfl
  first | assumption | omega | (subst_vars; omega) | trivial
-- grow @223
theorem vX8_call_59 (κ : KS) (k0 : Nat) (y1 : Option Nat) (P13 : PL) (b18 : Nat) (x19 : Int32) (b22 : Nat) (P63 : PL) (b77 : Nat) (x80 : Int32) (P83 : PL) (kdy1 : 1 + cto κ.2.2.2.2 y1 + cto κ.2.2.2.2 none + cto κ.2.2.2.2 (some b22) ≤ cto κ.2.2.2.2 (some k0)) (kc14 : cto P13 y1 = cto κ.2.2.2.2 y1) (kc15 : cto P13 none = cto κ.2.2.2.2 none) (kc16 : cto P13 (some b22) = cto κ.2.2.2.2 (some b22)) (kc17 : cto P13 (some k0) = cto κ.2.2.2.2 (some k0)) (ex19 : oI P13 0 b18 = x19) (c20 : ¬ x19.toInt = 0) (kc64 : cto P63 y1 = cto P13 y1) (kc65 : cto P63 (some k0) = cto P13 (some k0)) (kc66 : cto P63 (some b22) = cto P13 (some b22)) (ex80 : oI P63 14 b77 = x80) (kc84 : cto P83 y1 = cto P63 y1) (kc85 : cto P83 (some k0) = cto P63 (some k0)) (kc86 : cto P83 (some b22) = cto P63 (some b22)) : 0 + (13 * cto κ.2.2.2.2 y1) + (13 * cto P13 (some b22)) + 0 + 3 ≤ 13 * cto κ.2.2.2.2 (some k0) := by
  have zc0 : cto P13 none = 0 := rfl
  have zc1 : cto κ.2.2.2.2 none = 0 := rfl
  first | assumption | omega | (subst_vars; omega) | trivial
-- grow @223
theorem vX8_call_60 (κ : KS) (k0 : Nat) (y1 : Option Nat) (P13 : PL) (b18 : Nat) (x19 : Int32) (b22 : Nat) (P63 : PL) (b77 : Nat) (x80 : Int32) (P83 : PL) (kdy1 : 1 + cto κ.2.2.2.2 y1 + cto κ.2.2.2.2 none + cto κ.2.2.2.2 (some b22) ≤ cto κ.2.2.2.2 (some k0)) (kc14 : cto P13 y1 = cto κ.2.2.2.2 y1) (kc15 : cto P13 none = cto κ.2.2.2.2 none) (kc16 : cto P13 (some b22) = cto κ.2.2.2.2 (some b22)) (kc17 : cto P13 (some k0) = cto κ.2.2.2.2 (some k0)) (ex19 : oI P13 0 b18 = x19) (c20 : ¬ x19.toInt = 0) (kc64 : cto P63 y1 = cto P13 y1) (kc65 : cto P63 (some k0) = cto P13 (some k0)) (kc66 : cto P63 (some b22) = cto P13 (some b22)) (ex80 : oI P63 14 b77 = x80) (kc84 : cto P83 y1 = cto P63 y1) (kc85 : cto P83 (some k0) = cto P63 (some k0)) (kc86 : cto P83 (some b22) = cto P63 (some b22)) : 0 + (120 * cto κ.2.2.2.2 y1) + (120 * cto P13 (some b22)) + 0 + 21 ≤ 120 * cto κ.2.2.2.2 (some k0) := by
  have zc0 : cto P13 none = 0 := rfl
  have zc1 : cto κ.2.2.2.2 none = 0 := rfl
  first | assumption | omega | (subst_vars; omega) | trivial
-- growm @223
theorem vX8_call_61 (κ : KS) (k0 : Nat) (y1 : Option Nat) (P13 : PL) (b18 : Nat) (x19 : Int32) (b22 : Nat) (P63 : PL) (b77 : Nat) (x80 : Int32) (P83 : PL) (kdy1 : 1 + cto κ.2.2.2.2 y1 + cto κ.2.2.2.2 none + cto κ.2.2.2.2 (some b22) ≤ cto κ.2.2.2.2 (some k0)) (kc14 : cto P13 y1 = cto κ.2.2.2.2 y1) (kc15 : cto P13 none = cto κ.2.2.2.2 none) (kc16 : cto P13 (some b22) = cto κ.2.2.2.2 (some b22)) (kc17 : cto P13 (some k0) = cto κ.2.2.2.2 (some k0)) (ex19 : oI P13 0 b18 = x19) (c20 : ¬ x19.toInt = 0) (kc64 : cto P63 y1 = cto P13 y1) (kc65 : cto P63 (some k0) = cto P13 (some k0)) (kc66 : cto P63 (some b22) = cto P13 (some b22)) (ex80 : oI P63 14 b77 = x80) (kc84 : cto P83 y1 = cto P63 y1) (kc85 : cto P83 (some k0) = cto P63 (some k0)) (kc86 : cto P83 (some b22) = cto P63 (some b22)) : 13 * cto κ.2.2.2.2 (some k0) ≤ 13 * cto κ.2.2.2.2 (some k0) := by
  have zc0 : cto P13 none = 0 := rfl
  have zc1 : cto κ.2.2.2.2 none = 0 := rfl
  first | assumption | omega | (subst_vars; omega) | trivial
-- growm @223
theorem vX8_call_62 (κ : KS) (k0 : Nat) (y1 : Option Nat) (P13 : PL) (b18 : Nat) (x19 : Int32) (b22 : Nat) (P63 : PL) (b77 : Nat) (x80 : Int32) (P83 : PL) (kdy1 : 1 + cto κ.2.2.2.2 y1 + cto κ.2.2.2.2 none + cto κ.2.2.2.2 (some b22) ≤ cto κ.2.2.2.2 (some k0)) (kc14 : cto P13 y1 = cto κ.2.2.2.2 y1) (kc15 : cto P13 none = cto κ.2.2.2.2 none) (kc16 : cto P13 (some b22) = cto κ.2.2.2.2 (some b22)) (kc17 : cto P13 (some k0) = cto κ.2.2.2.2 (some k0)) (ex19 : oI P13 0 b18 = x19) (c20 : ¬ x19.toInt = 0) (kc64 : cto P63 y1 = cto P13 y1) (kc65 : cto P63 (some k0) = cto P13 (some k0)) (kc66 : cto P63 (some b22) = cto P13 (some b22)) (ex80 : oI P63 14 b77 = x80) (kc84 : cto P83 y1 = cto P63 y1) (kc85 : cto P83 (some k0) = cto P63 (some k0)) (kc86 : cto P83 (some b22) = cto P63 (some b22)) : 120 * cto κ.2.2.2.2 (some k0) ≤ 120 * cto κ.2.2.2.2 (some k0) := by
  have zc0 : cto P13 none = 0 := rfl
  have zc1 : cto κ.2.2.2.2 none = 0 := rfl
  first | assumption | omega | (subst_vars; omega) | trivial
-- room @198
theorem vX8_call_63 (κ : KS) (k0 : Nat) (y1 : Option Nat) (P13 : PL) (b18 : Nat) (x19 : Int32) (b22 : Nat) (P63 : PL) (b77 : Nat) (x80 : Int32) (P83 : PL) (x88 : Int32) (kdy1 : 1 + cto κ.2.2.2.2 y1 + cto κ.2.2.2.2 none + cto κ.2.2.2.2 (some b22) ≤ cto κ.2.2.2.2 (some k0)) (kc14 : cto P13 y1 = cto κ.2.2.2.2 y1) (kc15 : cto P13 none = cto κ.2.2.2.2 none) (kc16 : cto P13 (some b22) = cto κ.2.2.2.2 (some b22)) (kc17 : cto P13 (some k0) = cto κ.2.2.2.2 (some k0)) (ex19 : oI P13 0 b18 = x19) (c20 : ¬ x19.toInt = 0) (kc64 : cto P63 y1 = cto P13 y1) (kc65 : cto P63 (some k0) = cto P13 (some k0)) (kc66 : cto P63 (some b22) = cto P13 (some b22)) (ex80 : oI P63 14 b77 = x80) (kc84 : cto P83 y1 = cto P63 y1) (kc85 : cto P83 (some k0) = cto P63 (some k0)) (kc86 : cto P83 (some b22) = cto P63 (some b22)) (ex88 : oI P83 15 b77 = x88) : 0 + (13 * cto κ.2.2.2.2 y1) + (13 * cto P13 (some b22)) + 0 + 3 + 3 ≤ 13 * cto κ.2.2.2.2 (some k0) := by
  have zc0 : cto P13 none = 0 := rfl
  have zc1 : cto κ.2.2.2.2 none = 0 := rfl
  first | assumption | omega | (subst_vars; omega) | trivial
-- room @198
theorem vX8_call_64 (κ : KS) (k0 : Nat) (y1 : Option Nat) (P13 : PL) (b18 : Nat) (x19 : Int32) (b22 : Nat) (P63 : PL) (b77 : Nat) (x80 : Int32) (P83 : PL) (x88 : Int32) (kdy1 : 1 + cto κ.2.2.2.2 y1 + cto κ.2.2.2.2 none + cto κ.2.2.2.2 (some b22) ≤ cto κ.2.2.2.2 (some k0)) (kc14 : cto P13 y1 = cto κ.2.2.2.2 y1) (kc15 : cto P13 none = cto κ.2.2.2.2 none) (kc16 : cto P13 (some b22) = cto κ.2.2.2.2 (some b22)) (kc17 : cto P13 (some k0) = cto κ.2.2.2.2 (some k0)) (ex19 : oI P13 0 b18 = x19) (c20 : ¬ x19.toInt = 0) (kc64 : cto P63 y1 = cto P13 y1) (kc65 : cto P63 (some k0) = cto P13 (some k0)) (kc66 : cto P63 (some b22) = cto P13 (some b22)) (ex80 : oI P63 14 b77 = x80) (kc84 : cto P83 y1 = cto P63 y1) (kc85 : cto P83 (some k0) = cto P63 (some k0)) (kc86 : cto P83 (some b22) = cto P63 (some b22)) (ex88 : oI P83 15 b77 = x88) : 0 + (120 * cto κ.2.2.2.2 y1) + (120 * cto P13 (some b22)) + 0 + 21 + 21 ≤ 120 * cto κ.2.2.2.2 (some k0) := by
  have zc0 : cto P13 none = 0 := rfl
  have zc1 : cto κ.2.2.2.2 none = 0 := rfl
  first | assumption | omega | (subst_vars; omega) | trivial
-- grow @223
theorem vX8_call_65 (κ : KS) (k0 : Nat) (y1 : Option Nat) (P13 : PL) (b18 : Nat) (x19 : Int32) (b22 : Nat) (P63 : PL) (b77 : Nat) (x80 : Int32) (P83 : PL) (x88 : Int32) (P91 : PL) (kdy1 : 1 + cto κ.2.2.2.2 y1 + cto κ.2.2.2.2 none + cto κ.2.2.2.2 (some b22) ≤ cto κ.2.2.2.2 (some k0)) (kc14 : cto P13 y1 = cto κ.2.2.2.2 y1) (kc15 : cto P13 none = cto κ.2.2.2.2 none) (kc16 : cto P13 (some b22) = cto κ.2.2.2.2 (some b22)) (kc17 : cto P13 (some k0) = cto κ.2.2.2.2 (some k0)) (ex19 : oI P13 0 b18 = x19) (c20 : ¬ x19.toInt = 0) (kc64 : cto P63 y1 = cto P13 y1) (kc65 : cto P63 (some k0) = cto P13 (some k0)) (kc66 : cto P63 (some b22) = cto P13 (some b22)) (ex80 : oI P63 14 b77 = x80) (kc84 : cto P83 y1 = cto P63 y1) (kc85 : cto P83 (some k0) = cto P63 (some k0)) (kc86 : cto P83 (some b22) = cto P63 (some b22)) (ex88 : oI P83 15 b77 = x88) (kc92 : cto P91 y1 = cto P83 y1) (kc93 : cto P91 (some k0) = cto P83 (some k0)) (kc94 : cto P91 (some b22) = cto P83 (some b22)) : 0 + (13 * cto κ.2.2.2.2 y1) + (13 * cto P13 (some b22)) + 0 + 3 + 3 ≤ 13 * cto κ.2.2.2.2 (some k0) := by
  have zc0 : cto P13 none = 0 := rfl
  have zc1 : cto κ.2.2.2.2 none = 0 := rfl
  first | assumption | omega | (subst_vars; omega) | trivial
-- grow @223
theorem vX8_call_66 (κ : KS) (k0 : Nat) (y1 : Option Nat) (P13 : PL) (b18 : Nat) (x19 : Int32) (b22 : Nat) (P63 : PL) (b77 : Nat) (x80 : Int32) (P83 : PL) (x88 : Int32) (P91 : PL) (kdy1 : 1 + cto κ.2.2.2.2 y1 + cto κ.2.2.2.2 none + cto κ.2.2.2.2 (some b22) ≤ cto κ.2.2.2.2 (some k0)) (kc14 : cto P13 y1 = cto κ.2.2.2.2 y1) (kc15 : cto P13 none = cto κ.2.2.2.2 none) (kc16 : cto P13 (some b22) = cto κ.2.2.2.2 (some b22)) (kc17 : cto P13 (some k0) = cto κ.2.2.2.2 (some k0)) (ex19 : oI P13 0 b18 = x19) (c20 : ¬ x19.toInt = 0) (kc64 : cto P63 y1 = cto P13 y1) (kc65 : cto P63 (some k0) = cto P13 (some k0)) (kc66 : cto P63 (some b22) = cto P13 (some b22)) (ex80 : oI P63 14 b77 = x80) (kc84 : cto P83 y1 = cto P63 y1) (kc85 : cto P83 (some k0) = cto P63 (some k0)) (kc86 : cto P83 (some b22) = cto P63 (some b22)) (ex88 : oI P83 15 b77 = x88) (kc92 : cto P91 y1 = cto P83 y1) (kc93 : cto P91 (some k0) = cto P83 (some k0)) (kc94 : cto P91 (some b22) = cto P83 (some b22)) : 0 + (120 * cto κ.2.2.2.2 y1) + (120 * cto P13 (some b22)) + 0 + 21 + 21 ≤ 120 * cto κ.2.2.2.2 (some k0) := by
  have zc0 : cto P13 none = 0 := rfl
  have zc1 : cto κ.2.2.2.2 none = 0 := rfl
  first | assumption | omega | (subst_vars; omega) | trivial
-- growm @223
theorem vX8_call_67 (κ : KS) (k0 : Nat) (y1 : Option Nat) (P13 : PL) (b18 : Nat) (x19 : Int32) (b22 : Nat) (P63 : PL) (b77 : Nat) (x80 : Int32) (P83 : PL) (x88 : Int32) (P91 : PL) (kdy1 : 1 + cto κ.2.2.2.2 y1 + cto κ.2.2.2.2 none + cto κ.2.2.2.2 (some b22) ≤ cto κ.2.2.2.2 (some k0)) (kc14 : cto P13 y1 = cto κ.2.2.2.2 y1) (kc15 : cto P13 none = cto κ.2.2.2.2 none) (kc16 : cto P13 (some b22) = cto κ.2.2.2.2 (some b22)) (kc17 : cto P13 (some k0) = cto κ.2.2.2.2 (some k0)) (ex19 : oI P13 0 b18 = x19) (c20 : ¬ x19.toInt = 0) (kc64 : cto P63 y1 = cto P13 y1) (kc65 : cto P63 (some k0) = cto P13 (some k0)) (kc66 : cto P63 (some b22) = cto P13 (some b22)) (ex80 : oI P63 14 b77 = x80) (kc84 : cto P83 y1 = cto P63 y1) (kc85 : cto P83 (some k0) = cto P63 (some k0)) (kc86 : cto P83 (some b22) = cto P63 (some b22)) (ex88 : oI P83 15 b77 = x88) (kc92 : cto P91 y1 = cto P83 y1) (kc93 : cto P91 (some k0) = cto P83 (some k0)) (kc94 : cto P91 (some b22) = cto P83 (some b22)) : 13 * cto κ.2.2.2.2 (some k0) ≤ 13 * cto κ.2.2.2.2 (some k0) := by
  have zc0 : cto P13 none = 0 := rfl
  have zc1 : cto κ.2.2.2.2 none = 0 := rfl
  first | assumption | omega | (subst_vars; omega) | trivial
-- growm @223
theorem vX8_call_68 (κ : KS) (k0 : Nat) (y1 : Option Nat) (P13 : PL) (b18 : Nat) (x19 : Int32) (b22 : Nat) (P63 : PL) (b77 : Nat) (x80 : Int32) (P83 : PL) (x88 : Int32) (P91 : PL) (kdy1 : 1 + cto κ.2.2.2.2 y1 + cto κ.2.2.2.2 none + cto κ.2.2.2.2 (some b22) ≤ cto κ.2.2.2.2 (some k0)) (kc14 : cto P13 y1 = cto κ.2.2.2.2 y1) (kc15 : cto P13 none = cto κ.2.2.2.2 none) (kc16 : cto P13 (some b22) = cto κ.2.2.2.2 (some b22)) (kc17 : cto P13 (some k0) = cto κ.2.2.2.2 (some k0)) (ex19 : oI P13 0 b18 = x19) (c20 : ¬ x19.toInt = 0) (kc64 : cto P63 y1 = cto P13 y1) (kc65 : cto P63 (some k0) = cto P13 (some k0)) (kc66 : cto P63 (some b22) = cto P13 (some b22)) (ex80 : oI P63 14 b77 = x80) (kc84 : cto P83 y1 = cto P63 y1) (kc85 : cto P83 (some k0) = cto P63 (some k0)) (kc86 : cto P83 (some b22) = cto P63 (some b22)) (ex88 : oI P83 15 b77 = x88) (kc92 : cto P91 y1 = cto P83 y1) (kc93 : cto P91 (some k0) = cto P83 (some k0)) (kc94 : cto P91 (some b22) = cto P83 (some b22)) : 120 * cto κ.2.2.2.2 (some k0) ≤ 120 * cto κ.2.2.2.2 (some k0) := by
  have zc0 : cto P13 none = 0 := rfl
  have zc1 : cto κ.2.2.2.2 none = 0 := rfl
  first | assumption | omega | (subst_vars; omega) | trivial
-- room @220
theorem vX8_call_69 (κ : KS) (k0 : Nat) (y1 : Option Nat) (P13 : PL) (b18 : Nat) (x19 : Int32) (b22 : Nat) (P63 : PL) (b77 : Nat) (x80 : Int32) (P83 : PL) (x88 : Int32) (P91 : PL) (kdy1 : 1 + cto κ.2.2.2.2 y1 + cto κ.2.2.2.2 none + cto κ.2.2.2.2 (some b22) ≤ cto κ.2.2.2.2 (some k0)) (kc14 : cto P13 y1 = cto κ.2.2.2.2 y1) (kc15 : cto P13 none = cto κ.2.2.2.2 none) (kc16 : cto P13 (some b22) = cto κ.2.2.2.2 (some b22)) (kc17 : cto P13 (some k0) = cto κ.2.2.2.2 (some k0)) (ex19 : oI P13 0 b18 = x19) (c20 : ¬ x19.toInt = 0) (kc64 : cto P63 y1 = cto P13 y1) (kc65 : cto P63 (some k0) = cto P13 (some k0)) (kc66 : cto P63 (some b22) = cto P13 (some b22)) (ex80 : oI P63 14 b77 = x80) (kc84 : cto P83 y1 = cto P63 y1) (kc85 : cto P83 (some k0) = cto P63 (some k0)) (kc86 : cto P83 (some b22) = cto P63 (some b22)) (ex88 : oI P83 15 b77 = x88) (kc92 : cto P91 y1 = cto P83 y1) (kc93 : cto P91 (some k0) = cto P83 (some k0)) (kc94 : cto P91 (some b22) = cto P83 (some b22)) : 0 + (13 * cto κ.2.2.2.2 y1) + (13 * cto P13 (some b22)) + 0 + 3 + 3 + 7 ≤ 13 * cto κ.2.2.2.2 (some k0) := by
  have zc0 : cto P13 none = 0 := rfl
  have zc1 : cto κ.2.2.2.2 none = 0 := rfl
  first | assumption | omega | (subst_vars; omega) | trivial
-- room @220
theorem vX8_call_70 (κ : KS) (k0 : Nat) (y1 : Option Nat) (P13 : PL) (b18 : Nat) (x19 : Int32) (b22 : Nat) (P63 : PL) (b77 : Nat) (x80 : Int32) (P83 : PL) (x88 : Int32) (P91 : PL) (kdy1 : 1 + cto κ.2.2.2.2 y1 + cto κ.2.2.2.2 none + cto κ.2.2.2.2 (some b22) ≤ cto κ.2.2.2.2 (some k0)) (kc14 : cto P13 y1 = cto κ.2.2.2.2 y1) (kc15 : cto P13 none = cto κ.2.2.2.2 none) (kc16 : cto P13 (some b22) = cto κ.2.2.2.2 (some b22)) (kc17 : cto P13 (some k0) = cto κ.2.2.2.2 (some k0)) (ex19 : oI P13 0 b18 = x19) (c20 : ¬ x19.toInt = 0) (kc64 : cto P63 y1 = cto P13 y1) (kc65 : cto P63 (some k0) = cto P13 (some k0)) (kc66 : cto P63 (some b22) = cto P13 (some b22)) (ex80 : oI P63 14 b77 = x80) (kc84 : cto P83 y1 = cto P63 y1) (kc85 : cto P83 (some k0) = cto P63 (some k0)) (kc86 : cto P83 (some b22) = cto P63 (some b22)) (ex88 : oI P83 15 b77 = x88) (kc92 : cto P91 y1 = cto P83 y1) (kc93 : cto P91 (some k0) = cto P83 (some k0)) (kc94 : cto P91 (some b22) = cto P83 (some b22)) : 0 + (120 * cto κ.2.2.2.2 y1) + (120 * cto P13 (some b22)) + 0 + 21 + 21 + 57 ≤ 120 * cto κ.2.2.2.2 (some k0) := by
  have zc0 : cto P13 none = 0 := rfl
  have zc1 : cto κ.2.2.2.2 none = 0 := rfl
  first | assumption | omega | (subst_vars; omega) | trivial
-- grow @223
theorem vX8_call_71 (κ : KS) (k0 : Nat) (y1 : Option Nat) (P13 : PL) (b18 : Nat) (x19 : Int32) (b22 : Nat) (P63 : PL) (b77 : Nat) (x80 : Int32) (P83 : PL) (x88 : Int32) (P91 : PL) (P98 : PL) (kdy1 : 1 + cto κ.2.2.2.2 y1 + cto κ.2.2.2.2 none + cto κ.2.2.2.2 (some b22) ≤ cto κ.2.2.2.2 (some k0)) (kc14 : cto P13 y1 = cto κ.2.2.2.2 y1) (kc15 : cto P13 none = cto κ.2.2.2.2 none) (kc16 : cto P13 (some b22) = cto κ.2.2.2.2 (some b22)) (kc17 : cto P13 (some k0) = cto κ.2.2.2.2 (some k0)) (ex19 : oI P13 0 b18 = x19) (c20 : ¬ x19.toInt = 0) (kc64 : cto P63 y1 = cto P13 y1) (kc65 : cto P63 (some k0) = cto P13 (some k0)) (kc66 : cto P63 (some b22) = cto P13 (some b22)) (ex80 : oI P63 14 b77 = x80) (kc84 : cto P83 y1 = cto P63 y1) (kc85 : cto P83 (some k0) = cto P63 (some k0)) (kc86 : cto P83 (some b22) = cto P63 (some b22)) (ex88 : oI P83 15 b77 = x88) (kc92 : cto P91 y1 = cto P83 y1) (kc93 : cto P91 (some k0) = cto P83 (some k0)) (kc94 : cto P91 (some b22) = cto P83 (some b22)) (kc99 : cto P98 y1 = cto P91 y1) (kc100 : cto P98 (some k0) = cto P91 (some k0)) (kc101 : cto P98 (some b22) = cto P91 (some b22)) : 0 + (13 * cto κ.2.2.2.2 y1) + (13 * cto P13 (some b22)) + 0 + 3 + 3 + 7 ≤ 13 * cto κ.2.2.2.2 (some k0) := by
  have zc0 : cto P13 none = 0 := rfl
  have zc1 : cto κ.2.2.2.2 none = 0 := rfl
  first | assumption | omega | (subst_vars; omega) | trivial
-- grow @223
theorem vX8_call_72 (κ : KS) (k0 : Nat) (y1 : Option Nat) (P13 : PL) (b18 : Nat) (x19 : Int32) (b22 : Nat) (P63 : PL) (b77 : Nat) (x80 : Int32) (P83 : PL) (x88 : Int32) (P91 : PL) (P98 : PL) (kdy1 : 1 + cto κ.2.2.2.2 y1 + cto κ.2.2.2.2 none + cto κ.2.2.2.2 (some b22) ≤ cto κ.2.2.2.2 (some k0)) (kc14 : cto P13 y1 = cto κ.2.2.2.2 y1) (kc15 : cto P13 none = cto κ.2.2.2.2 none) (kc16 : cto P13 (some b22) = cto κ.2.2.2.2 (some b22)) (kc17 : cto P13 (some k0) = cto κ.2.2.2.2 (some k0)) (ex19 : oI P13 0 b18 = x19) (c20 : ¬ x19.toInt = 0) (kc64 : cto P63 y1 = cto P13 y1) (kc65 : cto P63 (some k0) = cto P13 (some k0)) (kc66 : cto P63 (some b22) = cto P13 (some b22)) (ex80 : oI P63 14 b77 = x80) (kc84 : cto P83 y1 = cto P63 y1) (kc85 : cto P83 (some k0) = cto P63 (some k0)) (kc86 : cto P83 (some b22) = cto P63 (some b22)) (ex88 : oI P83 15 b77 = x88) (kc92 : cto P91 y1 = cto P83 y1) (kc93 : cto P91 (some k0) = cto P83 (some k0)) (kc94 : cto P91 (some b22) = cto P83 (some b22)) (kc99 : cto P98 y1 = cto P91 y1) (kc100 : cto P98 (some k0) = cto P91 (some k0)) (kc101 : cto P98 (some b22) = cto P91 (some b22)) : 0 + (120 * cto κ.2.2.2.2 y1) + (120 * cto P13 (some b22)) + 0 + 21 + 21 + 57 ≤ 120 * cto κ.2.2.2.2 (some k0) := by
  have zc0 : cto P13 none = 0 := rfl
  have zc1 : cto κ.2.2.2.2 none = 0 := rfl
  first | assumption | omega | (subst_vars; omega) | trivial
-- growm @223
theorem vX8_call_73 (κ : KS) (k0 : Nat) (y1 : Option Nat) (P13 : PL) (b18 : Nat) (x19 : Int32) (b22 : Nat) (P63 : PL) (b77 : Nat) (x80 : Int32) (P83 : PL) (x88 : Int32) (P91 : PL) (P98 : PL) (kdy1 : 1 + cto κ.2.2.2.2 y1 + cto κ.2.2.2.2 none + cto κ.2.2.2.2 (some b22) ≤ cto κ.2.2.2.2 (some k0)) (kc14 : cto P13 y1 = cto κ.2.2.2.2 y1) (kc15 : cto P13 none = cto κ.2.2.2.2 none) (kc16 : cto P13 (some b22) = cto κ.2.2.2.2 (some b22)) (kc17 : cto P13 (some k0) = cto κ.2.2.2.2 (some k0)) (ex19 : oI P13 0 b18 = x19) (c20 : ¬ x19.toInt = 0) (kc64 : cto P63 y1 = cto P13 y1) (kc65 : cto P63 (some k0) = cto P13 (some k0)) (kc66 : cto P63 (some b22) = cto P13 (some b22)) (ex80 : oI P63 14 b77 = x80) (kc84 : cto P83 y1 = cto P63 y1) (kc85 : cto P83 (some k0) = cto P63 (some k0)) (kc86 : cto P83 (some b22) = cto P63 (some b22)) (ex88 : oI P83 15 b77 = x88) (kc92 : cto P91 y1 = cto P83 y1) (kc93 : cto P91 (some k0) = cto P83 (some k0)) (kc94 : cto P91 (some b22) = cto P83 (some b22)) (kc99 : cto P98 y1 = cto P91 y1) (kc100 : cto P98 (some k0) = cto P91 (some k0)) (kc101 : cto P98 (some b22) = cto P91 (some b22)) : 13 * cto κ.2.2.2.2 (some k0) ≤ 13 * cto κ.2.2.2.2 (some k0) := by
  have zc0 : cto P13 none = 0 := rfl
  have zc1 : cto κ.2.2.2.2 none = 0 := rfl
  first | assumption | omega | (subst_vars; omega) | trivial
-- growm @223
theorem vX8_call_74 (κ : KS) (k0 : Nat) (y1 : Option Nat) (P13 : PL) (b18 : Nat) (x19 : Int32) (b22 : Nat) (P63 : PL) (b77 : Nat) (x80 : Int32) (P83 : PL) (x88 : Int32) (P91 : PL) (P98 : PL) (kdy1 : 1 + cto κ.2.2.2.2 y1 + cto κ.2.2.2.2 none + cto κ.2.2.2.2 (some b22) ≤ cto κ.2.2.2.2 (some k0)) (kc14 : cto P13 y1 = cto κ.2.2.2.2 y1) (kc15 : cto P13 none = cto κ.2.2.2.2 none) (kc16 : cto P13 (some b22) = cto κ.2.2.2.2 (some b22)) (kc17 : cto P13 (some k0) = cto κ.2.2.2.2 (some k0)) (ex19 : oI P13 0 b18 = x19) (c20 : ¬ x19.toInt = 0) (kc64 : cto P63 y1 = cto P13 y1) (kc65 : cto P63 (some k0) = cto P13 (some k0)) (kc66 : cto P63 (some b22) = cto P13 (some b22)) (ex80 : oI P63 14 b77 = x80) (kc84 : cto P83 y1 = cto P63 y1) (kc85 : cto P83 (some k0) = cto P63 (some k0)) (kc86 : cto P83 (some b22) = cto P63 (some b22)) (ex88 : oI P83 15 b77 = x88) (kc92 : cto P91 y1 = cto P83 y1) (kc93 : cto P91 (some k0) = cto P83 (some k0)) (kc94 : cto P91 (some b22) = cto P83 (some b22)) (kc99 : cto P98 y1 = cto P91 y1) (kc100 : cto P98 (some k0) = cto P91 (some k0)) (kc101 : cto P98 (some b22) = cto P91 (some b22)) : 120 * cto κ.2.2.2.2 (some k0) ≤ 120 * cto κ.2.2.2.2 (some k0) := by
  have zc0 : cto P13 none = 0 := rfl
  have zc1 : cto κ.2.2.2.2 none = 0 := rfl
  first | assumption | omega | (subst_vars; omega) | trivial
-- nw@66 @66
theorem vX8_call_75 (k1 : Int32) (d : Nat) (x4 : Int32) (x102 : Int32) (hpre_2 : 0 ≤ k1.toInt) (hpre_3 : k1.toInt ≤ 40) (hpre_4 : 40 ≤ k1.toInt + ((d : Nat) : Int)) (ex4 : x4 = k1 + (1 : Int32)) (tx4 : x4.toInt = k1.toInt + 1) (ex102 : x102 = k1 + (1 : Int32)) : x102.toInt = k1.toInt + 1 := by
  have q1 : (1 : Int32).toInt = 1 := by decide +kernel
  have w1 : (1 : Int32).toInt = 1 := by decide +kernel
  rw [ex102, z_add (by omega) (by omega)]; first | done | omega
-- pre:X8_eval@67 @67
theorem vX8_call_76 (k1 : Int32) (d : Nat) (x4 : Int32) (n6 : Int32) (x102 : Int32) (hpre_2 : 0 ≤ k1.toInt) (hpre_3 : k1.toInt ≤ 40) (hpre_4 : 40 ≤ k1.toInt + ((d : Nat) : Int)) (ex4 : x4 = k1 + (1 : Int32)) (tx4 : x4.toInt = k1.toInt + 1) (hr5_4_0 : 0 ≤ n6.toInt) (hr5_4_1 : n6.toInt ≤ 12) (ex102 : x102 = k1 + (1 : Int32)) (tx102 : x102.toInt = k1.toInt + 1) : 0 ≤ n6.toInt ∧ n6.toInt ≤ 12 ∧ 0 ≤ x102.toInt ∧ x102.toInt ≤ 41 ∧ 41 ≤ x102.toInt + ((d : Nat) : Int) := by
  have q1 : (1 : Int32).toInt = 1 := by decide +kernel
  refine ⟨?_, ?_, ?_, ?_, ?_⟩ <;> first | assumption | omega | (subst_vars; omega) | trivial
-- room @67
theorem vX8_call_77 (κ : KS) (k0 : Nat) (y1 : Option Nat) (y3 : Option Nat) (P13 : PL) (b18 : Nat) (x19 : Int32) (b21 : Nat) (kdy1 : 1 + cto κ.2.2.2.2 y1 + cto κ.2.2.2.2 (some b21) + cto κ.2.2.2.2 y3 ≤ cto κ.2.2.2.2 (some k0)) (kc14 : cto P13 y1 = cto κ.2.2.2.2 y1) (kc15 : cto P13 (some b21) = cto κ.2.2.2.2 (some b21)) (kc16 : cto P13 y3 = cto κ.2.2.2.2 y3) (kc17 : cto P13 (some k0) = cto κ.2.2.2.2 (some k0)) (ex19 : oI P13 0 b18 = x19) (c20 : ¬ x19.toInt = 0) : 0 + (13 * cto κ.2.2.2.2 y1) + (13 * cto P13 (some b21)) ≤ 13 * cto κ.2.2.2.2 (some k0) := by
  first | assumption | omega | (subst_vars; omega) | trivial
-- room @67
theorem vX8_call_78 (κ : KS) (k0 : Nat) (y1 : Option Nat) (y3 : Option Nat) (P13 : PL) (b18 : Nat) (x19 : Int32) (b21 : Nat) (kdy1 : 1 + cto κ.2.2.2.2 y1 + cto κ.2.2.2.2 (some b21) + cto κ.2.2.2.2 y3 ≤ cto κ.2.2.2.2 (some k0)) (kc14 : cto P13 y1 = cto κ.2.2.2.2 y1) (kc15 : cto P13 (some b21) = cto κ.2.2.2.2 (some b21)) (kc16 : cto P13 y3 = cto κ.2.2.2.2 y3) (kc17 : cto P13 (some k0) = cto κ.2.2.2.2 (some k0)) (ex19 : oI P13 0 b18 = x19) (c20 : ¬ x19.toInt = 0) : 0 + (120 * cto κ.2.2.2.2 y1) + (120 * cto P13 (some b21)) ≤ 120 * cto κ.2.2.2.2 (some k0) := by
  first | assumption | omega | (subst_vars; omega) | trivial
-- post @78
theorem vX8_call_79 (n104 : Int32) (hr103_4_0 : 0 ≤ n104.toInt) (hr103_4_1 : n104.toInt ≤ 12) : 0 ≤ n104.toInt ∧ n104.toInt ≤ 12 := by
  refine ⟨?_, ?_⟩ <;> first | assumption | omega | (subst_vars; omega) | trivial
-- grow @78
theorem vX8_call_80 (κ : KS) (k0 : Nat) (y1 : Option Nat) (y3 : Option Nat) (P13 : PL) (b18 : Nat) (x19 : Int32) (b21 : Nat) (P111 : PL) (kdy1 : 1 + cto κ.2.2.2.2 y1 + cto κ.2.2.2.2 (some b21) + cto κ.2.2.2.2 y3 ≤ cto κ.2.2.2.2 (some k0)) (kc14 : cto P13 y1 = cto κ.2.2.2.2 y1) (kc15 : cto P13 (some b21) = cto κ.2.2.2.2 (some b21)) (kc16 : cto P13 y3 = cto κ.2.2.2.2 y3) (kc17 : cto P13 (some k0) = cto κ.2.2.2.2 (some k0)) (ex19 : oI P13 0 b18 = x19) (c20 : ¬ x19.toInt = 0) (kc112 : cto P111 y1 = cto P13 y1) (kc113 : cto P111 y3 = cto P13 y3) (kc114 : cto P111 (some k0) = cto P13 (some k0)) (kc115 : cto P111 (some b21) = cto P13 (some b21)) : 0 + (13 * cto κ.2.2.2.2 y1) + (13 * cto P13 (some b21)) ≤ 13 * cto κ.2.2.2.2 (some k0) := by
  first | assumption | omega | (subst_vars; omega) | trivial
-- grow @78
theorem vX8_call_81 (κ : KS) (k0 : Nat) (y1 : Option Nat) (y3 : Option Nat) (P13 : PL) (b18 : Nat) (x19 : Int32) (b21 : Nat) (P111 : PL) (kdy1 : 1 + cto κ.2.2.2.2 y1 + cto κ.2.2.2.2 (some b21) + cto κ.2.2.2.2 y3 ≤ cto κ.2.2.2.2 (some k0)) (kc14 : cto P13 y1 = cto κ.2.2.2.2 y1) (kc15 : cto P13 (some b21) = cto κ.2.2.2.2 (some b21)) (kc16 : cto P13 y3 = cto κ.2.2.2.2 y3) (kc17 : cto P13 (some k0) = cto κ.2.2.2.2 (some k0)) (ex19 : oI P13 0 b18 = x19) (c20 : ¬ x19.toInt = 0) (kc112 : cto P111 y1 = cto P13 y1) (kc113 : cto P111 y3 = cto P13 y3) (kc114 : cto P111 (some k0) = cto P13 (some k0)) (kc115 : cto P111 (some b21) = cto P13 (some b21)) : 0 + (120 * cto κ.2.2.2.2 y1) + (120 * cto P13 (some b21)) ≤ 120 * cto κ.2.2.2.2 (some k0) := by
  first | assumption | omega | (subst_vars; omega) | trivial
-- growm @78
theorem vX8_call_82 (κ : KS) (k0 : Nat) (y1 : Option Nat) (y3 : Option Nat) (P13 : PL) (b18 : Nat) (x19 : Int32) (b21 : Nat) (P111 : PL) (kdy1 : 1 + cto κ.2.2.2.2 y1 + cto κ.2.2.2.2 (some b21) + cto κ.2.2.2.2 y3 ≤ cto κ.2.2.2.2 (some k0)) (kc14 : cto P13 y1 = cto κ.2.2.2.2 y1) (kc15 : cto P13 (some b21) = cto κ.2.2.2.2 (some b21)) (kc16 : cto P13 y3 = cto κ.2.2.2.2 y3) (kc17 : cto P13 (some k0) = cto κ.2.2.2.2 (some k0)) (ex19 : oI P13 0 b18 = x19) (c20 : ¬ x19.toInt = 0) (kc112 : cto P111 y1 = cto P13 y1) (kc113 : cto P111 y3 = cto P13 y3) (kc114 : cto P111 (some k0) = cto P13 (some k0)) (kc115 : cto P111 (some b21) = cto P13 (some b21)) : 13 * cto κ.2.2.2.2 (some k0) ≤ 13 * cto κ.2.2.2.2 (some k0) := by
  first | assumption | omega | (subst_vars; omega) | trivial
-- growm @78
theorem vX8_call_83 (κ : KS) (k0 : Nat) (y1 : Option Nat) (y3 : Option Nat) (P13 : PL) (b18 : Nat) (x19 : Int32) (b21 : Nat) (P111 : PL) (kdy1 : 1 + cto κ.2.2.2.2 y1 + cto κ.2.2.2.2 (some b21) + cto κ.2.2.2.2 y3 ≤ cto κ.2.2.2.2 (some k0)) (kc14 : cto P13 y1 = cto κ.2.2.2.2 y1) (kc15 : cto P13 (some b21) = cto κ.2.2.2.2 (some b21)) (kc16 : cto P13 y3 = cto κ.2.2.2.2 y3) (kc17 : cto P13 (some k0) = cto κ.2.2.2.2 (some k0)) (ex19 : oI P13 0 b18 = x19) (c20 : ¬ x19.toInt = 0) (kc112 : cto P111 y1 = cto P13 y1) (kc113 : cto P111 y3 = cto P13 y3) (kc114 : cto P111 (some k0) = cto P13 (some k0)) (kc115 : cto P111 (some b21) = cto P13 (some b21)) : 120 * cto κ.2.2.2.2 (some k0) ≤ 120 * cto κ.2.2.2.2 (some k0) := by
  first | assumption | omega | (subst_vars; omega) | trivial
-- room @122
theorem vX8_call_84 (κ : KS) (k0 : Nat) (y1 : Option Nat) (P13 : PL) (b18 : Nat) (x19 : Int32) (b21 : Nat) (P111 : PL) (kdy1 : 1 + cto κ.2.2.2.2 y1 + cto κ.2.2.2.2 (some b21) + cto κ.2.2.2.2 none ≤ cto κ.2.2.2.2 (some k0)) (kc14 : cto P13 y1 = cto κ.2.2.2.2 y1) (kc15 : cto P13 (some b21) = cto κ.2.2.2.2 (some b21)) (kc16 : cto P13 none = cto κ.2.2.2.2 none) (kc17 : cto P13 (some k0) = cto κ.2.2.2.2 (some k0)) (ex19 : oI P13 0 b18 = x19) (c20 : ¬ x19.toInt = 0) (kc112 : cto P111 y1 = cto P13 y1) (kc113 : cto P111 none = cto P13 none) (kc114 : cto P111 (some k0) = cto P13 (some k0)) (kc115 : cto P111 (some b21) = cto P13 (some b21)) : 0 + (13 * cto κ.2.2.2.2 y1) + (13 * cto P13 (some b21)) + 0 ≤ 13 * cto κ.2.2.2.2 (some k0) := by
  have zc0 : cto P111 none = 0 := rfl
  have zc1 : cto P13 none = 0 := rfl
  have zc2 : cto κ.2.2.2.2 none = 0 := rfl
  first | assumption | omega | (subst_vars; omega) | trivial
-- room @122
theorem vX8_call_85 (κ : KS) (k0 : Nat) (y1 : Option Nat) (P13 : PL) (b18 : Nat) (x19 : Int32) (b21 : Nat) (P111 : PL) (kdy1 : 1 + cto κ.2.2.2.2 y1 + cto κ.2.2.2.2 (some b21) + cto κ.2.2.2.2 none ≤ cto κ.2.2.2.2 (some k0)) (kc14 : cto P13 y1 = cto κ.2.2.2.2 y1) (kc15 : cto P13 (some b21) = cto κ.2.2.2.2 (some b21)) (kc16 : cto P13 none = cto κ.2.2.2.2 none) (kc17 : cto P13 (some k0) = cto κ.2.2.2.2 (some k0)) (ex19 : oI P13 0 b18 = x19) (c20 : ¬ x19.toInt = 0) (kc112 : cto P111 y1 = cto P13 y1) (kc113 : cto P111 none = cto P13 none) (kc114 : cto P111 (some k0) = cto P13 (some k0)) (kc115 : cto P111 (some b21) = cto P13 (some b21)) : 0 + (120 * cto κ.2.2.2.2 y1) + (120 * cto P13 (some b21)) + 0 ≤ 120 * cto κ.2.2.2.2 (some k0) := by
  have zc0 : cto P111 none = 0 := rfl
  have zc1 : cto P13 none = 0 := rfl
  have zc2 : cto κ.2.2.2.2 none = 0 := rfl
  first | assumption | omega | (subst_vars; omega) | trivial
-- growm @125
theorem vX8_call_86 (κ : KS) (k0 : Nat) (y1 : Option Nat) (P13 : PL) (b18 : Nat) (x19 : Int32) (b21 : Nat) (P111 : PL) (kdy1 : 1 + cto κ.2.2.2.2 y1 + cto κ.2.2.2.2 (some b21) + cto κ.2.2.2.2 none ≤ cto κ.2.2.2.2 (some k0)) (kc14 : cto P13 y1 = cto κ.2.2.2.2 y1) (kc15 : cto P13 (some b21) = cto κ.2.2.2.2 (some b21)) (kc16 : cto P13 none = cto κ.2.2.2.2 none) (kc17 : cto P13 (some k0) = cto κ.2.2.2.2 (some k0)) (ex19 : oI P13 0 b18 = x19) (c20 : ¬ x19.toInt = 0) (kc112 : cto P111 y1 = cto P13 y1) (kc113 : cto P111 none = cto P13 none) (kc114 : cto P111 (some k0) = cto P13 (some k0)) (kc115 : cto P111 (some b21) = cto P13 (some b21)) : 13 * cto κ.2.2.2.2 (some k0) ≤ 13 * cto κ.2.2.2.2 (some k0) := by
  have zc0 : cto P111 none = 0 := rfl
  have zc1 : cto P13 none = 0 := rfl
  have zc2 : cto κ.2.2.2.2 none = 0 := rfl
  first | assumption | omega | (subst_vars; omega) | trivial
-- growm @125
theorem vX8_call_87 (κ : KS) (k0 : Nat) (y1 : Option Nat) (P13 : PL) (b18 : Nat) (x19 : Int32) (b21 : Nat) (P111 : PL) (kdy1 : 1 + cto κ.2.2.2.2 y1 + cto κ.2.2.2.2 (some b21) + cto κ.2.2.2.2 none ≤ cto κ.2.2.2.2 (some k0)) (kc14 : cto P13 y1 = cto κ.2.2.2.2 y1) (kc15 : cto P13 (some b21) = cto κ.2.2.2.2 (some b21)) (kc16 : cto P13 none = cto κ.2.2.2.2 none) (kc17 : cto P13 (some k0) = cto κ.2.2.2.2 (some k0)) (ex19 : oI P13 0 b18 = x19) (c20 : ¬ x19.toInt = 0) (kc112 : cto P111 y1 = cto P13 y1) (kc113 : cto P111 none = cto P13 none) (kc114 : cto P111 (some k0) = cto P13 (some k0)) (kc115 : cto P111 (some b21) = cto P13 (some b21)) : 120 * cto κ.2.2.2.2 (some k0) ≤ 120 * cto κ.2.2.2.2 (some k0) := by
  have zc0 : cto P111 none = 0 := rfl
  have zc1 : cto P13 none = 0 := rfl
  have zc2 : cto κ.2.2.2.2 none = 0 := rfl
  first | assumption | omega | (subst_vars; omega) | trivial
-- room @164
theorem vX8_call_88 (κ : KS) (k0 : Nat) (y1 : Option Nat) (P13 : PL) (b18 : Nat) (x19 : Int32) (b21 : Nat) (P111 : PL) (kdy1 : 1 + cto κ.2.2.2.2 y1 + cto κ.2.2.2.2 (some b21) + cto κ.2.2.2.2 none ≤ cto κ.2.2.2.2 (some k0)) (kc14 : cto P13 y1 = cto κ.2.2.2.2 y1) (kc15 : cto P13 (some b21) = cto κ.2.2.2.2 (some b21)) (kc16 : cto P13 none = cto κ.2.2.2.2 none) (kc17 : cto P13 (some k0) = cto κ.2.2.2.2 (some k0)) (ex19 : oI P13 0 b18 = x19) (c20 : ¬ x19.toInt = 0) (kc112 : cto P111 y1 = cto P13 y1) (kc113 : cto P111 none = cto P13 none) (kc114 : cto P111 (some k0) = cto P13 (some k0)) (kc115 : cto P111 (some b21) = cto P13 (some b21)) : 0 + (13 * cto κ.2.2.2.2 y1) + (13 * cto P13 (some b21)) + 0 + 0 ≤ 13 * cto κ.2.2.2.2 (some k0) := by
  have zc0 : cto P111 none = 0 := rfl
  have zc1 : cto P13 none = 0 := rfl
  have zc2 : cto κ.2.2.2.2 none = 0 := rfl
  first | assumption | omega | (subst_vars; omega) | trivial
-- room @164
theorem vX8_call_89 (κ : KS) (k0 : Nat) (y1 : Option Nat) (P13 : PL) (b18 : Nat) (x19 : Int32) (b21 : Nat) (P111 : PL) (kdy1 : 1 + cto κ.2.2.2.2 y1 + cto κ.2.2.2.2 (some b21) + cto κ.2.2.2.2 none ≤ cto κ.2.2.2.2 (some k0)) (kc14 : cto P13 y1 = cto κ.2.2.2.2 y1) (kc15 : cto P13 (some b21) = cto κ.2.2.2.2 (some b21)) (kc16 : cto P13 none = cto κ.2.2.2.2 none) (kc17 : cto P13 (some k0) = cto κ.2.2.2.2 (some k0)) (ex19 : oI P13 0 b18 = x19) (c20 : ¬ x19.toInt = 0) (kc112 : cto P111 y1 = cto P13 y1) (kc113 : cto P111 none = cto P13 none) (kc114 : cto P111 (some k0) = cto P13 (some k0)) (kc115 : cto P111 (some b21) = cto P13 (some b21)) : 0 + (120 * cto κ.2.2.2.2 y1) + (120 * cto P13 (some b21)) + 0 + 0 ≤ 120 * cto κ.2.2.2.2 (some k0) := by
  have zc0 : cto P111 none = 0 := rfl
  have zc1 : cto P13 none = 0 := rfl
  have zc2 : cto κ.2.2.2.2 none = 0 := rfl
  first | assumption | omega | (subst_vars; omega) | trivial
-- room @176
theorem vX8_call_90 (κ : KS) (k0 : Nat) (y1 : Option Nat) (P13 : PL) (b18 : Nat) (x19 : Int32) (b21 : Nat) (P111 : PL) (b127 : Nat) (x130 : Int32) (kdy1 : 1 + cto κ.2.2.2.2 y1 + cto κ.2.2.2.2 (some b21) + cto κ.2.2.2.2 none ≤ cto κ.2.2.2.2 (some k0)) (kc14 : cto P13 y1 = cto κ.2.2.2.2 y1) (kc15 : cto P13 (some b21) = cto κ.2.2.2.2 (some b21)) (kc16 : cto P13 none = cto κ.2.2.2.2 none) (kc17 : cto P13 (some k0) = cto κ.2.2.2.2 (some k0)) (ex19 : oI P13 0 b18 = x19) (c20 : ¬ x19.toInt = 0) (kc112 : cto P111 y1 = cto P13 y1) (kc113 : cto P111 none = cto P13 none) (kc114 : cto P111 (some k0) = cto P13 (some k0)) (kc115 : cto P111 (some b21) = cto P13 (some b21)) (ex130 : oI P111 14 b127 = x130) : 0 + (13 * cto κ.2.2.2.2 y1) + (13 * cto P13 (some b21)) + 0 + 3 ≤ 13 * cto κ.2.2.2.2 (some k0) := by
  have zc0 : cto P111 none = 0 := rfl
  have zc1 : cto P13 none = 0 := rfl
  have zc2 : cto κ.2.2.2.2 none = 0 := rfl
  first | assumption | omega | (subst_vars; omega) | trivial
-- room @176
theorem vX8_call_91 (κ : KS) (k0 : Nat) (y1 : Option Nat) (P13 : PL) (b18 : Nat) (x19 : Int32) (b21 : Nat) (P111 : PL) (b127 : Nat) (x130 : Int32) (kdy1 : 1 + cto κ.2.2.2.2 y1 + cto κ.2.2.2.2 (some b21) + cto κ.2.2.2.2 none ≤ cto κ.2.2.2.2 (some k0)) (kc14 : cto P13 y1 = cto κ.2.2.2.2 y1) (kc15 : cto P13 (some b21) = cto κ.2.2.2.2 (some b21)) (kc16 : cto P13 none = cto κ.2.2.2.2 none) (kc17 : cto P13 (some k0) = cto κ.2.2.2.2 (some k0)) (ex19 : oI P13 0 b18 = x19) (c20 : ¬ x19.toInt = 0) (kc112 : cto P111 y1 = cto P13 y1) (kc113 : cto P111 none = cto P13 none) (kc114 : cto P111 (some k0) = cto P13 (some k0)) (kc115 : cto P111 (some b21) = cto P13 (some b21)) (ex130 : oI P111 14 b127 = x130) : 0 + (120 * cto κ.2.2.2.2 y1) + (120 * cto P13 (some b21)) + 0 + 21 ≤ 120 * cto κ.2.2.2.2 (some k0) := by
  have zc0 : cto P111 none = 0 := rfl
  have zc1 : cto P13 none = 0 := rfl
  have zc2 : cto κ.2.2.2.2 none = 0 := rfl
  first | assumption | omega | (subst_vars; omega) | trivial
-- grow @223
theorem vX8_call_92 (κ : KS) (k0 : Nat) (y1 : Option Nat) (P13 : PL) (b18 : Nat) (x19 : Int32) (b21 : Nat) (P111 : PL) (b127 : Nat) (x130 : Int32) (P133 : PL) (kdy1 : 1 + cto κ.2.2.2.2 y1 + cto κ.2.2.2.2 (some b21) + cto κ.2.2.2.2 none ≤ cto κ.2.2.2.2 (some k0)) (kc14 : cto P13 y1 = cto κ.2.2.2.2 y1) (kc15 : cto P13 (some b21) = cto κ.2.2.2.2 (some b21)) (kc16 : cto P13 none = cto κ.2.2.2.2 none) (kc17 : cto P13 (some k0) = cto κ.2.2.2.2 (some k0)) (ex19 : oI P13 0 b18 = x19) (c20 : ¬ x19.toInt = 0) (kc112 : cto P111 y1 = cto P13 y1) (kc113 : cto P111 none = cto P13 none) (kc114 : cto P111 (some k0) = cto P13 (some k0)) (kc115 : cto P111 (some b21) = cto P13 (some b21)) (ex130 : oI P111 14 b127 = x130) (kc134 : cto P133 y1 = cto P111 y1) (kc135 : cto P133 (some k0) = cto P111 (some k0)) (kc136 : cto P133 (some b21) = cto P111 (some b21)) : 0 + (13 * cto κ.2.2.2.2 y1) + (13 * cto P13 (some b21)) + 0 + 3 ≤ 13 * cto κ.2.2.2.2 (some k0) := by
  have zc0 : cto P111 none = 0 := rfl
  have zc1 : cto P13 none = 0 := rfl
  have zc2 : cto κ.2.2.2.2 none = 0 := rfl
  first | assumption | omega | (subst_vars; omega) | trivial
-- grow @223
theorem vX8_call_93 (κ : KS) (k0 : Nat) (y1 : Option Nat) (P13 : PL) (b18 : Nat) (x19 : Int32) (b21 : Nat) (P111 : PL) (b127 : Nat) (x130 : Int32) (P133 : PL) (kdy1 : 1 + cto κ.2.2.2.2 y1 + cto κ.2.2.2.2 (some b21) + cto κ.2.2.2.2 none ≤ cto κ.2.2.2.2 (some k0)) (kc14 : cto P13 y1 = cto κ.2.2.2.2 y1) (kc15 : cto P13 (some b21) = cto κ.2.2.2.2 (some b21)) (kc16 : cto P13 none = cto κ.2.2.2.2 none) (kc17 : cto P13 (some k0) = cto κ.2.2.2.2 (some k0)) (ex19 : oI P13 0 b18 = x19) (c20 : ¬ x19.toInt = 0) (kc112 : cto P111 y1 = cto P13 y1) (kc113 : cto P111 none = cto P13 none) (kc114 : cto P111 (some k0) = cto P13 (some k0)) (kc115 : cto P111 (some b21) = cto P13 (some b21)) (ex130 : oI P111 14 b127 = x130) (kc134 : cto P133 y1 = cto P111 y1) (kc135 : cto P133 (some k0) = cto P111 (some k0)) (kc136 : cto P133 (some b21) = cto P111 (some b21)) : 0 + (120 * cto κ.2.2.2.2 y1) + (120 * cto P13 (some b21)) + 0 + 21 ≤ 120 * cto κ.2.2.2.2 (some k0) := by
  have zc0 : cto P111 none = 0 := rfl
  have zc1 : cto P13 none = 0 := rfl
  have zc2 : cto κ.2.2.2.2 none = 0 := rfl
  first | assumption | omega | (subst_vars; omega) | trivial
-- growm @223
theorem vX8_call_94 (κ : KS) (k0 : Nat) (y1 : Option Nat) (P13 : PL) (b18 : Nat) (x19 : Int32) (b21 : Nat) (P111 : PL) (b127 : Nat) (x130 : Int32) (P133 : PL) (kdy1 : 1 + cto κ.2.2.2.2 y1 + cto κ.2.2.2.2 (some b21) + cto κ.2.2.2.2 none ≤ cto κ.2.2.2.2 (some k0)) (kc14 : cto P13 y1 = cto κ.2.2.2.2 y1) (kc15 : cto P13 (some b21) = cto κ.2.2.2.2 (some b21)) (kc16 : cto P13 none = cto κ.2.2.2.2 none) (kc17 : cto P13 (some k0) = cto κ.2.2.2.2 (some k0)) (ex19 : oI P13 0 b18 = x19) (c20 : ¬ x19.toInt = 0) (kc112 : cto P111 y1 = cto P13 y1) (kc113 : cto P111 none = cto P13 none) (kc114 : cto P111 (some k0) = cto P13 (some k0)) (kc115 : cto P111 (some b21) = cto P13 (some b21)) (ex130 : oI P111 14 b127 = x130) (kc134 : cto P133 y1 = cto P111 y1) (kc135 : cto P133 (some k0) = cto P111 (some k0)) (kc136 : cto P133 (some b21) = cto P111 (some b21)) : 13 * cto κ.2.2.2.2 (some k0) ≤ 13 * cto κ.2.2.2.2 (some k0) := by
  have zc0 : cto P111 none = 0 := rfl
  have zc1 : cto P13 none = 0 := rfl
  have zc2 : cto κ.2.2.2.2 none = 0 := rfl
  first | assumption | omega | (subst_vars; omega) | trivial
-- growm @223
theorem vX8_call_95 (κ : KS) (k0 : Nat) (y1 : Option Nat) (P13 : PL) (b18 : Nat) (x19 : Int32) (b21 : Nat) (P111 : PL) (b127 : Nat) (x130 : Int32) (P133 : PL) (kdy1 : 1 + cto κ.2.2.2.2 y1 + cto κ.2.2.2.2 (some b21) + cto κ.2.2.2.2 none ≤ cto κ.2.2.2.2 (some k0)) (kc14 : cto P13 y1 = cto κ.2.2.2.2 y1) (kc15 : cto P13 (some b21) = cto κ.2.2.2.2 (some b21)) (kc16 : cto P13 none = cto κ.2.2.2.2 none) (kc17 : cto P13 (some k0) = cto κ.2.2.2.2 (some k0)) (ex19 : oI P13 0 b18 = x19) (c20 : ¬ x19.toInt = 0) (kc112 : cto P111 y1 = cto P13 y1) (kc113 : cto P111 none = cto P13 none) (kc114 : cto P111 (some k0) = cto P13 (some k0)) (kc115 : cto P111 (some b21) = cto P13 (some b21)) (ex130 : oI P111 14 b127 = x130) (kc134 : cto P133 y1 = cto P111 y1) (kc135 : cto P133 (some k0) = cto P111 (some k0)) (kc136 : cto P133 (some b21) = cto P111 (some b21)) : 120 * cto κ.2.2.2.2 (some k0) ≤ 120 * cto κ.2.2.2.2 (some k0) := by
  have zc0 : cto P111 none = 0 := rfl
  have zc1 : cto P13 none = 0 := rfl
  have zc2 : cto κ.2.2.2.2 none = 0 := rfl
  first | assumption | omega | (subst_vars; omega) | trivial
-- room @198
theorem vX8_call_96 (κ : KS) (k0 : Nat) (y1 : Option Nat) (P13 : PL) (b18 : Nat) (x19 : Int32) (b21 : Nat) (P111 : PL) (b127 : Nat) (x130 : Int32) (P133 : PL) (x138 : Int32) (kdy1 : 1 + cto κ.2.2.2.2 y1 + cto κ.2.2.2.2 (some b21) + cto κ.2.2.2.2 none ≤ cto κ.2.2.2.2 (some k0)) (kc14 : cto P13 y1 = cto κ.2.2.2.2 y1) (kc15 : cto P13 (some b21) = cto κ.2.2.2.2 (some b21)) (kc16 : cto P13 none = cto κ.2.2.2.2 none) (kc17 : cto P13 (some k0) = cto κ.2.2.2.2 (some k0)) (ex19 : oI P13 0 b18 = x19) (c20 : ¬ x19.toInt = 0) (kc112 : cto P111 y1 = cto P13 y1) (kc113 : cto P111 none = cto P13 none) (kc114 : cto P111 (some k0) = cto P13 (some k0)) (kc115 : cto P111 (some b21) = cto P13 (some b21)) (ex130 : oI P111 14 b127 = x130) (kc134 : cto P133 y1 = cto P111 y1) (kc135 : cto P133 (some k0) = cto P111 (some k0)) (kc136 : cto P133 (some b21) = cto P111 (some b21)) (ex138 : oI P133 15 b127 = x138) : 0 + (13 * cto κ.2.2.2.2 y1) + (13 * cto P13 (some b21)) + 0 + 3 + 3 ≤ 13 * cto κ.2.2.2.2 (some k0) := by
  have zc0 : cto P111 none = 0 := rfl
  have zc1 : cto P13 none = 0 := rfl
  have zc2 : cto κ.2.2.2.2 none = 0 := rfl
  first | assumption | omega | (subst_vars; omega) | trivial
-- room @198
theorem vX8_call_97 (κ : KS) (k0 : Nat) (y1 : Option Nat) (P13 : PL) (b18 : Nat) (x19 : Int32) (b21 : Nat) (P111 : PL) (b127 : Nat) (x130 : Int32) (P133 : PL) (x138 : Int32) (kdy1 : 1 + cto κ.2.2.2.2 y1 + cto κ.2.2.2.2 (some b21) + cto κ.2.2.2.2 none ≤ cto κ.2.2.2.2 (some k0)) (kc14 : cto P13 y1 = cto κ.2.2.2.2 y1) (kc15 : cto P13 (some b21) = cto κ.2.2.2.2 (some b21)) (kc16 : cto P13 none = cto κ.2.2.2.2 none) (kc17 : cto P13 (some k0) = cto κ.2.2.2.2 (some k0)) (ex19 : oI P13 0 b18 = x19) (c20 : ¬ x19.toInt = 0) (kc112 : cto P111 y1 = cto P13 y1) (kc113 : cto P111 none = cto P13 none) (kc114 : cto P111 (some k0) = cto P13 (some k0)) (kc115 : cto P111 (some b21) = cto P13 (some b21)) (ex130 : oI P111 14 b127 = x130) (kc134 : cto P133 y1 = cto P111 y1) (kc135 : cto P133 (some k0) = cto P111 (some k0)) (kc136 : cto P133 (some b21) = cto P111 (some b21)) (ex138 : oI P133 15 b127 = x138) : 0 + (120 * cto κ.2.2.2.2 y1) + (120 * cto P13 (some b21)) + 0 + 21 + 21 ≤ 120 * cto κ.2.2.2.2 (some k0) := by
  have zc0 : cto P111 none = 0 := rfl
  have zc1 : cto P13 none = 0 := rfl
  have zc2 : cto κ.2.2.2.2 none = 0 := rfl
  first | assumption | omega | (subst_vars; omega) | trivial
-- grow @223
theorem vX8_call_98 (κ : KS) (k0 : Nat) (y1 : Option Nat) (P13 : PL) (b18 : Nat) (x19 : Int32) (b21 : Nat) (P111 : PL) (b127 : Nat) (x130 : Int32) (P133 : PL) (x138 : Int32) (P141 : PL) (kdy1 : 1 + cto κ.2.2.2.2 y1 + cto κ.2.2.2.2 (some b21) + cto κ.2.2.2.2 none ≤ cto κ.2.2.2.2 (some k0)) (kc14 : cto P13 y1 = cto κ.2.2.2.2 y1) (kc15 : cto P13 (some b21) = cto κ.2.2.2.2 (some b21)) (kc16 : cto P13 none = cto κ.2.2.2.2 none) (kc17 : cto P13 (some k0) = cto κ.2.2.2.2 (some k0)) (ex19 : oI P13 0 b18 = x19) (c20 : ¬ x19.toInt = 0) (kc112 : cto P111 y1 = cto P13 y1) (kc113 : cto P111 none = cto P13 none) (kc114 : cto P111 (some k0) = cto P13 (some k0)) (kc115 : cto P111 (some b21) = cto P13 (some b21)) (ex130 : oI P111 14 b127 = x130) (kc134 : cto P133 y1 = cto P111 y1) (kc135 : cto P133 (some k0) = cto P111 (some k0)) (kc136 : cto P133 (some b21) = cto P111 (some b21)) (ex138 : oI P133 15 b127 = x138) (kc142 : cto P141 y1 = cto P133 y1) (kc143 : cto P141 (some k0) = cto P133 (some k0)) (kc144 : cto P141 (some b21) = cto P133 (some b21)) : 0 + (13 * cto κ.2.2.2.2 y1) + (13 * cto P13 (some b21)) + 0 + 3 + 3 ≤ 13 * cto κ.2.2.2.2 (some k0) := by
  have zc0 : cto P111 none = 0 := rfl
  have zc1 : cto P13 none = 0 := rfl
  have zc2 : cto κ.2.2.2.2 none = 0 := rfl
  first | assumption | omega | (subst_vars; omega) | trivial
-- grow @223
theorem vX8_call_99 (κ : KS) (k0 : Nat) (y1 : Option Nat) (P13 : PL) (b18 : Nat) (x19 : Int32) (b21 : Nat) (P111 : PL) (b127 : Nat) (x130 : Int32) (P133 : PL) (x138 : Int32) (P141 : PL) (kdy1 : 1 + cto κ.2.2.2.2 y1 + cto κ.2.2.2.2 (some b21) + cto κ.2.2.2.2 none ≤ cto κ.2.2.2.2 (some k0)) (kc14 : cto P13 y1 = cto κ.2.2.2.2 y1) (kc15 : cto P13 (some b21) = cto κ.2.2.2.2 (some b21)) (kc16 : cto P13 none = cto κ.2.2.2.2 none) (kc17 : cto P13 (some k0) = cto κ.2.2.2.2 (some k0)) (ex19 : oI P13 0 b18 = x19) (c20 : ¬ x19.toInt = 0) (kc112 : cto P111 y1 = cto P13 y1) (kc113 : cto P111 none = cto P13 none) (kc114 : cto P111 (some k0) = cto P13 (some k0)) (kc115 : cto P111 (some b21) = cto P13 (some b21)) (ex130 : oI P111 14 b127 = x130) (kc134 : cto P133 y1 = cto P111 y1) (kc135 : cto P133 (some k0) = cto P111 (some k0)) (kc136 : cto P133 (some b21) = cto P111 (some b21)) (ex138 : oI P133 15 b127 = x138) (kc142 : cto P141 y1 = cto P133 y1) (kc143 : cto P141 (some k0) = cto P133 (some k0)) (kc144 : cto P141 (some b21) = cto P133 (some b21)) : 0 + (120 * cto κ.2.2.2.2 y1) + (120 * cto P13 (some b21)) + 0 + 21 + 21 ≤ 120 * cto κ.2.2.2.2 (some k0) := by
  have zc0 : cto P111 none = 0 := rfl
  have zc1 : cto P13 none = 0 := rfl
  have zc2 : cto κ.2.2.2.2 none = 0 := rfl
  first | assumption | omega | (subst_vars; omega) | trivial
-- growm @223
theorem vX8_call_100 (κ : KS) (k0 : Nat) (y1 : Option Nat) (P13 : PL) (b18 : Nat) (x19 : Int32) (b21 : Nat) (P111 : PL) (b127 : Nat) (x130 : Int32) (P133 : PL) (x138 : Int32) (P141 : PL) (kdy1 : 1 + cto κ.2.2.2.2 y1 + cto κ.2.2.2.2 (some b21) + cto κ.2.2.2.2 none ≤ cto κ.2.2.2.2 (some k0)) (kc14 : cto P13 y1 = cto κ.2.2.2.2 y1) (kc15 : cto P13 (some b21) = cto κ.2.2.2.2 (some b21)) (kc16 : cto P13 none = cto κ.2.2.2.2 none) (kc17 : cto P13 (some k0) = cto κ.2.2.2.2 (some k0)) (ex19 : oI P13 0 b18 = x19) (c20 : ¬ x19.toInt = 0) (kc112 : cto P111 y1 = cto P13 y1) (kc113 : cto P111 none = cto P13 none) (kc114 : cto P111 (some k0) = cto P13 (some k0)) (kc115 : cto P111 (some b21) = cto P13 (some b21)) (ex130 : oI P111 14 b127 = x130) (kc134 : cto P133 y1 = cto P111 y1) (kc135 : cto P133 (some k0) = cto P111 (some k0)) (kc136 : cto P133 (some b21) = cto P111 (some b21)) (ex138 : oI P133 15 b127 = x138) (kc142 : cto P141 y1 = cto P133 y1) (kc143 : cto P141 (some k0) = cto P133 (some k0)) (kc144 : cto P141 (some b21) = cto P133 (some b21)) : 13 * cto κ.2.2.2.2 (some k0) ≤ 13 * cto κ.2.2.2.2 (some k0) := by
  have zc0 : cto P111 none = 0 := rfl
  have zc1 : cto P13 none = 0 := rfl
  have zc2 : cto κ.2.2.2.2 none = 0 := rfl
  first | assumption | omega | (subst_vars; omega) | trivial
-- growm @223
theorem vX8_call_101 (κ : KS) (k0 : Nat) (y1 : Option Nat) (P13 : PL) (b18 : Nat) (x19 : Int32) (b21 : Nat) (P111 : PL) (b127 : Nat) (x130 : Int32) (P133 : PL) (x138 : Int32) (P141 : PL) (kdy1 : 1 + cto κ.2.2.2.2 y1 + cto κ.2.2.2.2 (some b21) + cto κ.2.2.2.2 none ≤ cto κ.2.2.2.2 (some k0)) (kc14 : cto P13 y1 = cto κ.2.2.2.2 y1) (kc15 : cto P13 (some b21) = cto κ.2.2.2.2 (some b21)) (kc16 : cto P13 none = cto κ.2.2.2.2 none) (kc17 : cto P13 (some k0) = cto κ.2.2.2.2 (some k0)) (ex19 : oI P13 0 b18 = x19) (c20 : ¬ x19.toInt = 0) (kc112 : cto P111 y1 = cto P13 y1) (kc113 : cto P111 none = cto P13 none) (kc114 : cto P111 (some k0) = cto P13 (some k0)) (kc115 : cto P111 (some b21) = cto P13 (some b21)) (ex130 : oI P111 14 b127 = x130) (kc134 : cto P133 y1 = cto P111 y1) (kc135 : cto P133 (some k0) = cto P111 (some k0)) (kc136 : cto P133 (some b21) = cto P111 (some b21)) (ex138 : oI P133 15 b127 = x138) (kc142 : cto P141 y1 = cto P133 y1) (kc143 : cto P141 (some k0) = cto P133 (some k0)) (kc144 : cto P141 (some b21) = cto P133 (some b21)) : 120 * cto κ.2.2.2.2 (some k0) ≤ 120 * cto κ.2.2.2.2 (some k0) := by
  have zc0 : cto P111 none = 0 := rfl
  have zc1 : cto P13 none = 0 := rfl
  have zc2 : cto κ.2.2.2.2 none = 0 := rfl
  first | assumption | omega | (subst_vars; omega) | trivial
-- room @220
theorem vX8_call_102 (κ : KS) (k0 : Nat) (y1 : Option Nat) (P13 : PL) (b18 : Nat) (x19 : Int32) (b21 : Nat) (P111 : PL) (b127 : Nat) (x130 : Int32) (P133 : PL) (x138 : Int32) (P141 : PL) (kdy1 : 1 + cto κ.2.2.2.2 y1 + cto κ.2.2.2.2 (some b21) + cto κ.2.2.2.2 none ≤ cto κ.2.2.2.2 (some k0)) (kc14 : cto P13 y1 = cto κ.2.2.2.2 y1) (kc15 : cto P13 (some b21) = cto κ.2.2.2.2 (some b21)) (kc16 : cto P13 none = cto κ.2.2.2.2 none) (kc17 : cto P13 (some k0) = cto κ.2.2.2.2 (some k0)) (ex19 : oI P13 0 b18 = x19) (c20 : ¬ x19.toInt = 0) (kc112 : cto P111 y1 = cto P13 y1) (kc113 : cto P111 none = cto P13 none) (kc114 : cto P111 (some k0) = cto P13 (some k0)) (kc115 : cto P111 (some b21) = cto P13 (some b21)) (ex130 : oI P111 14 b127 = x130) (kc134 : cto P133 y1 = cto P111 y1) (kc135 : cto P133 (some k0) = cto P111 (some k0)) (kc136 : cto P133 (some b21) = cto P111 (some b21)) (ex138 : oI P133 15 b127 = x138) (kc142 : cto P141 y1 = cto P133 y1) (kc143 : cto P141 (some k0) = cto P133 (some k0)) (kc144 : cto P141 (some b21) = cto P133 (some b21)) : 0 + (13 * cto κ.2.2.2.2 y1) + (13 * cto P13 (some b21)) + 0 + 3 + 3 + 7 ≤ 13 * cto κ.2.2.2.2 (some k0) := by
  have zc0 : cto P111 none = 0 := rfl
  have zc1 : cto P13 none = 0 := rfl
  have zc2 : cto κ.2.2.2.2 none = 0 := rfl
  first | assumption | omega | (subst_vars; omega) | trivial
-- room @220
theorem vX8_call_103 (κ : KS) (k0 : Nat) (y1 : Option Nat) (P13 : PL) (b18 : Nat) (x19 : Int32) (b21 : Nat) (P111 : PL) (b127 : Nat) (x130 : Int32) (P133 : PL) (x138 : Int32) (P141 : PL) (kdy1 : 1 + cto κ.2.2.2.2 y1 + cto κ.2.2.2.2 (some b21) + cto κ.2.2.2.2 none ≤ cto κ.2.2.2.2 (some k0)) (kc14 : cto P13 y1 = cto κ.2.2.2.2 y1) (kc15 : cto P13 (some b21) = cto κ.2.2.2.2 (some b21)) (kc16 : cto P13 none = cto κ.2.2.2.2 none) (kc17 : cto P13 (some k0) = cto κ.2.2.2.2 (some k0)) (ex19 : oI P13 0 b18 = x19) (c20 : ¬ x19.toInt = 0) (kc112 : cto P111 y1 = cto P13 y1) (kc113 : cto P111 none = cto P13 none) (kc114 : cto P111 (some k0) = cto P13 (some k0)) (kc115 : cto P111 (some b21) = cto P13 (some b21)) (ex130 : oI P111 14 b127 = x130) (kc134 : cto P133 y1 = cto P111 y1) (kc135 : cto P133 (some k0) = cto P111 (some k0)) (kc136 : cto P133 (some b21) = cto P111 (some b21)) (ex138 : oI P133 15 b127 = x138) (kc142 : cto P141 y1 = cto P133 y1) (kc143 : cto P141 (some k0) = cto P133 (some k0)) (kc144 : cto P141 (some b21) = cto P133 (some b21)) : 0 + (120 * cto κ.2.2.2.2 y1) + (120 * cto P13 (some b21)) + 0 + 21 + 21 + 57 ≤ 120 * cto κ.2.2.2.2 (some k0) := by
  have zc0 : cto P111 none = 0 := rfl
  have zc1 : cto P13 none = 0 := rfl
  have zc2 : cto κ.2.2.2.2 none = 0 := rfl
  first | assumption | omega | (subst_vars; omega) | trivial
-- grow @223
theorem vX8_call_104 (κ : KS) (k0 : Nat) (y1 : Option Nat) (P13 : PL) (b18 : Nat) (x19 : Int32) (b21 : Nat) (P111 : PL) (b127 : Nat) (x130 : Int32) (P133 : PL) (x138 : Int32) (P141 : PL) (P148 : PL) (kdy1 : 1 + cto κ.2.2.2.2 y1 + cto κ.2.2.2.2 (some b21) + cto κ.2.2.2.2 none ≤ cto κ.2.2.2.2 (some k0)) (kc14 : cto P13 y1 = cto κ.2.2.2.2 y1) (kc15 : cto P13 (some b21) = cto κ.2.2.2.2 (some b21)) (kc16 : cto P13 none = cto κ.2.2.2.2 none) (kc17 : cto P13 (some k0) = cto κ.2.2.2.2 (some k0)) (ex19 : oI P13 0 b18 = x19) (c20 : ¬ x19.toInt = 0) (kc112 : cto P111 y1 = cto P13 y1) (kc113 : cto P111 none = cto P13 none) (kc114 : cto P111 (some k0) = cto P13 (some k0)) (kc115 : cto P111 (some b21) = cto P13 (some b21)) (ex130 : oI P111 14 b127 = x130) (kc134 : cto P133 y1 = cto P111 y1) (kc135 : cto P133 (some k0) = cto P111 (some k0)) (kc136 : cto P133 (some b21) = cto P111 (some b21)) (ex138 : oI P133 15 b127 = x138) (kc142 : cto P141 y1 = cto P133 y1) (kc143 : cto P141 (some k0) = cto P133 (some k0)) (kc144 : cto P141 (some b21) = cto P133 (some b21)) (kc149 : cto P148 y1 = cto P141 y1) (kc150 : cto P148 (some k0) = cto P141 (some k0)) (kc151 : cto P148 (some b21) = cto P141 (some b21)) : 0 + (13 * cto κ.2.2.2.2 y1) + (13 * cto P13 (some b21)) + 0 + 3 + 3 + 7 ≤ 13 * cto κ.2.2.2.2 (some k0) := by
  have zc0 : cto P111 none = 0 := rfl
  have zc1 : cto P13 none = 0 := rfl
  have zc2 : cto κ.2.2.2.2 none = 0 := rfl
  first | assumption | omega | (subst_vars; omega) | trivial
-- grow @223
theorem vX8_call_105 (κ : KS) (k0 : Nat) (y1 : Option Nat) (P13 : PL) (b18 : Nat) (x19 : Int32) (b21 : Nat) (P111 : PL) (b127 : Nat) (x130 : Int32) (P133 : PL) (x138 : Int32) (P141 : PL) (P148 : PL) (kdy1 : 1 + cto κ.2.2.2.2 y1 + cto κ.2.2.2.2 (some b21) + cto κ.2.2.2.2 none ≤ cto κ.2.2.2.2 (some k0)) (kc14 : cto P13 y1 = cto κ.2.2.2.2 y1) (kc15 : cto P13 (some b21) = cto κ.2.2.2.2 (some b21)) (kc16 : cto P13 none = cto κ.2.2.2.2 none) (kc17 : cto P13 (some k0) = cto κ.2.2.2.2 (some k0)) (ex19 : oI P13 0 b18 = x19) (c20 : ¬ x19.toInt = 0) (kc112 : cto P111 y1 = cto P13 y1) (kc113 : cto P111 none = cto P13 none) (kc114 : cto P111 (some k0) = cto P13 (some k0)) (kc115 : cto P111 (some b21) = cto P13 (some b21)) (ex130 : oI P111 14 b127 = x130) (kc134 : cto P133 y1 = cto P111 y1) (kc135 : cto P133 (some k0) = cto P111 (some k0)) (kc136 : cto P133 (some b21) = cto P111 (some b21)) (ex138 : oI P133 15 b127 = x138) (kc142 : cto P141 y1 = cto P133 y1) (kc143 : cto P141 (some k0) = cto P133 (some k0)) (kc144 : cto P141 (some b21) = cto P133 (some b21)) (kc149 : cto P148 y1 = cto P141 y1) (kc150 : cto P148 (some k0) = cto P141 (some k0)) (kc151 : cto P148 (some b21) = cto P141 (some b21)) : 0 + (120 * cto κ.2.2.2.2 y1) + (120 * cto P13 (some b21)) + 0 + 21 + 21 + 57 ≤ 120 * cto κ.2.2.2.2 (some k0) := by
  have zc0 : cto P111 none = 0 := rfl
  have zc1 : cto P13 none = 0 := rfl
  have zc2 : cto κ.2.2.2.2 none = 0 := rfl
  first | assumption | omega | (subst_vars; omega) | trivial
-- growm @223
theorem vX8_call_106 (κ : KS) (k0 : Nat) (y1 : Option Nat) (P13 : PL) (b18 : Nat) (x19 : Int32) (b21 : Nat) (P111 : PL) (b127 : Nat) (x130 : Int32) (P133 : PL) (x138 : Int32) (P141 : PL) (P148 : PL) (kdy1 : 1 + cto κ.2.2.2.2 y1 + cto κ.2.2.2.2 (some b21) + cto κ.2.2.2.2 none ≤ cto κ.2.2.2.2 (some k0)) (kc14 : cto P13 y1 = cto κ.2.2.2.2 y1) (kc15 : cto P13 (some b21) = cto κ.2.2.2.2 (some b21)) (kc16 : cto P13 none = cto κ.2.2.2.2 none) (kc17 : cto P13 (some k0) = cto κ.2.2.2.2 (some k0)) (ex19 : oI P13 0 b18 = x19) (c20 : ¬ x19.toInt = 0) (kc112 : cto P111 y1 = cto P13 y1) (kc113 : cto P111 none = cto P13 none) (kc114 : cto P111 (some k0) = cto P13 (some k0)) (kc115 : cto P111 (some b21) = cto P13 (some b21)) (ex130 : oI P111 14 b127 = x130) (kc134 : cto P133 y1 = cto P111 y1) (kc135 : cto P133 (some k0) = cto P111 (some k0)) (kc136 : cto P133 (some b21) = cto P111 (some b21)) (ex138 : oI P133 15 b127 = x138) (kc142 : cto P141 y1 = cto P133 y1) (kc143 : cto P141 (some k0) = cto P133 (some k0)) (kc144 : cto P141 (some b21) = cto P133 (some b21)) (kc149 : cto P148 y1 = cto P141 y1) (kc150 : cto P148 (some k0) = cto P141 (some k0)) (kc151 : cto P148 (some b21) = cto P141 (some b21)) : 13 * cto κ.2.2.2.2 (some k0) ≤ 13 * cto κ.2.2.2.2 (some k0) := by
  have zc0 : cto P111 none = 0 := rfl
  have zc1 : cto P13 none = 0 := rfl
  have zc2 : cto κ.2.2.2.2 none = 0 := rfl
  first | assumption | omega | (subst_vars; omega) | trivial
-- growm @223
theorem vX8_call_107 (κ : KS) (k0 : Nat) (y1 : Option Nat) (P13 : PL) (b18 : Nat) (x19 : Int32) (b21 : Nat) (P111 : PL) (b127 : Nat) (x130 : Int32) (P133 : PL) (x138 : Int32) (P141 : PL) (P148 : PL) (kdy1 : 1 + cto κ.2.2.2.2 y1 + cto κ.2.2.2.2 (some b21) + cto κ.2.2.2.2 none ≤ cto κ.2.2.2.2 (some k0)) (kc14 : cto P13 y1 = cto κ.2.2.2.2 y1) (kc15 : cto P13 (some b21) = cto κ.2.2.2.2 (some b21)) (kc16 : cto P13 none = cto κ.2.2.2.2 none) (kc17 : cto P13 (some k0) = cto κ.2.2.2.2 (some k0)) (ex19 : oI P13 0 b18 = x19) (c20 : ¬ x19.toInt = 0) (kc112 : cto P111 y1 = cto P13 y1) (kc113 : cto P111 none = cto P13 none) (kc114 : cto P111 (some k0) = cto P13 (some k0)) (kc115 : cto P111 (some b21) = cto P13 (some b21)) (ex130 : oI P111 14 b127 = x130) (kc134 : cto P133 y1 = cto P111 y1) (kc135 : cto P133 (some k0) = cto P111 (some k0)) (kc136 : cto P133 (some b21) = cto P111 (some b21)) (ex138 : oI P133 15 b127 = x138) (kc142 : cto P141 y1 = cto P133 y1) (kc143 : cto P141 (some k0) = cto P133 (some k0)) (kc144 : cto P141 (some b21) = cto P133 (some b21)) (kc149 : cto P148 y1 = cto P141 y1) (kc150 : cto P148 (some k0) = cto P141 (some k0)) (kc151 : cto P148 (some b21) = cto P141 (some b21)) : 120 * cto κ.2.2.2.2 (some k0) ≤ 120 * cto κ.2.2.2.2 (some k0) := by
  have zc0 : cto P111 none = 0 := rfl
  have zc1 : cto P13 none = 0 := rfl
  have zc2 : cto κ.2.2.2.2 none = 0 := rfl
  first | assumption | omega | (subst_vars; omega) | trivial
-- nw@100 @100
theorem vX8_call_108 (k1 : Int32) (d : Nat) (x4 : Int32) (x102 : Int32) (x152 : Int32) (hpre_2 : 0 ≤ k1.toInt) (hpre_3 : k1.toInt ≤ 40) (hpre_4 : 40 ≤ k1.toInt + ((d : Nat) : Int)) (ex4 : x4 = k1 + (1 : Int32)) (tx4 : x4.toInt = k1.toInt + 1) (ex102 : x102 = k1 + (1 : Int32)) (tx102 : x102.toInt = k1.toInt + 1) (ex152 : x152 = k1 + (1 : Int32)) : x152.toInt = k1.toInt + 1 := by
  have q1 : (1 : Int32).toInt = 1 := by decide +kernel
  have w1 : (1 : Int32).toInt = 1 := by decide +kernel
  rw [ex152, z_add (by omega) (by omega)]; first | done | omega
-- pre:X8_eval@101 @101
theorem vX8_call_109 (k1 : Int32) (d : Nat) (x4 : Int32) (x102 : Int32) (n104 : Int32) (x152 : Int32) (hpre_2 : 0 ≤ k1.toInt) (hpre_3 : k1.toInt ≤ 40) (hpre_4 : 40 ≤ k1.toInt + ((d : Nat) : Int)) (ex4 : x4 = k1 + (1 : Int32)) (tx4 : x4.toInt = k1.toInt + 1) (ex102 : x102 = k1 + (1 : Int32)) (tx102 : x102.toInt = k1.toInt + 1) (hr103_4_0 : 0 ≤ n104.toInt) (hr103_4_1 : n104.toInt ≤ 12) (ex152 : x152 = k1 + (1 : Int32)) (tx152 : x152.toInt = k1.toInt + 1) : 0 ≤ n104.toInt ∧ n104.toInt ≤ 12 ∧ 0 ≤ x152.toInt ∧ x152.toInt ≤ 41 ∧ 41 ≤ x152.toInt + ((d : Nat) : Int) := by
  have q1 : (1 : Int32).toInt = 1 := by decide +kernel
  refine ⟨?_, ?_, ?_, ?_, ?_⟩ <;> first | assumption | omega | (subst_vars; omega) | trivial
-- room @101
theorem vX8_call_110 (κ : KS) (k0 : Nat) (y1 : Option Nat) (P13 : PL) (b18 : Nat) (x19 : Int32) (b21 : Nat) (P111 : PL) (b117 : Nat) (kdy1 : 1 + cto κ.2.2.2.2 y1 + cto κ.2.2.2.2 (some b21) + cto κ.2.2.2.2 (some b117) ≤ cto κ.2.2.2.2 (some k0)) (kc14 : cto P13 y1 = cto κ.2.2.2.2 y1) (kc15 : cto P13 (some b21) = cto κ.2.2.2.2 (some b21)) (kc16 : cto P13 (some b117) = cto κ.2.2.2.2 (some b117)) (kc17 : cto P13 (some k0) = cto κ.2.2.2.2 (some k0)) (ex19 : oI P13 0 b18 = x19) (c20 : ¬ x19.toInt = 0) (kc112 : cto P111 y1 = cto P13 y1) (kc113 : cto P111 (some b117) = cto P13 (some b117)) (kc114 : cto P111 (some k0) = cto P13 (some k0)) (kc115 : cto P111 (some b21) = cto P13 (some b21)) : 0 + (13 * cto κ.2.2.2.2 y1) + (13 * cto P13 (some b21)) + (13 * cto P111 (some b117)) ≤ 13 * cto κ.2.2.2.2 (some k0) := by
  first | assumption | omega | (subst_vars; omega) | trivial
-- room @101
theorem vX8_call_111 (κ : KS) (k0 : Nat) (y1 : Option Nat) (P13 : PL) (b18 : Nat) (x19 : Int32) (b21 : Nat) (P111 : PL) (b117 : Nat) (kdy1 : 1 + cto κ.2.2.2.2 y1 + cto κ.2.2.2.2 (some b21) + cto κ.2.2.2.2 (some b117) ≤ cto κ.2.2.2.2 (some k0)) (kc14 : cto P13 y1 = cto κ.2.2.2.2 y1) (kc15 : cto P13 (some b21) = cto κ.2.2.2.2 (some b21)) (kc16 : cto P13 (some b117) = cto κ.2.2.2.2 (some b117)) (kc17 : cto P13 (some k0) = cto κ.2.2.2.2 (some k0)) (ex19 : oI P13 0 b18 = x19) (c20 : ¬ x19.toInt = 0) (kc112 : cto P111 y1 = cto P13 y1) (kc113 : cto P111 (some b117) = cto P13 (some b117)) (kc114 : cto P111 (some k0) = cto P13 (some k0)) (kc115 : cto P111 (some b21) = cto P13 (some b21)) : 0 + (120 * cto κ.2.2.2.2 y1) + (120 * cto P13 (some b21)) + (120 * cto P111 (some b117)) ≤ 120 * cto κ.2.2.2.2 (some k0) := by
  first | assumption | omega | (subst_vars; omega) | trivial
-- post @112
theorem vX8_call_112 (n154 : Int32) (hr153_4_0 : 0 ≤ n154.toInt) (hr153_4_1 : n154.toInt ≤ 12) : 0 ≤ n154.toInt ∧ n154.toInt ≤ 12 := by
  refine ⟨?_, ?_⟩ <;> first | assumption | omega | (subst_vars; omega) | trivial
-- grow @112
theorem vX8_call_113 (κ : KS) (k0 : Nat) (y1 : Option Nat) (P13 : PL) (b18 : Nat) (x19 : Int32) (b21 : Nat) (P111 : PL) (b117 : Nat) (P161 : PL) (kdy1 : 1 + cto κ.2.2.2.2 y1 + cto κ.2.2.2.2 (some b21) + cto κ.2.2.2.2 (some b117) ≤ cto κ.2.2.2.2 (some k0)) (kc14 : cto P13 y1 = cto κ.2.2.2.2 y1) (kc15 : cto P13 (some b21) = cto κ.2.2.2.2 (some b21)) (kc16 : cto P13 (some b117) = cto κ.2.2.2.2 (some b117)) (kc17 : cto P13 (some k0) = cto κ.2.2.2.2 (some k0)) (ex19 : oI P13 0 b18 = x19) (c20 : ¬ x19.toInt = 0) (kc112 : cto P111 y1 = cto P13 y1) (kc113 : cto P111 (some b117) = cto P13 (some b117)) (kc114 : cto P111 (some k0) = cto P13 (some k0)) (kc115 : cto P111 (some b21) = cto P13 (some b21)) (kc162 : cto P161 y1 = cto P111 y1) (kc163 : cto P161 (some k0) = cto P111 (some k0)) (kc164 : cto P161 (some b21) = cto P111 (some b21)) (kc165 : cto P161 (some b117) = cto P111 (some b117)) : 0 + (13 * cto κ.2.2.2.2 y1) + (13 * cto P13 (some b21)) + (13 * cto P111 (some b117)) ≤ 13 * cto κ.2.2.2.2 (some k0) := by
  first | assumption | omega | (subst_vars; omega) | trivial
-- grow @112
theorem vX8_call_114 (κ : KS) (k0 : Nat) (y1 : Option Nat) (P13 : PL) (b18 : Nat) (x19 : Int32) (b21 : Nat) (P111 : PL) (b117 : Nat) (P161 : PL) (kdy1 : 1 + cto κ.2.2.2.2 y1 + cto κ.2.2.2.2 (some b21) + cto κ.2.2.2.2 (some b117) ≤ cto κ.2.2.2.2 (some k0)) (kc14 : cto P13 y1 = cto κ.2.2.2.2 y1) (kc15 : cto P13 (some b21) = cto κ.2.2.2.2 (some b21)) (kc16 : cto P13 (some b117) = cto κ.2.2.2.2 (some b117)) (kc17 : cto P13 (some k0) = cto κ.2.2.2.2 (some k0)) (ex19 : oI P13 0 b18 = x19) (c20 : ¬ x19.toInt = 0) (kc112 : cto P111 y1 = cto P13 y1) (kc113 : cto P111 (some b117) = cto P13 (some b117)) (kc114 : cto P111 (some k0) = cto P13 (some k0)) (kc115 : cto P111 (some b21) = cto P13 (some b21)) (kc162 : cto P161 y1 = cto P111 y1) (kc163 : cto P161 (some k0) = cto P111 (some k0)) (kc164 : cto P161 (some b21) = cto P111 (some b21)) (kc165 : cto P161 (some b117) = cto P111 (some b117)) : 0 + (120 * cto κ.2.2.2.2 y1) + (120 * cto P13 (some b21)) + (120 * cto P111 (some b117)) ≤ 120 * cto κ.2.2.2.2 (some k0) := by
  first | assumption | omega | (subst_vars; omega) | trivial
-- growm @112
theorem vX8_call_115 (κ : KS) (k0 : Nat) (y1 : Option Nat) (P13 : PL) (b18 : Nat) (x19 : Int32) (b21 : Nat) (P111 : PL) (b117 : Nat) (P161 : PL) (kdy1 : 1 + cto κ.2.2.2.2 y1 + cto κ.2.2.2.2 (some b21) + cto κ.2.2.2.2 (some b117) ≤ cto κ.2.2.2.2 (some k0)) (kc14 : cto P13 y1 = cto κ.2.2.2.2 y1) (kc15 : cto P13 (some b21) = cto κ.2.2.2.2 (some b21)) (kc16 : cto P13 (some b117) = cto κ.2.2.2.2 (some b117)) (kc17 : cto P13 (some k0) = cto κ.2.2.2.2 (some k0)) (ex19 : oI P13 0 b18 = x19) (c20 : ¬ x19.toInt = 0) (kc112 : cto P111 y1 = cto P13 y1) (kc113 : cto P111 (some b117) = cto P13 (some b117)) (kc114 : cto P111 (some k0) = cto P13 (some k0)) (kc115 : cto P111 (some b21) = cto P13 (some b21)) (kc162 : cto P161 y1 = cto P111 y1) (kc163 : cto P161 (some k0) = cto P111 (some k0)) (kc164 : cto P161 (some b21) = cto P111 (some b21)) (kc165 : cto P161 (some b117) = cto P111 (some b117)) : 13 * cto κ.2.2.2.2 (some k0) ≤ 13 * cto κ.2.2.2.2 (some k0) := by
  first | assumption | omega | (subst_vars; omega) | trivial
-- growm @112
theorem vX8_call_116 (κ : KS) (k0 : Nat) (y1 : Option Nat) (P13 : PL) (b18 : Nat) (x19 : Int32) (b21 : Nat) (P111 : PL) (b117 : Nat) (P161 : PL) (kdy1 : 1 + cto κ.2.2.2.2 y1 + cto κ.2.2.2.2 (some b21) + cto κ.2.2.2.2 (some b117) ≤ cto κ.2.2.2.2 (some k0)) (kc14 : cto P13 y1 = cto κ.2.2.2.2 y1) (kc15 : cto P13 (some b21) = cto κ.2.2.2.2 (some b21)) (kc16 : cto P13 (some b117) = cto κ.2.2.2.2 (some b117)) (kc17 : cto P13 (some k0) = cto κ.2.2.2.2 (some k0)) (ex19 : oI P13 0 b18 = x19) (c20 : ¬ x19.toInt = 0) (kc112 : cto P111 y1 = cto P13 y1) (kc113 : cto P111 (some b117) = cto P13 (some b117)) (kc114 : cto P111 (some k0) = cto P13 (some k0)) (kc115 : cto P111 (some b21) = cto P13 (some b21)) (kc162 : cto P161 y1 = cto P111 y1) (kc163 : cto P161 (some k0) = cto P111 (some k0)) (kc164 : cto P161 (some b21) = cto P111 (some b21)) (kc165 : cto P161 (some b117) = cto P111 (some b117)) : 120 * cto κ.2.2.2.2 (some k0) ≤ 120 * cto κ.2.2.2.2 (some k0) := by
  first | assumption | omega | (subst_vars; omega) | trivial
-- room @122
theorem vX8_call_117 (κ : KS) (k0 : Nat) (y1 : Option Nat) (P13 : PL) (b18 : Nat) (x19 : Int32) (b21 : Nat) (P111 : PL) (b117 : Nat) (P161 : PL) (kdy1 : 1 + cto κ.2.2.2.2 y1 + cto κ.2.2.2.2 (some b21) + cto κ.2.2.2.2 (some b117) ≤ cto κ.2.2.2.2 (some k0)) (kc14 : cto P13 y1 = cto κ.2.2.2.2 y1) (kc15 : cto P13 (some b21) = cto κ.2.2.2.2 (some b21)) (kc16 : cto P13 (some b117) = cto κ.2.2.2.2 (some b117)) (kc17 : cto P13 (some k0) = cto κ.2.2.2.2 (some k0)) (ex19 : oI P13 0 b18 = x19) (c20 : ¬ x19.toInt = 0) (kc112 : cto P111 y1 = cto P13 y1) (kc113 : cto P111 (some b117) = cto P13 (some b117)) (kc114 : cto P111 (some k0) = cto P13 (some k0)) (kc115 : cto P111 (some b21) = cto P13 (some b21)) (kc162 : cto P161 y1 = cto P111 y1) (kc163 : cto P161 (some k0) = cto P111 (some k0)) (kc164 : cto P161 (some b21) = cto P111 (some b21)) (kc165 : cto P161 (some b117) = cto P111 (some b117)) : 0 + (13 * cto κ.2.2.2.2 y1) + (13 * cto P13 (some b21)) + (13 * cto P111 (some b117)) + 0 ≤ 13 * cto κ.2.2.2.2 (some k0) := by
  first | assumption | omega | (subst_vars; omega) | trivial
-- room @122
theorem vX8_call_118 (κ : KS) (k0 : Nat) (y1 : Option Nat) (P13 : PL) (b18 : Nat) (x19 : Int32) (b21 : Nat) (P111 : PL) (b117 : Nat) (P161 : PL) (kdy1 : 1 + cto κ.2.2.2.2 y1 + cto κ.2.2.2.2 (some b21) + cto κ.2.2.2.2 (some b117) ≤ cto κ.2.2.2.2 (some k0)) (kc14 : cto P13 y1 = cto κ.2.2.2.2 y1) (kc15 : cto P13 (some b21) = cto κ.2.2.2.2 (some b21)) (kc16 : cto P13 (some b117) = cto κ.2.2.2.2 (some b117)) (kc17 : cto P13 (some k0) = cto κ.2.2.2.2 (some k0)) (ex19 : oI P13 0 b18 = x19) (c20 : ¬ x19.toInt = 0) (kc112 : cto P111 y1 = cto P13 y1) (kc113 : cto P111 (some b117) = cto P13 (some b117)) (kc114 : cto P111 (some k0) = cto P13 (some k0)) (kc115 : cto P111 (some b21) = cto P13 (some b21)) (kc162 : cto P161 y1 = cto P111 y1) (kc163 : cto P161 (some k0) = cto P111 (some k0)) (kc164 : cto P161 (some b21) = cto P111 (some b21)) (kc165 : cto P161 (some b117) = cto P111 (some b117)) : 0 + (120 * cto κ.2.2.2.2 y1) + (120 * cto P13 (some b21)) + (120 * cto P111 (some b117)) + 0 ≤ 120 * cto κ.2.2.2.2 (some k0) := by
  first | assumption | omega | (subst_vars; omega) | trivial
-- room @164
theorem vX8_call_119 (κ : KS) (k0 : Nat) (y1 : Option Nat) (P13 : PL) (b18 : Nat) (x19 : Int32) (b21 : Nat) (P111 : PL) (b117 : Nat) (P161 : PL) (kdy1 : 1 + cto κ.2.2.2.2 y1 + cto κ.2.2.2.2 (some b21) + cto κ.2.2.2.2 (some b117) ≤ cto κ.2.2.2.2 (some k0)) (kc14 : cto P13 y1 = cto κ.2.2.2.2 y1) (kc15 : cto P13 (some b21) = cto κ.2.2.2.2 (some b21)) (kc16 : cto P13 (some b117) = cto κ.2.2.2.2 (some b117)) (kc17 : cto P13 (some k0) = cto κ.2.2.2.2 (some k0)) (ex19 : oI P13 0 b18 = x19) (c20 : ¬ x19.toInt = 0) (kc112 : cto P111 y1 = cto P13 y1) (kc113 : cto P111 (some b117) = cto P13 (some b117)) (kc114 : cto P111 (some k0) = cto P13 (some k0)) (kc115 : cto P111 (some b21) = cto P13 (some b21)) (kc162 : cto P161 y1 = cto P111 y1) (kc163 : cto P161 (some k0) = cto P111 (some k0)) (kc164 : cto P161 (some b21) = cto P111 (some b21)) (kc165 : cto P161 (some b117) = cto P111 (some b117)) : 0 + (13 * cto κ.2.2.2.2 y1) + (13 * cto P13 (some b21)) + (13 * cto P111 (some b117)) + 0 + 0 ≤ 13 * cto κ.2.2.2.2 (some k0) := by
  first | assumption | omega | (subst_vars; omega) | trivial
-- room @164
theorem vX8_call_120 (κ : KS) (k0 : Nat) (y1 : Option Nat) (P13 : PL) (b18 : Nat) (x19 : Int32) (b21 : Nat) (P111 : PL) (b117 : Nat) (P161 : PL) (kdy1 : 1 + cto κ.2.2.2.2 y1 + cto κ.2.2.2.2 (some b21) + cto κ.2.2.2.2 (some b117) ≤ cto κ.2.2.2.2 (some k0)) (kc14 : cto P13 y1 = cto κ.2.2.2.2 y1) (kc15 : cto P13 (some b21) = cto κ.2.2.2.2 (some b21)) (kc16 : cto P13 (some b117) = cto κ.2.2.2.2 (some b117)) (kc17 : cto P13 (some k0) = cto κ.2.2.2.2 (some k0)) (ex19 : oI P13 0 b18 = x19) (c20 : ¬ x19.toInt = 0) (kc112 : cto P111 y1 = cto P13 y1) (kc113 : cto P111 (some b117) = cto P13 (some b117)) (kc114 : cto P111 (some k0) = cto P13 (some k0)) (kc115 : cto P111 (some b21) = cto P13 (some b21)) (kc162 : cto P161 y1 = cto P111 y1) (kc163 : cto P161 (some k0) = cto P111 (some k0)) (kc164 : cto P161 (some b21) = cto P111 (some b21)) (kc165 : cto P161 (some b117) = cto P111 (some b117)) : 0 + (120 * cto κ.2.2.2.2 y1) + (120 * cto P13 (some b21)) + (120 * cto P111 (some b117)) + 0 + 0 ≤ 120 * cto κ.2.2.2.2 (some k0) := by
  first | assumption | omega | (subst_vars; omega) | trivial
-- room @176
theorem vX8_call_121 (κ : KS) (k0 : Nat) (y1 : Option Nat) (P13 : PL) (b18 : Nat) (x19 : Int32) (b21 : Nat) (P111 : PL) (b117 : Nat) (P161 : PL) (b176 : Nat) (x179 : Int32) (kdy1 : 1 + cto κ.2.2.2.2 y1 + cto κ.2.2.2.2 (some b21) + cto κ.2.2.2.2 (some b117) ≤ cto κ.2.2.2.2 (some k0)) (kc14 : cto P13 y1 = cto κ.2.2.2.2 y1) (kc15 : cto P13 (some b21) = cto κ.2.2.2.2 (some b21)) (kc16 : cto P13 (some b117) = cto κ.2.2.2.2 (some b117)) (kc17 : cto P13 (some k0) = cto κ.2.2.2.2 (some k0)) (ex19 : oI P13 0 b18 = x19) (c20 : ¬ x19.toInt = 0) (kc112 : cto P111 y1 = cto P13 y1) (kc113 : cto P111 (some b117) = cto P13 (some b117)) (kc114 : cto P111 (some k0) = cto P13 (some k0)) (kc115 : cto P111 (some b21) = cto P13 (some b21)) (kc162 : cto P161 y1 = cto P111 y1) (kc163 : cto P161 (some k0) = cto P111 (some k0)) (kc164 : cto P161 (some b21) = cto P111 (some b21)) (kc165 : cto P161 (some b117) = cto P111 (some b117)) (ex179 : oI P161 14 b176 = x179) : 0 + (13 * cto κ.2.2.2.2 y1) + (13 * cto P13 (some b21)) + (13 * cto P111 (some b117)) + 0 + 3 ≤ 13 * cto κ.2.2.2.2 (some k0) := by
  first | assumption | omega | (subst_vars; omega) | trivial
-- room @176
theorem vX8_call_122 (κ : KS) (k0 : Nat) (y1 : Option Nat) (P13 : PL) (b18 : Nat) (x19 : Int32) (b21 : Nat) (P111 : PL) (b117 : Nat) (P161 : PL) (b176 : Nat) (x179 : Int32) (kdy1 : 1 + cto κ.2.2.2.2 y1 + cto κ.2.2.2.2 (some b21) + cto κ.2.2.2.2 (some b117) ≤ cto κ.2.2.2.2 (some k0)) (kc14 : cto P13 y1 = cto κ.2.2.2.2 y1) (kc15 : cto P13 (some b21) = cto κ.2.2.2.2 (some b21)) (kc16 : cto P13 (some b117) = cto κ.2.2.2.2 (some b117)) (kc17 : cto P13 (some k0) = cto κ.2.2.2.2 (some k0)) (ex19 : oI P13 0 b18 = x19) (c20 : ¬ x19.toInt = 0) (kc112 : cto P111 y1 = cto P13 y1) (kc113 : cto P111 (some b117) = cto P13 (some b117)) (kc114 : cto P111 (some k0) = cto P13 (some k0)) (kc115 : cto P111 (some b21) = cto P13 (some b21)) (kc162 : cto P161 y1 = cto P111 y1) (kc163 : cto P161 (some k0) = cto P111 (some k0)) (kc164 : cto P161 (some b21) = cto P111 (some b21)) (kc165 : cto P161 (some b117) = cto P111 (some b117)) (ex179 : oI P161 14 b176 = x179) : 0 + (120 * cto κ.2.2.2.2 y1) + (120 * cto P13 (some b21)) + (120 * cto P111 (some b117)) + 0 + 21 ≤ 120 * cto κ.2.2.2.2 (some k0) := by
  first | assumption | omega | (subst_vars; omega) | trivial
-- grow @223
theorem vX8_call_123 (κ : KS) (k0 : Nat) (y1 : Option Nat) (P13 : PL) (b18 : Nat) (x19 : Int32) (b21 : Nat) (P111 : PL) (b117 : Nat) (P161 : PL) (b176 : Nat) (x179 : Int32) (P182 : PL) (kdy1 : 1 + cto κ.2.2.2.2 y1 + cto κ.2.2.2.2 (some b21) + cto κ.2.2.2.2 (some b117) ≤ cto κ.2.2.2.2 (some k0)) (kc14 : cto P13 y1 = cto κ.2.2.2.2 y1) (kc15 : cto P13 (some b21) = cto κ.2.2.2.2 (some b21)) (kc16 : cto P13 (some b117) = cto κ.2.2.2.2 (some b117)) (kc17 : cto P13 (some k0) = cto κ.2.2.2.2 (some k0)) (ex19 : oI P13 0 b18 = x19) (c20 : ¬ x19.toInt = 0) (kc112 : cto P111 y1 = cto P13 y1) (kc113 : cto P111 (some b117) = cto P13 (some b117)) (kc114 : cto P111 (some k0) = cto P13 (some k0)) (kc115 : cto P111 (some b21) = cto P13 (some b21)) (kc162 : cto P161 y1 = cto P111 y1) (kc163 : cto P161 (some k0) = cto P111 (some k0)) (kc164 : cto P161 (some b21) = cto P111 (some b21)) (kc165 : cto P161 (some b117) = cto P111 (some b117)) (ex179 : oI P161 14 b176 = x179) (kc183 : cto P182 y1 = cto P161 y1) (kc184 : cto P182 (some k0) = cto P161 (some k0)) (kc185 : cto P182 (some b21) = cto P161 (some b21)) (kc186 : cto P182 (some b117) = cto P161 (some b117)) : 0 + (13 * cto κ.2.2.2.2 y1) + (13 * cto P13 (some b21)) + (13 * cto P111 (some b117)) + 0 + 3 ≤ 13 * cto κ.2.2.2.2 (some k0) := by
  first | assumption | omega | (subst_vars; omega) | trivial
-- grow @223
theorem vX8_call_124 (κ : KS) (k0 : Nat) (y1 : Option Nat) (P13 : PL) (b18 : Nat) (x19 : Int32) (b21 : Nat) (P111 : PL) (b117 : Nat) (P161 : PL) (b176 : Nat) (x179 : Int32) (P182 : PL) (kdy1 : 1 + cto κ.2.2.2.2 y1 + cto κ.2.2.2.2 (some b21) + cto κ.2.2.2.2 (some b117) ≤ cto κ.2.2.2.2 (some k0)) (kc14 : cto P13 y1 = cto κ.2.2.2.2 y1) (kc15 : cto P13 (some b21) = cto κ.2.2.2.2 (some b21)) (kc16 : cto P13 (some b117) = cto κ.2.2.2.2 (some b117)) (kc17 : cto P13 (some k0) = cto κ.2.2.2.2 (some k0)) (ex19 : oI P13 0 b18 = x19) (c20 : ¬ x19.toInt = 0) (kc112 : cto P111 y1 = cto P13 y1) (kc113 : cto P111 (some b117) = cto P13 (some b117)) (kc114 : cto P111 (some k0) = cto P13 (some k0)) (kc115 : cto P111 (some b21) = cto P13 (some b21)) (kc162 : cto P161 y1 = cto P111 y1) (kc163 : cto P161 (some k0) = cto P111 (some k0)) (kc164 : cto P161 (some b21) = cto P111 (some b21)) (kc165 : cto P161 (some b117) = cto P111 (some b117)) (ex179 : oI P161 14 b176 = x179) (kc183 : cto P182 y1 = cto P161 y1) (kc184 : cto P182 (some k0) = cto P161 (some k0)) (kc185 : cto P182 (some b21) = cto P161 (some b21)) (kc186 : cto P182 (some b117) = cto P161 (some b117)) : 0 + (120 * cto κ.2.2.2.2 y1) + (120 * cto P13 (some b21)) + (120 * cto P111 (some b117)) + 0 + 21 ≤ 120 * cto κ.2.2.2.2 (some k0) := by
  first | assumption | omega | (subst_vars; omega) | trivial
-- growm @223
theorem vX8_call_125 (κ : KS) (k0 : Nat) (y1 : Option Nat) (P13 : PL) (b18 : Nat) (x19 : Int32) (b21 : Nat) (P111 : PL) (b117 : Nat) (P161 : PL) (b176 : Nat) (x179 : Int32) (P182 : PL) (kdy1 : 1 + cto κ.2.2.2.2 y1 + cto κ.2.2.2.2 (some b21) + cto κ.2.2.2.2 (some b117) ≤ cto κ.2.2.2.2 (some k0)) (kc14 : cto P13 y1 = cto κ.2.2.2.2 y1) (kc15 : cto P13 (some b21) = cto κ.2.2.2.2 (some b21)) (kc16 : cto P13 (some b117) = cto κ.2.2.2.2 (some b117)) (kc17 : cto P13 (some k0) = cto κ.2.2.2.2 (some k0)) (ex19 : oI P13 0 b18 = x19) (c20 : ¬ x19.toInt = 0) (kc112 : cto P111 y1 = cto P13 y1) (kc113 : cto P111 (some b117) = cto P13 (some b117)) (kc114 : cto P111 (some k0) = cto P13 (some k0)) (kc115 : cto P111 (some b21) = cto P13 (some b21)) (kc162 : cto P161 y1 = cto P111 y1) (kc163 : cto P161 (some k0) = cto P111 (some k0)) (kc164 : cto P161 (some b21) = cto P111 (some b21)) (kc165 : cto P161 (some b117) = cto P111 (some b117)) (ex179 : oI P161 14 b176 = x179) (kc183 : cto P182 y1 = cto P161 y1) (kc184 : cto P182 (some k0) = cto P161 (some k0)) (kc185 : cto P182 (some b21) = cto P161 (some b21)) (kc186 : cto P182 (some b117) = cto P161 (some b117)) : 13 * cto κ.2.2.2.2 (some k0) ≤ 13 * cto κ.2.2.2.2 (some k0) := by
  first | assumption | omega | (subst_vars; omega) | trivial
-- growm @223
theorem vX8_call_126 (κ : KS) (k0 : Nat) (y1 : Option Nat) (P13 : PL) (b18 : Nat) (x19 : Int32) (b21 : Nat) (P111 : PL) (b117 : Nat) (P161 : PL) (b176 : Nat) (x179 : Int32) (P182 : PL) (kdy1 : 1 + cto κ.2.2.2.2 y1 + cto κ.2.2.2.2 (some b21) + cto κ.2.2.2.2 (some b117) ≤ cto κ.2.2.2.2 (some k0)) (kc14 : cto P13 y1 = cto κ.2.2.2.2 y1) (kc15 : cto P13 (some b21) = cto κ.2.2.2.2 (some b21)) (kc16 : cto P13 (some b117) = cto κ.2.2.2.2 (some b117)) (kc17 : cto P13 (some k0) = cto κ.2.2.2.2 (some k0)) (ex19 : oI P13 0 b18 = x19) (c20 : ¬ x19.toInt = 0) (kc112 : cto P111 y1 = cto P13 y1) (kc113 : cto P111 (some b117) = cto P13 (some b117)) (kc114 : cto P111 (some k0) = cto P13 (some k0)) (kc115 : cto P111 (some b21) = cto P13 (some b21)) (kc162 : cto P161 y1 = cto P111 y1) (kc163 : cto P161 (some k0) = cto P111 (some k0)) (kc164 : cto P161 (some b21) = cto P111 (some b21)) (kc165 : cto P161 (some b117) = cto P111 (some b117)) (ex179 : oI P161 14 b176 = x179) (kc183 : cto P182 y1 = cto P161 y1) (kc184 : cto P182 (some k0) = cto P161 (some k0)) (kc185 : cto P182 (some b21) = cto P161 (some b21)) (kc186 : cto P182 (some b117) = cto P161 (some b117)) : 120 * cto κ.2.2.2.2 (some k0) ≤ 120 * cto κ.2.2.2.2 (some k0) := by
  first | assumption | omega | (subst_vars; omega) | trivial
-- room @198
theorem vX8_call_127 (κ : KS) (k0 : Nat) (y1 : Option Nat) (P13 : PL) (b18 : Nat) (x19 : Int32) (b21 : Nat) (P111 : PL) (b117 : Nat) (P161 : PL) (b176 : Nat) (x179 : Int32) (P182 : PL) (x188 : Int32) (kdy1 : 1 + cto κ.2.2.2.2 y1 + cto κ.2.2.2.2 (some b21) + cto κ.2.2.2.2 (some b117) ≤ cto κ.2.2.2.2 (some k0)) (kc14 : cto P13 y1 = cto κ.2.2.2.2 y1) (kc15 : cto P13 (some b21) = cto κ.2.2.2.2 (some b21)) (kc16 : cto P13 (some b117) = cto κ.2.2.2.2 (some b117)) (kc17 : cto P13 (some k0) = cto κ.2.2.2.2 (some k0)) (ex19 : oI P13 0 b18 = x19) (c20 : ¬ x19.toInt = 0) (kc112 : cto P111 y1 = cto P13 y1) (kc113 : cto P111 (some b117) = cto P13 (some b117)) (kc114 : cto P111 (some k0) = cto P13 (some k0)) (kc115 : cto P111 (some b21) = cto P13 (some b21)) (kc162 : cto P161 y1 = cto P111 y1) (kc163 : cto P161 (some k0) = cto P111 (some k0)) (kc164 : cto P161 (some b21) = cto P111 (some b21)) (kc165 : cto P161 (some b117) = cto P111 (some b117)) (ex179 : oI P161 14 b176 = x179) (kc183 : cto P182 y1 = cto P161 y1) (kc184 : cto P182 (some k0) = cto P161 (some k0)) (kc185 : cto P182 (some b21) = cto P161 (some b21)) (kc186 : cto P182 (some b117) = cto P161 (some b117)) (ex188 : oI P182 15 b176 = x188) : 0 + (13 * cto κ.2.2.2.2 y1) + (13 * cto P13 (some b21)) + (13 * cto P111 (some b117)) + 0 + 3 + 3 ≤ 13 * cto κ.2.2.2.2 (some k0) := by
  first | assumption | omega | (subst_vars; omega) | trivial
-- room @198
theorem vX8_call_128 (κ : KS) (k0 : Nat) (y1 : Option Nat) (P13 : PL) (b18 : Nat) (x19 : Int32) (b21 : Nat) (P111 : PL) (b117 : Nat) (P161 : PL) (b176 : Nat) (x179 : Int32) (P182 : PL) (x188 : Int32) (kdy1 : 1 + cto κ.2.2.2.2 y1 + cto κ.2.2.2.2 (some b21) + cto κ.2.2.2.2 (some b117) ≤ cto κ.2.2.2.2 (some k0)) (kc14 : cto P13 y1 = cto κ.2.2.2.2 y1) (kc15 : cto P13 (some b21) = cto κ.2.2.2.2 (some b21)) (kc16 : cto P13 (some b117) = cto κ.2.2.2.2 (some b117)) (kc17 : cto P13 (some k0) = cto κ.2.2.2.2 (some k0)) (ex19 : oI P13 0 b18 = x19) (c20 : ¬ x19.toInt = 0) (kc112 : cto P111 y1 = cto P13 y1) (kc113 : cto P111 (some b117) = cto P13 (some b117)) (kc114 : cto P111 (some k0) = cto P13 (some k0)) (kc115 : cto P111 (some b21) = cto P13 (some b21)) (kc162 : cto P161 y1 = cto P111 y1) (kc163 : cto P161 (some k0) = cto P111 (some k0)) (kc164 : cto P161 (some b21) = cto P111 (some b21)) (kc165 : cto P161 (some b117) = cto P111 (some b117)) (ex179 : oI P161 14 b176 = x179) (kc183 : cto P182 y1 = cto P161 y1) (kc184 : cto P182 (some k0) = cto P161 (some k0)) (kc185 : cto P182 (some b21) = cto P161 (some b21)) (kc186 : cto P182 (some b117) = cto P161 (some b117)) (ex188 : oI P182 15 b176 = x188) : 0 + (120 * cto κ.2.2.2.2 y1) + (120 * cto P13 (some b21)) + (120 * cto P111 (some b117)) + 0 + 21 + 21 ≤ 120 * cto κ.2.2.2.2 (some k0) := by
  first | assumption | omega | (subst_vars; omega) | trivial
-- grow @223
theorem vX8_call_129 (κ : KS) (k0 : Nat) (y1 : Option Nat) (P13 : PL) (b18 : Nat) (x19 : Int32) (b21 : Nat) (P111 : PL) (b117 : Nat) (P161 : PL) (b176 : Nat) (x179 : Int32) (P182 : PL) (x188 : Int32) (P191 : PL) (kdy1 : 1 + cto κ.2.2.2.2 y1 + cto κ.2.2.2.2 (some b21) + cto κ.2.2.2.2 (some b117) ≤ cto κ.2.2.2.2 (some k0)) (kc14 : cto P13 y1 = cto κ.2.2.2.2 y1) (kc15 : cto P13 (some b21) = cto κ.2.2.2.2 (some b21)) (kc16 : cto P13 (some b117) = cto κ.2.2.2.2 (some b117)) (kc17 : cto P13 (some k0) = cto κ.2.2.2.2 (some k0)) (ex19 : oI P13 0 b18 = x19) (c20 : ¬ x19.toInt = 0) (kc112 : cto P111 y1 = cto P13 y1) (kc113 : cto P111 (some b117) = cto P13 (some b117)) (kc114 : cto P111 (some k0) = cto P13 (some k0)) (kc115 : cto P111 (some b21) = cto P13 (some b21)) (kc162 : cto P161 y1 = cto P111 y1) (kc163 : cto P161 (some k0) = cto P111 (some k0)) (kc164 : cto P161 (some b21) = cto P111 (some b21)) (kc165 : cto P161 (some b117) = cto P111 (some b117)) (ex179 : oI P161 14 b176 = x179) (kc183 : cto P182 y1 = cto P161 y1) (kc184 : cto P182 (some k0) = cto P161 (some k0)) (kc185 : cto P182 (some b21) = cto P161 (some b21)) (kc186 : cto P182 (some b117) = cto P161 (some b117)) (ex188 : oI P182 15 b176 = x188) (kc192 : cto P191 y1 = cto P182 y1) (kc193 : cto P191 (some k0) = cto P182 (some k0)) (kc194 : cto P191 (some b21) = cto P182 (some b21)) (kc195 : cto P191 (some b117) = cto P182 (some b117)) : 0 + (13 * cto κ.2.2.2.2 y1) + (13 * cto P13 (some b21)) + (13 * cto P111 (some b117)) + 0 + 3 + 3 ≤ 13 * cto κ.2.2.2.2 (some k0) := by
  first | assumption | omega | (subst_vars; omega) | trivial
-- grow @223
theorem vX8_call_130 (κ : KS) (k0 : Nat) (y1 : Option Nat) (P13 : PL) (b18 : Nat) (x19 : Int32) (b21 : Nat) (P111 : PL) (b117 : Nat) (P161 : PL) (b176 : Nat) (x179 : Int32) (P182 : PL) (x188 : Int32) (P191 : PL) (kdy1 : 1 + cto κ.2.2.2.2 y1 + cto κ.2.2.2.2 (some b21) + cto κ.2.2.2.2 (some b117) ≤ cto κ.2.2.2.2 (some k0)) (kc14 : cto P13 y1 = cto κ.2.2.2.2 y1) (kc15 : cto P13 (some b21) = cto κ.2.2.2.2 (some b21)) (kc16 : cto P13 (some b117) = cto κ.2.2.2.2 (some b117)) (kc17 : cto P13 (some k0) = cto κ.2.2.2.2 (some k0)) (ex19 : oI P13 0 b18 = x19) (c20 : ¬ x19.toInt = 0) (kc112 : cto P111 y1 = cto P13 y1) (kc113 : cto P111 (some b117) = cto P13 (some b117)) (kc114 : cto P111 (some k0) = cto P13 (some k0)) (kc115 : cto P111 (some b21) = cto P13 (some b21)) (kc162 : cto P161 y1 = cto P111 y1) (kc163 : cto P161 (some k0) = cto P111 (some k0)) (kc164 : cto P161 (some b21) = cto P111 (some b21)) (kc165 : cto P161 (some b117) = cto P111 (some b117)) (ex179 : oI P161 14 b176 = x179) (kc183 : cto P182 y1 = cto P161 y1) (kc184 : cto P182 (some k0) = cto P161 (some k0)) (kc185 : cto P182 (some b21) = cto P161 (some b21)) (kc186 : cto P182 (some b117) = cto P161 (some b117)) (ex188 : oI P182 15 b176 = x188) (kc192 : cto P191 y1 = cto P182 y1) (kc193 : cto P191 (some k0) = cto P182 (some k0)) (kc194 : cto P191 (some b21) = cto P182 (some b21)) (kc195 : cto P191 (some b117) = cto P182 (some b117)) : 0 + (120 * cto κ.2.2.2.2 y1) + (120 * cto P13 (some b21)) + (120 * cto P111 (some b117)) + 0 + 21 + 21 ≤ 120 * cto κ.2.2.2.2 (some k0) := by
  first | assumption | omega | (subst_vars; omega) | trivial
-- growm @223
theorem vX8_call_131 (κ : KS) (k0 : Nat) (y1 : Option Nat) (P13 : PL) (b18 : Nat) (x19 : Int32) (b21 : Nat) (P111 : PL) (b117 : Nat) (P161 : PL) (b176 : Nat) (x179 : Int32) (P182 : PL) (x188 : Int32) (P191 : PL) (kdy1 : 1 + cto κ.2.2.2.2 y1 + cto κ.2.2.2.2 (some b21) + cto κ.2.2.2.2 (some b117) ≤ cto κ.2.2.2.2 (some k0)) (kc14 : cto P13 y1 = cto κ.2.2.2.2 y1) (kc15 : cto P13 (some b21) = cto κ.2.2.2.2 (some b21)) (kc16 : cto P13 (some b117) = cto κ.2.2.2.2 (some b117)) (kc17 : cto P13 (some k0) = cto κ.2.2.2.2 (some k0)) (ex19 : oI P13 0 b18 = x19) (c20 : ¬ x19.toInt = 0) (kc112 : cto P111 y1 = cto P13 y1) (kc113 : cto P111 (some b117) = cto P13 (some b117)) (kc114 : cto P111 (some k0) = cto P13 (some k0)) (kc115 : cto P111 (some b21) = cto P13 (some b21)) (kc162 : cto P161 y1 = cto P111 y1) (kc163 : cto P161 (some k0) = cto P111 (some k0)) (kc164 : cto P161 (some b21) = cto P111 (some b21)) (kc165 : cto P161 (some b117) = cto P111 (some b117)) (ex179 : oI P161 14 b176 = x179) (kc183 : cto P182 y1 = cto P161 y1) (kc184 : cto P182 (some k0) = cto P161 (some k0)) (kc185 : cto P182 (some b21) = cto P161 (some b21)) (kc186 : cto P182 (some b117) = cto P161 (some b117)) (ex188 : oI P182 15 b176 = x188) (kc192 : cto P191 y1 = cto P182 y1) (kc193 : cto P191 (some k0) = cto P182 (some k0)) (kc194 : cto P191 (some b21) = cto P182 (some b21)) (kc195 : cto P191 (some b117) = cto P182 (some b117)) : 13 * cto κ.2.2.2.2 (some k0) ≤ 13 * cto κ.2.2.2.2 (some k0) := by
  first | assumption | omega | (subst_vars; omega) | trivial
-- growm @223
theorem vX8_call_132 (κ : KS) (k0 : Nat) (y1 : Option Nat) (P13 : PL) (b18 : Nat) (x19 : Int32) (b21 : Nat) (P111 : PL) (b117 : Nat) (P161 : PL) (b176 : Nat) (x179 : Int32) (P182 : PL) (x188 : Int32) (P191 : PL) (kdy1 : 1 + cto κ.2.2.2.2 y1 + cto κ.2.2.2.2 (some b21) + cto κ.2.2.2.2 (some b117) ≤ cto κ.2.2.2.2 (some k0)) (kc14 : cto P13 y1 = cto κ.2.2.2.2 y1) (kc15 : cto P13 (some b21) = cto κ.2.2.2.2 (some b21)) (kc16 : cto P13 (some b117) = cto κ.2.2.2.2 (some b117)) (kc17 : cto P13 (some k0) = cto κ.2.2.2.2 (some k0)) (ex19 : oI P13 0 b18 = x19) (c20 : ¬ x19.toInt = 0) (kc112 : cto P111 y1 = cto P13 y1) (kc113 : cto P111 (some b117) = cto P13 (some b117)) (kc114 : cto P111 (some k0) = cto P13 (some k0)) (kc115 : cto P111 (some b21) = cto P13 (some b21)) (kc162 : cto P161 y1 = cto P111 y1) (kc163 : cto P161 (some k0) = cto P111 (some k0)) (kc164 : cto P161 (some b21) = cto P111 (some b21)) (kc165 : cto P161 (some b117) = cto P111 (some b117)) (ex179 : oI P161 14 b176 = x179) (kc183 : cto P182 y1 = cto P161 y1) (kc184 : cto P182 (some k0) = cto P161 (some k0)) (kc185 : cto P182 (some b21) = cto P161 (some b21)) (kc186 : cto P182 (some b117) = cto P161 (some b117)) (ex188 : oI P182 15 b176 = x188) (kc192 : cto P191 y1 = cto P182 y1) (kc193 : cto P191 (some k0) = cto P182 (some k0)) (kc194 : cto P191 (some b21) = cto P182 (some b21)) (kc195 : cto P191 (some b117) = cto P182 (some b117)) : 120 * cto κ.2.2.2.2 (some k0) ≤ 120 * cto κ.2.2.2.2 (some k0) := by
  first | assumption | omega | (subst_vars; omega) | trivial
-- room @220
theorem vX8_call_133 (κ : KS) (k0 : Nat) (y1 : Option Nat) (P13 : PL) (b18 : Nat) (x19 : Int32) (b21 : Nat) (P111 : PL) (b117 : Nat) (P161 : PL) (b176 : Nat) (x179 : Int32) (P182 : PL) (x188 : Int32) (P191 : PL) (kdy1 : 1 + cto κ.2.2.2.2 y1 + cto κ.2.2.2.2 (some b21) + cto κ.2.2.2.2 (some b117) ≤ cto κ.2.2.2.2 (some k0)) (kc14 : cto P13 y1 = cto κ.2.2.2.2 y1) (kc15 : cto P13 (some b21) = cto κ.2.2.2.2 (some b21)) (kc16 : cto P13 (some b117) = cto κ.2.2.2.2 (some b117)) (kc17 : cto P13 (some k0) = cto κ.2.2.2.2 (some k0)) (ex19 : oI P13 0 b18 = x19) (c20 : ¬ x19.toInt = 0) (kc112 : cto P111 y1 = cto P13 y1) (kc113 : cto P111 (some b117) = cto P13 (some b117)) (kc114 : cto P111 (some k0) = cto P13 (some k0)) (kc115 : cto P111 (some b21) = cto P13 (some b21)) (kc162 : cto P161 y1 = cto P111 y1) (kc163 : cto P161 (some k0) = cto P111 (some k0)) (kc164 : cto P161 (some b21) = cto P111 (some b21)) (kc165 : cto P161 (some b117) = cto P111 (some b117)) (ex179 : oI P161 14 b176 = x179) (kc183 : cto P182 y1 = cto P161 y1) (kc184 : cto P182 (some k0) = cto P161 (some k0)) (kc185 : cto P182 (some b21) = cto P161 (some b21)) (kc186 : cto P182 (some b117) = cto P161 (some b117)) (ex188 : oI P182 15 b176 = x188) (kc192 : cto P191 y1 = cto P182 y1) (kc193 : cto P191 (some k0) = cto P182 (some k0)) (kc194 : cto P191 (some b21) = cto P182 (some b21)) (kc195 : cto P191 (some b117) = cto P182 (some b117)) : 0 + (13 * cto κ.2.2.2.2 y1) + (13 * cto P13 (some b21)) + (13 * cto P111 (some b117)) + 0 + 3 + 3 + 7 ≤ 13 * cto κ.2.2.2.2 (some k0) := by
  first | assumption | omega | (subst_vars; omega) | trivial
-- room @220
theorem vX8_call_134 (κ : KS) (k0 : Nat) (y1 : Option Nat) (P13 : PL) (b18 : Nat) (x19 : Int32) (b21 : Nat) (P111 : PL) (b117 : Nat) (P161 : PL) (b176 : Nat) (x179 : Int32) (P182 : PL) (x188 : Int32) (P191 : PL) (kdy1 : 1 + cto κ.2.2.2.2 y1 + cto κ.2.2.2.2 (some b21) + cto κ.2.2.2.2 (some b117) ≤ cto κ.2.2.2.2 (some k0)) (kc14 : cto P13 y1 = cto κ.2.2.2.2 y1) (kc15 : cto P13 (some b21) = cto κ.2.2.2.2 (some b21)) (kc16 : cto P13 (some b117) = cto κ.2.2.2.2 (some b117)) (kc17 : cto P13 (some k0) = cto κ.2.2.2.2 (some k0)) (ex19 : oI P13 0 b18 = x19) (c20 : ¬ x19.toInt = 0) (kc112 : cto P111 y1 = cto P13 y1) (kc113 : cto P111 (some b117) = cto P13 (some b117)) (kc114 : cto P111 (some k0) = cto P13 (some k0)) (kc115 : cto P111 (some b21) = cto P13 (some b21)) (kc162 : cto P161 y1 = cto P111 y1) (kc163 : cto P161 (some k0) = cto P111 (some k0)) (kc164 : cto P161 (some b21) = cto P111 (some b21)) (kc165 : cto P161 (some b117) = cto P111 (some b117)) (ex179 : oI P161 14 b176 = x179) (kc183 : cto P182 y1 = cto P161 y1) (kc184 : cto P182 (some k0) = cto P161 (some k0)) (kc185 : cto P182 (some b21) = cto P161 (some b21)) (kc186 : cto P182 (some b117) = cto P161 (some b117)) (ex188 : oI P182 15 b176 = x188) (kc192 : cto P191 y1 = cto P182 y1) (kc193 : cto P191 (some k0) = cto P182 (some k0)) (kc194 : cto P191 (some b21) = cto P182 (some b21)) (kc195 : cto P191 (some b117) = cto P182 (some b117)) : 0 + (120 * cto κ.2.2.2.2 y1) + (120 * cto P13 (some b21)) + (120 * cto P111 (some b117)) + 0 + 21 + 21 + 57 ≤ 120 * cto κ.2.2.2.2 (some k0) := by
  first | assumption | omega | (subst_vars; omega) | trivial
-- grow @223
theorem vX8_call_135 (κ : KS) (k0 : Nat) (y1 : Option Nat) (P13 : PL) (b18 : Nat) (x19 : Int32) (b21 : Nat) (P111 : PL) (b117 : Nat) (P161 : PL) (b176 : Nat) (x179 : Int32) (P182 : PL) (x188 : Int32) (P191 : PL) (P199 : PL) (kdy1 : 1 + cto κ.2.2.2.2 y1 + cto κ.2.2.2.2 (some b21) + cto κ.2.2.2.2 (some b117) ≤ cto κ.2.2.2.2 (some k0)) (kc14 : cto P13 y1 = cto κ.2.2.2.2 y1) (kc15 : cto P13 (some b21) = cto κ.2.2.2.2 (some b21)) (kc16 : cto P13 (some b117) = cto κ.2.2.2.2 (some b117)) (kc17 : cto P13 (some k0) = cto κ.2.2.2.2 (some k0)) (ex19 : oI P13 0 b18 = x19) (c20 : ¬ x19.toInt = 0) (kc112 : cto P111 y1 = cto P13 y1) (kc113 : cto P111 (some b117) = cto P13 (some b117)) (kc114 : cto P111 (some k0) = cto P13 (some k0)) (kc115 : cto P111 (some b21) = cto P13 (some b21)) (kc162 : cto P161 y1 = cto P111 y1) (kc163 : cto P161 (some k0) = cto P111 (some k0)) (kc164 : cto P161 (some b21) = cto P111 (some b21)) (kc165 : cto P161 (some b117) = cto P111 (some b117)) (ex179 : oI P161 14 b176 = x179) (kc183 : cto P182 y1 = cto P161 y1) (kc184 : cto P182 (some k0) = cto P161 (some k0)) (kc185 : cto P182 (some b21) = cto P161 (some b21)) (kc186 : cto P182 (some b117) = cto P161 (some b117)) (ex188 : oI P182 15 b176 = x188) (kc192 : cto P191 y1 = cto P182 y1) (kc193 : cto P191 (some k0) = cto P182 (some k0)) (kc194 : cto P191 (some b21) = cto P182 (some b21)) (kc195 : cto P191 (some b117) = cto P182 (some b117)) (kc200 : cto P199 y1 = cto P191 y1) (kc201 : cto P199 (some k0) = cto P191 (some k0)) (kc202 : cto P199 (some b21) = cto P191 (some b21)) (kc203 : cto P199 (some b117) = cto P191 (some b117)) : 0 + (13 * cto κ.2.2.2.2 y1) + (13 * cto P13 (some b21)) + (13 * cto P111 (some b117)) + 0 + 3 + 3 + 7 ≤ 13 * cto κ.2.2.2.2 (some k0) := by
  first | assumption | omega | (subst_vars; omega) | trivial
-- grow @223
theorem vX8_call_136 (κ : KS) (k0 : Nat) (y1 : Option Nat) (P13 : PL) (b18 : Nat) (x19 : Int32) (b21 : Nat) (P111 : PL) (b117 : Nat) (P161 : PL) (b176 : Nat) (x179 : Int32) (P182 : PL) (x188 : Int32) (P191 : PL) (P199 : PL) (kdy1 : 1 + cto κ.2.2.2.2 y1 + cto κ.2.2.2.2 (some b21) + cto κ.2.2.2.2 (some b117) ≤ cto κ.2.2.2.2 (some k0)) (kc14 : cto P13 y1 = cto κ.2.2.2.2 y1) (kc15 : cto P13 (some b21) = cto κ.2.2.2.2 (some b21)) (kc16 : cto P13 (some b117) = cto κ.2.2.2.2 (some b117)) (kc17 : cto P13 (some k0) = cto κ.2.2.2.2 (some k0)) (ex19 : oI P13 0 b18 = x19) (c20 : ¬ x19.toInt = 0) (kc112 : cto P111 y1 = cto P13 y1) (kc113 : cto P111 (some b117) = cto P13 (some b117)) (kc114 : cto P111 (some k0) = cto P13 (some k0)) (kc115 : cto P111 (some b21) = cto P13 (some b21)) (kc162 : cto P161 y1 = cto P111 y1) (kc163 : cto P161 (some k0) = cto P111 (some k0)) (kc164 : cto P161 (some b21) = cto P111 (some b21)) (kc165 : cto P161 (some b117) = cto P111 (some b117)) (ex179 : oI P161 14 b176 = x179) (kc183 : cto P182 y1 = cto P161 y1) (kc184 : cto P182 (some k0) = cto P161 (some k0)) (kc185 : cto P182 (some b21) = cto P161 (some b21)) (kc186 : cto P182 (some b117) = cto P161 (some b117)) (ex188 : oI P182 15 b176 = x188) (kc192 : cto P191 y1 = cto P182 y1) (kc193 : cto P191 (some k0) = cto P182 (some k0)) (kc194 : cto P191 (some b21) = cto P182 (some b21)) (kc195 : cto P191 (some b117) = cto P182 (some b117)) (kc200 : cto P199 y1 = cto P191 y1) (kc201 : cto P199 (some k0) = cto P191 (some k0)) (kc202 : cto P199 (some b21) = cto P191 (some b21)) (kc203 : cto P199 (some b117) = cto P191 (some b117)) : 0 + (120 * cto κ.2.2.2.2 y1) + (120 * cto P13 (some b21)) + (120 * cto P111 (some b117)) + 0 + 21 + 21 + 57 ≤ 120 * cto κ.2.2.2.2 (some k0) := by
  first | assumption | omega | (subst_vars; omega) | trivial
-- growm @223
theorem vX8_call_137 (κ : KS) (k0 : Nat) (y1 : Option Nat) (P13 : PL) (b18 : Nat) (x19 : Int32) (b21 : Nat) (P111 : PL) (b117 : Nat) (P161 : PL) (b176 : Nat) (x179 : Int32) (P182 : PL) (x188 : Int32) (P191 : PL) (P199 : PL) (kdy1 : 1 + cto κ.2.2.2.2 y1 + cto κ.2.2.2.2 (some b21) + cto κ.2.2.2.2 (some b117) ≤ cto κ.2.2.2.2 (some k0)) (kc14 : cto P13 y1 = cto κ.2.2.2.2 y1) (kc15 : cto P13 (some b21) = cto κ.2.2.2.2 (some b21)) (kc16 : cto P13 (some b117) = cto κ.2.2.2.2 (some b117)) (kc17 : cto P13 (some k0) = cto κ.2.2.2.2 (some k0)) (ex19 : oI P13 0 b18 = x19) (c20 : ¬ x19.toInt = 0) (kc112 : cto P111 y1 = cto P13 y1) (kc113 : cto P111 (some b117) = cto P13 (some b117)) (kc114 : cto P111 (some k0) = cto P13 (some k0)) (kc115 : cto P111 (some b21) = cto P13 (some b21)) (kc162 : cto P161 y1 = cto P111 y1) (kc163 : cto P161 (some k0) = cto P111 (some k0)) (kc164 : cto P161 (some b21) = cto P111 (some b21)) (kc165 : cto P161 (some b117) = cto P111 (some b117)) (ex179 : oI P161 14 b176 = x179) (kc183 : cto P182 y1 = cto P161 y1) (kc184 : cto P182 (some k0) = cto P161 (some k0)) (kc185 : cto P182 (some b21) = cto P161 (some b21)) (kc186 : cto P182 (some b117) = cto P161 (some b117)) (ex188 : oI P182 15 b176 = x188) (kc192 : cto P191 y1 = cto P182 y1) (kc193 : cto P191 (some k0) = cto P182 (some k0)) (kc194 : cto P191 (some b21) = cto P182 (some b21)) (kc195 : cto P191 (some b117) = cto P182 (some b117)) (kc200 : cto P199 y1 = cto P191 y1) (kc201 : cto P199 (some k0) = cto P191 (some k0)) (kc202 : cto P199 (some b21) = cto P191 (some b21)) (kc203 : cto P199 (some b117) = cto P191 (some b117)) : 13 * cto κ.2.2.2.2 (some k0) ≤ 13 * cto κ.2.2.2.2 (some k0) := by
  first | assumption | omega | (subst_vars; omega) | trivial
-- growm @223
theorem vX8_call_138 (κ : KS) (k0 : Nat) (y1 : Option Nat) (P13 : PL) (b18 : Nat) (x19 : Int32) (b21 : Nat) (P111 : PL) (b117 : Nat) (P161 : PL) (b176 : Nat) (x179 : Int32) (P182 : PL) (x188 : Int32) (P191 : PL) (P199 : PL) (kdy1 : 1 + cto κ.2.2.2.2 y1 + cto κ.2.2.2.2 (some b21) + cto κ.2.2.2.2 (some b117) ≤ cto κ.2.2.2.2 (some k0)) (kc14 : cto P13 y1 = cto κ.2.2.2.2 y1) (kc15 : cto P13 (some b21) = cto κ.2.2.2.2 (some b21)) (kc16 : cto P13 (some b117) = cto κ.2.2.2.2 (some b117)) (kc17 : cto P13 (some k0) = cto κ.2.2.2.2 (some k0)) (ex19 : oI P13 0 b18 = x19) (c20 : ¬ x19.toInt = 0) (kc112 : cto P111 y1 = cto P13 y1) (kc113 : cto P111 (some b117) = cto P13 (some b117)) (kc114 : cto P111 (some k0) = cto P13 (some k0)) (kc115 : cto P111 (some b21) = cto P13 (some b21)) (kc162 : cto P161 y1 = cto P111 y1) (kc163 : cto P161 (some k0) = cto P111 (some k0)) (kc164 : cto P161 (some b21) = cto P111 (some b21)) (kc165 : cto P161 (some b117) = cto P111 (some b117)) (ex179 : oI P161 14 b176 = x179) (kc183 : cto P182 y1 = cto P161 y1) (kc184 : cto P182 (some k0) = cto P161 (some k0)) (kc185 : cto P182 (some b21) = cto P161 (some b21)) (kc186 : cto P182 (some b117) = cto P161 (some b117)) (ex188 : oI P182 15 b176 = x188) (kc192 : cto P191 y1 = cto P182 y1) (kc193 : cto P191 (some k0) = cto P182 (some k0)) (kc194 : cto P191 (some b21) = cto P182 (some b21)) (kc195 : cto P191 (some b117) = cto P182 (some b117)) (kc200 : cto P199 y1 = cto P191 y1) (kc201 : cto P199 (some k0) = cto P191 (some k0)) (kc202 : cto P199 (some b21) = cto P191 (some b21)) (kc203 : cto P199 (some b117) = cto P191 (some b117)) : 120 * cto κ.2.2.2.2 (some k0) ≤ 120 * cto κ.2.2.2.2 (some k0) := by
  first | assumption | omega | (subst_vars; omega) | trivial
-- room @41
theorem vX8_call_139 (κ : KS) (k0 : Nat) (y1 : Option Nat) (y2 : Option Nat) (y3 : Option Nat) (P13 : PL) (b18 : Nat) (x19 : Int32) (x204 : Int32) (kdy1 : 1 + cto κ.2.2.2.2 y1 + cto κ.2.2.2.2 y2 + cto κ.2.2.2.2 y3 ≤ cto κ.2.2.2.2 (some k0)) (kc14 : cto P13 y1 = cto κ.2.2.2.2 y1) (kc15 : cto P13 y2 = cto κ.2.2.2.2 y2) (kc16 : cto P13 y3 = cto κ.2.2.2.2 y3) (kc17 : cto P13 (some k0) = cto κ.2.2.2.2 (some k0)) (ex19 : oI P13 0 b18 = x19) (c20 : x19.toInt = 0) (ex204 : oI P13 4 k0 = x204) (c205 : x204.toInt = 0) : 0 + (13 * cto κ.2.2.2.2 y1) + 0 ≤ 13 * cto κ.2.2.2.2 (some k0) := by
  first | assumption | omega | (subst_vars; omega) | trivial
-- room @41
theorem vX8_call_140 (κ : KS) (k0 : Nat) (y1 : Option Nat) (y2 : Option Nat) (y3 : Option Nat) (P13 : PL) (b18 : Nat) (x19 : Int32) (x204 : Int32) (kdy1 : 1 + cto κ.2.2.2.2 y1 + cto κ.2.2.2.2 y2 + cto κ.2.2.2.2 y3 ≤ cto κ.2.2.2.2 (some k0)) (kc14 : cto P13 y1 = cto κ.2.2.2.2 y1) (kc15 : cto P13 y2 = cto κ.2.2.2.2 y2) (kc16 : cto P13 y3 = cto κ.2.2.2.2 y3) (kc17 : cto P13 (some k0) = cto κ.2.2.2.2 (some k0)) (ex19 : oI P13 0 b18 = x19) (c20 : x19.toInt = 0) (ex204 : oI P13 4 k0 = x204) (c205 : x204.toInt = 0) : 0 + (120 * cto κ.2.2.2.2 y1) + 0 ≤ 120 * cto κ.2.2.2.2 (some k0) := by
  first | assumption | omega | (subst_vars; omega) | trivial
-- growm @44
theorem vX8_call_141 (κ : KS) (k0 : Nat) (y1 : Option Nat) (y2 : Option Nat) (y3 : Option Nat) (P13 : PL) (b18 : Nat) (x19 : Int32) (x204 : Int32) (kdy1 : 1 + cto κ.2.2.2.2 y1 + cto κ.2.2.2.2 y2 + cto κ.2.2.2.2 y3 ≤ cto κ.2.2.2.2 (some k0)) (kc14 : cto P13 y1 = cto κ.2.2.2.2 y1) (kc15 : cto P13 y2 = cto κ.2.2.2.2 y2) (kc16 : cto P13 y3 = cto κ.2.2.2.2 y3) (kc17 : cto P13 (some k0) = cto κ.2.2.2.2 (some k0)) (ex19 : oI P13 0 b18 = x19) (c20 : x19.toInt = 0) (ex204 : oI P13 4 k0 = x204) (c205 : x204.toInt = 0) : 13 * cto κ.2.2.2.2 (some k0) ≤ 13 * cto κ.2.2.2.2 (some k0) := by
  first | assumption | omega | (subst_vars; omega) | trivial
-- growm @44
theorem vX8_call_142 (κ : KS) (k0 : Nat) (y1 : Option Nat) (y2 : Option Nat) (y3 : Option Nat) (P13 : PL) (b18 : Nat) (x19 : Int32) (x204 : Int32) (kdy1 : 1 + cto κ.2.2.2.2 y1 + cto κ.2.2.2.2 y2 + cto κ.2.2.2.2 y3 ≤ cto κ.2.2.2.2 (some k0)) (kc14 : cto P13 y1 = cto κ.2.2.2.2 y1) (kc15 : cto P13 y2 = cto κ.2.2.2.2 y2) (kc16 : cto P13 y3 = cto κ.2.2.2.2 y3) (kc17 : cto P13 (some k0) = cto κ.2.2.2.2 (some k0)) (ex19 : oI P13 0 b18 = x19) (c20 : x19.toInt = 0) (ex204 : oI P13 4 k0 = x204) (c205 : x204.toInt = 0) : 120 * cto κ.2.2.2.2 (some k0) ≤ 120 * cto κ.2.2.2.2 (some k0) := by
  first | assumption | omega | (subst_vars; omega) | trivial
-- grow @44
theorem vX8_call_143 (κ : KS) (k0 : Nat) (y1 : Option Nat) (y2 : Option Nat) (y3 : Option Nat) (P13 : PL) (b18 : Nat) (x19 : Int32) (x204 : Int32) (kdy1 : 1 + cto κ.2.2.2.2 y1 + cto κ.2.2.2.2 y2 + cto κ.2.2.2.2 y3 ≤ cto κ.2.2.2.2 (some k0)) (kc14 : cto P13 y1 = cto κ.2.2.2.2 y1) (kc15 : cto P13 y2 = cto κ.2.2.2.2 y2) (kc16 : cto P13 y3 = cto κ.2.2.2.2 y3) (kc17 : cto P13 (some k0) = cto κ.2.2.2.2 (some k0)) (ex19 : oI P13 0 b18 = x19) (c20 : x19.toInt = 0) (ex204 : oI P13 4 k0 = x204) (c205 : ¬ x204.toInt = 0) : 0 + (13 * cto κ.2.2.2.2 y1) ≤ 13 * cto κ.2.2.2.2 (some k0) := by
  first | assumption | omega | (subst_vars; omega) | trivial
-- grow @44
theorem vX8_call_144 (κ : KS) (k0 : Nat) (y1 : Option Nat) (y2 : Option Nat) (y3 : Option Nat) (P13 : PL) (b18 : Nat) (x19 : Int32) (x204 : Int32) (kdy1 : 1 + cto κ.2.2.2.2 y1 + cto κ.2.2.2.2 y2 + cto κ.2.2.2.2 y3 ≤ cto κ.2.2.2.2 (some k0)) (kc14 : cto P13 y1 = cto κ.2.2.2.2 y1) (kc15 : cto P13 y2 = cto κ.2.2.2.2 y2) (kc16 : cto P13 y3 = cto κ.2.2.2.2 y3) (kc17 : cto P13 (some k0) = cto κ.2.2.2.2 (some k0)) (ex19 : oI P13 0 b18 = x19) (c20 : x19.toInt = 0) (ex204 : oI P13 4 k0 = x204) (c205 : ¬ x204.toInt = 0) : 0 + (120 * cto κ.2.2.2.2 y1) ≤ 120 * cto κ.2.2.2.2 (some k0) := by
  first | assumption | omega | (subst_vars; omega) | trivial
-- growm @44
theorem vX8_call_145 (κ : KS) (k0 : Nat) (y1 : Option Nat) (y2 : Option Nat) (y3 : Option Nat) (P13 : PL) (b18 : Nat) (x19 : Int32) (x204 : Int32) (kdy1 : 1 + cto κ.2.2.2.2 y1 + cto κ.2.2.2.2 y2 + cto κ.2.2.2.2 y3 ≤ cto κ.2.2.2.2 (some k0)) (kc14 : cto P13 y1 = cto κ.2.2.2.2 y1) (kc15 : cto P13 y2 = cto κ.2.2.2.2 y2) (kc16 : cto P13 y3 = cto κ.2.2.2.2 y3) (kc17 : cto P13 (some k0) = cto κ.2.2.2.2 (some k0)) (ex19 : oI P13 0 b18 = x19) (c20 : x19.toInt = 0) (ex204 : oI P13 4 k0 = x204) (c205 : ¬ x204.toInt = 0) : 13 * cto κ.2.2.2.2 (some k0) ≤ 13 * cto κ.2.2.2.2 (some k0) := by
  first | assumption | omega | (subst_vars; omega) | trivial
-- growm @44
theorem vX8_call_146 (κ : KS) (k0 : Nat) (y1 : Option Nat) (y2 : Option Nat) (y3 : Option Nat) (P13 : PL) (b18 : Nat) (x19 : Int32) (x204 : Int32) (kdy1 : 1 + cto κ.2.2.2.2 y1 + cto κ.2.2.2.2 y2 + cto κ.2.2.2.2 y3 ≤ cto κ.2.2.2.2 (some k0)) (kc14 : cto P13 y1 = cto κ.2.2.2.2 y1) (kc15 : cto P13 y2 = cto κ.2.2.2.2 y2) (kc16 : cto P13 y3 = cto κ.2.2.2.2 y3) (kc17 : cto P13 (some k0) = cto κ.2.2.2.2 (some k0)) (ex19 : oI P13 0 b18 = x19) (c20 : x19.toInt = 0) (ex204 : oI P13 4 k0 = x204) (c205 : ¬ x204.toInt = 0) : 120 * cto κ.2.2.2.2 (some k0) ≤ 120 * cto κ.2.2.2.2 (some k0) := by
  first | assumption | omega | (subst_vars; omega) | trivial
set_option maxHeartbeats 4000000 in
set_option maxRecDepth 100000 in
theorem NX8_call (l : Launch) (D : va_G) (cy : Nat → ClassId) (ad : Nat → Nat) (A : Nat → Prop) (sz0 : Nat) (sa : Nat → Nat) (d : Nat) (IH : KX8_eval l D cy ad A sz0 sa d) (κ : KS) (sz sl : Nat) (hAF : ∀ q, A q → Fr sz0 q) (hAn : ∀ q : Nat, sz ≤ q → A q) (k0 : Nat) (k1 : Int32) (ht0 : oT κ.2.2.2.2 k0 = 2) (hPV : PV sa κ.2.2.2.2) (hSV : SV ad κ.2.2.2.2 (κ.2.1 0) (κ.2.1 1) (κ.2.2.2.1 6) (κ.2.2.2.1 7) (κ.2.2.2.1 8) (κ.2.2.2.1 13) (κ.2.2.2.1 15) (κ.2.2.2.1 17) (κ.1 1).toInt) (hpre : 0 ≤ (κ.1 8).toInt ∧ (κ.1 8).toInt ≤ 12 ∧ 0 ≤ k1.toInt ∧ k1.toInt ≤ 40 ∧ 40 ≤ k1.toInt + ((d : Nat) : Int)) : Met l yX8_call (Cond.code yX8_call cX8_call 9 (some (.object "PhraseDesk$Value")) :: GWc) ({ frames := 4 * d + 33, cells := 13 * cto κ.2.2.2.2 (some k0), slots := 120 * cto κ.2.2.2.2 (some k0), locals := 200 * d + 860 }) (PcC D cy ad A sz0 sa [.ref (ad 3), .ref k0, .int k1] κ sz sl) (va_Qq (fun (r : Option Nat) (u : Int32 × Int32 × Int32 × Int32 × (Nat → Int32) × (Nat → Option Nat) × (Nat → Option Nat) × PL) => (EX κ.2.2.2.2 u.2.2.2.2.2.2.2) ∧ (PV sa u.2.2.2.2.2.2.2) ∧ (SV ad u.2.2.2.2.2.2.2 (κ.2.1 0) (κ.2.1 1) (κ.2.2.2.1 6) (κ.2.2.2.1 7) (κ.2.2.2.1 8) (κ.2.2.2.1 13) u.2.2.2.2.2.1 u.2.2.2.2.2.2.1 (κ.1 1).toInt) ∧ (NT u.2.2.2.2.2.2.2 1 r) ∧ (0 ≤ u.1.toInt ∧ u.1.toInt ≤ 12)) (fun (u : Int32 × Int32 × Int32 × Int32 × (Nat → Int32) × (Nat → Option Nat) × (Nat → Option Nat) × PL) (t : State) => Bx D cy ad A sz sl (tP (tQ (tQ (tA (tI (tI (tI (tI κ 8 u.1) 9 u.2.1) 10 u.2.2.1) 11 u.2.2.2.1) 16 u.2.2.2.2.1) 15 u.2.2.2.2.2.1) 17 u.2.2.2.2.2.2.1) u.2.2.2.2.2.2.2) (13 * cto κ.2.2.2.2 (some k0)) (120 * cto κ.2.2.2.2 (some k0)) t) A) (13 * cto κ.2.2.2.2 (some k0)) (120 * cto κ.2.2.2.2 (some k0)) A := by
  refine CM_of (loc0 := [(0, .ref (ad 3)), (1, .ref k0), (2, .int k1)]) (own := RX8) (nm := "call") (by decide) rfl rfl rfl (Nat.le_of_ble_eq_true rfl) hAF hAn ?_
  intro p e s m below meth c ls hsz hsl C hP hS hl
  obtain ⟨hpre_0, hpre_1, hpre_2, hpre_3, hpre_4⟩ := hpre
  obtain ⟨y1, ey1⟩ : ∃ z, oR κ.2.2.2.2 3 k0 = z := ⟨_, rfl⟩
  have ty1 : NT κ.2.2.2.2 2 y1 := by rw [← ey1]; exact (hPV.t2 ht0).2.1
  obtain ⟨y2, ey2⟩ : ∃ z, oR κ.2.2.2.2 4 k0 = z := ⟨_, rfl⟩
  have ty2 : NT κ.2.2.2.2 2 y2 := by rw [← ey2]; exact (hPV.t2 ht0).2.2.1
  obtain ⟨y3, ey3⟩ : ∃ z, oR κ.2.2.2.2 5 k0 = z := ⟨_, rfl⟩
  have ty3 : NT κ.2.2.2.2 2 y3 := by rw [← ey3]; exact (hPV.t2 ht0).2.2.2.1
  have kdy1 : 1 + cto κ.2.2.2.2 y1 + cto κ.2.2.2.2 y2 + cto κ.2.2.2.2 y3 ≤ cto κ.2.2.2.2 (some k0) := by rw [← ey1, ← ey2, ← ey3]; exact (hPV.t2 ht0).2.2.2.2
  refine lv_aload_n C.x C.b dX8_call_0 rfl (lv_at hl 0 rfl) ?_
  refine lv_aload_n C.x C.b dX8_call_1 rfl (lv_at hl 1 rfl) ?_
  refine pg_X5_3 (v := y1) C hP (t20 (a := k0) (t := 2) ht0) ey1 cw_700 dX8_call_2 ?_
  refine lv_iload_n C.x C.b dX8_call_5 rfl (lv_at hl 2 rfl) ?_
  refine lv_iconst (v := 1) C.x C.b dX8_call_6 (by decide +kernel) ?_
  refine lv_iadd C.x C.b dX8_call_7 ?_
  refine lv_topi (fun x4 ex4 => ?_)
  have tx4 : x4.toInt = k1.toInt + 1 := (vX8_call_1 k1 d x4 hpre_2 hpre_3 hpre_4 ex4)
  refine c_callVq (n := 2) (As := [va_rf y1, .int x4]) (rest := []) C hP hS hl.1 (IH κ s.heap.size (SLT s.heap) C.f (fun q h => C.a q (Nat.le_trans hS.1 h)) y1 x4 ty1 hPV hSV (vX8_call_2 κ k1 d x4 hpre_0 hpre_1 hpre_2 hpre_3 hpre_4 ex4 tx4)) ⟨cw_711, cw_696, by decide +kernel⟩ ⟨cw_712, cw_713, cw_705⟩ rfl (hP.recvS (k := 3) (ci := 10) C.K rfl rfl) rfl rfl (lv_room (Nat.le_of_ble_eq_true rfl)) ⟨(vX8_call_3 d ), (vX8_call_4 d )⟩ ⟨(vX8_call_5 κ k0 y1 y2 y3 kdy1), (vX8_call_6 κ k0 y1 y2 y3 kdy1)⟩ dX8_call_8 (fun r5 u H locs hr5 hP hS => ?_)
  obtain ⟨n6, n7, n8, n9, F10, Z11, Z12, P13⟩ := u
  have hP : CH D cy ad A (tP (tQ (tQ (tA (tI (tI (tI (tI κ 8 n6) 9 n7) 10 n8) 11 n9) 16 F10) 15 Z11) 17 Z12) P13) H := hP
  have hr5 : (EX κ.2.2.2.2 P13) ∧ (PV sa P13) ∧ (SV ad P13 (κ.2.1 0) (κ.2.1 1) (κ.2.2.2.1 6) (κ.2.2.2.1 7) (κ.2.2.2.1 8) (κ.2.2.2.1 13) Z11 Z12 (κ.1 1).toInt) ∧ (NT P13 1 r5) ∧ (0 ≤ n6.toInt ∧ n6.toInt ≤ 12) := hr5
  obtain ⟨hr5_0, hr5_1, hr5_2, hr5_3, hr5_4⟩ := hr5
  have kc14 : cto P13 y1 = cto κ.2.2.2.2 y1 := hr5_0.ct ty1 (by decide)
  have kc15 : cto P13 y2 = cto κ.2.2.2.2 y2 := hr5_0.ct ty2 (by decide)
  have kc16 : cto P13 y3 = cto κ.2.2.2.2 y3 := hr5_0.ct ty3 (by decide)
  have kc17 : cto P13 (some k0) = cto κ.2.2.2.2 (some k0) := hr5_0.ct (nt_s ht0) (by decide)
  obtain ⟨hr5_4_0, hr5_4_1⟩ := hr5_4
  refine lq_astore_n (lv' := [(3, va_rf r5), (0, .ref (ad 3)), (1, .ref k0), (2, .int k1)]) C.x C.b dX8_call_11 rfl hl (by decide) (by cases r5 <;> rfl) (fun ls hl => ?_)
  refine lq_aload_n C.x C.b dX8_call_12 rfl (lv_at hl 0 rfl) ?_
  cases r5 with
  | none =>
    refine lv_ifnonnullN C.x C.b dX8_call_13 ?_
    refine lv_null C.x C.b dX8_call_16 ?_
    exact c_retq (v := none) (Or.inl ⟨_, rfl⟩) C hsz hsl ⟨n6, n7, n8, n9, F10, Z11, Z12, P13⟩ ⟨hr5_0, hr5_1, hr5_2, nt_n, (vX8_call_7 n6 hr5_4_0 hr5_4_1)⟩ hP hS ⟨(vX8_call_8 κ k0 y1 y2 y3 P13 kdy1 kc14 kc15 kc16 kc17), (vX8_call_9 κ k0 y1 y2 y3 P13 kdy1 kc14 kc15 kc16 kc17)⟩ ⟨(vX8_call_10 κ k0 y1 y2 y3 P13 kdy1 kc14 kc15 kc16 kc17), (vX8_call_11 κ k0 y1 y2 y3 P13 kdy1 kc14 kc15 kc16 kc17)⟩ dX8_call_17
  | some b18 =>
    have hb18 : oT P13 b18 = 1 := hr5_3 b18 rfl
    refine lv_ifnonnull (tgt := 18) C.x C.b dX8_call_13 (by decide) ?_
    refine lv_aload_n C.x C.b dX8_call_18 rfl (lv_at hl 0 rfl) ?_
    obtain ⟨x19, ex19⟩ : ∃ z, oI P13 0 b18 = z := ⟨_, rfl⟩
    refine pg_X10_0 (v := x19) C hP (t20 (a := b18) (t := 1) hb18) ex19 cw_718 dX8_call_19 ?_
    refine lv_if_ne (tgt := 45) C.x C.b dX8_call_22 (by decide) (fun c20 => ?_) (fun c20 => ?_)
    · have c20 : ¬ x19.toInt = 0 := by have h := z_ne c20; rw [show (0 : Int32).toInt = 0 from by decide +kernel] at h; exact h
      refine lv_aload_n C.x C.b dX8_call_45 rfl (lv_at hl 2 rfl) ?_
      refine pg_X5_4 (v := y2) C hP (t20 (a := k0) (t := 2) (hr5_0.T ht0 (by decide))) ((hr5_0.R (k := 4) ht0 (by decide) (by decide)).trans ey2) cw_769 dX8_call_46 ?_
      cases y2 with
      | none =>
        refine lv_ifnonnullN C.x C.b dX8_call_49 ?_
        refine lv_aload_n C.x C.b dX8_call_52 rfl (lv_at hl 1 rfl) ?_
        refine cg_X8_0 C hP cw_677 dX8_call_53 ?_
        refine lv_goto (tgt := 70) C.x C.b dX8_call_56 (by decide) ?_
        refine lv_astore (lv' := [(4, .ref (ad 20)), (3, .ref b18), (0, .ref (ad 3)), (1, .ref k0), (2, .int k1)]) C.x C.b dX8_call_70 hl (by decide) rfl (fun ls hl => ?_)
        refine lv_aload C.x C.b dX8_call_72 (lv_at hl 0 rfl) ?_
        refine lv_ifnonnull (tgt := 79) C.x C.b dX8_call_74 (by decide) ?_
        refine lv_aload_n C.x C.b dX8_call_79 rfl (lv_at hl 3 rfl) ?_
        refine pg_X5_5 (v := y3) C hP (t20 (a := k0) (t := 2) (hr5_0.T ht0 (by decide))) ((hr5_0.R (k := 5) ht0 (by decide) (by decide)).trans ey3) cw_770 dX8_call_80 ?_
        cases y3 with
        | none =>
          refine lv_ifnonnullN C.x C.b dX8_call_83 ?_
          refine lv_aload_n C.x C.b dX8_call_86 rfl (lv_at hl 2 rfl) ?_
          refine cg_X8_0 C hP cw_677 dX8_call_87 ?_
          refine lv_goto (tgt := 104) C.x C.b dX8_call_90 (by decide) ?_
          refine lv_astore (lv' := [(5, .ref (ad 20)), (4, .ref (ad 20)), (3, .ref b18), (0, .ref (ad 3)), (1, .ref k0), (2, .int k1)]) C.x C.b dX8_call_104 hl (by decide) rfl (fun ls hl => ?_)
          refine lv_aload C.x C.b dX8_call_106 (lv_at hl 0 rfl) ?_
          refine lv_ifnonnull (tgt := 113) C.x C.b dX8_call_108 (by decide) ?_
          refine lv_aload_n C.x C.b dX8_call_113 rfl (lv_at hl 2 rfl) ?_
          obtain ⟨x23, ex23⟩ : ∃ z, oR P13 1 b18 = z := ⟨_, rfl⟩
          refine pg_X10_4 (v := x23) C hP (t20 (a := b18) (t := 1) hb18) ex23 cw_720 dX8_call_114 ?_
          have tx23 : NT P13 6 x23 := by rw [← ex23]; exact (hr5_1.t1 hb18).2.1
          cases x23 with
          | none =>
            refine lv_ifnonnullN C.x C.b dX8_call_117 ?_
            refine lv_aload_n C.x C.b dX8_call_120 rfl (lv_at hl 3 rfl) ?_
            refine lv_iconst (v := 5) C.x C.b dX8_call_121 (by decide +kernel) ?_
            refine c_callVq (n := 1) (As := [.int 5]) (rest := []) C hP hS hl.1 (NX8_fail l D cy ad A sz0 sa (tP (tQ (tQ (tA (tI (tI (tI (tI κ 8 n6) 9 n7) 10 n8) 11 n9) 16 F10) 15 Z11) 17 Z12) P13) H.size (SLT H) C.f (fun q h => C.a q (Nat.le_trans hS.1 h)) (5 : Int32) ) ⟨cw_702, cw_695, by decide +kernel⟩ ⟨cw_703, cw_704, cw_705⟩ rfl (hP.recvS (k := 3) (ci := 10) C.K rfl rfl) rfl rfl (lv_room (Nat.le_of_ble_eq_true rfl)) ⟨(vX8_call_12 d ), (vX8_call_13 d )⟩ ⟨(vX8_call_14 κ k0 y1 P13 b18 x19 kdy1 kc14 kc15 kc16 kc17 ex19 c20), (vX8_call_15 κ k0 y1 P13 b18 x19 kdy1 kc14 kc15 kc16 kc17 ex19 c20)⟩ dX8_call_122 (fun r25 u H locs hr25 hP hS => ?_)
            obtain ⟨n26, rfl⟩ : ∃ z, z = u := ⟨_, rfl⟩
            have hP : CH D cy ad A (tI (tP (tQ (tQ (tA (tI (tI (tI (tI κ 8 n6) 9 n7) 10 n8) 11 n9) 16 F10) 15 Z11) 17 Z12) P13) 9 n26) H := hP
            have hr25 : (NT P13 1 r25) := hr25
            have hP : CH D cy ad A (tP (tQ (tQ (tA (tI (tI (tI (tI κ 8 n6) 9 n26) 10 n8) 11 n9) 16 F10) 15 Z11) 17 Z12) P13) H := CH.cong hP rfl rfl rfl rfl rfl rfl rfl rfl rfl rfl rfl rfl rfl rfl rfl rfl rfl rfl rfl rfl rfl rfl rfl rfl rfl rfl rfl
            exact c_retq (v := r25) (Or.inl ⟨_, rfl⟩) C hsz hsl ⟨n6, n26, n8, n9, F10, Z11, Z12, P13⟩ ⟨hr5_0, hr5_1, hr5_2, hr25, (vX8_call_7 n6 hr5_4_0 hr5_4_1)⟩ hP hS ⟨(vX8_call_14 κ k0 y1 P13 b18 x19 kdy1 kc14 kc15 kc16 kc17 ex19 c20), (vX8_call_15 κ k0 y1 P13 b18 x19 kdy1 kc14 kc15 kc16 kc17 ex19 c20)⟩ ⟨(vX8_call_16 κ k0 y1 P13 b18 x19 kdy1 kc14 kc15 kc16 kc17 ex19 c20), (vX8_call_17 κ k0 y1 P13 b18 x19 kdy1 kc14 kc15 kc16 kc17 ex19 c20)⟩ dX8_call_125
          | some b24 =>
            have hb24 : oT P13 b24 = 6 := tx23 b24 rfl
            refine lv_ifnonnull (tgt := 126) C.x C.b dX8_call_117 (by decide) ?_
            refine lv_aload_n C.x C.b dX8_call_126 rfl (lv_at hl 3 rfl) ?_
            refine cg_X8_2 C hP cw_683 dX8_call_127 ?_
            refine lv_aload_n C.x C.b dX8_call_130 rfl (lv_at hl 2 rfl) ?_
            refine pg_X10_4 (v := (some b24)) C hP (t20 (a := b18) (t := 1) hb18) ex23 cw_720 dX8_call_131 ?_
            obtain ⟨x27, ex27, hx27⟩ := (hr5_1.t6 hb24).1
            refine pg_X9_1 (v := some x27) C hP (t20 (a := b24) (t := 6) hb24) ex27 cw_771 dX8_call_134 ?_
            refine lv_aload_n C.x C.b dX8_call_137 rfl (lv_at hl 4 rfl) ?_
            refine lv_aload C.x C.b dX8_call_138 (lv_at hl 1 rfl) ?_
            refine lv_aload C.x C.b dX8_call_140 (lv_at hl 0 rfl) ?_
            refine lv_aload_n C.x C.b dX8_call_142 rfl (lv_at hl 3 rfl) ?_
            refine cg_X8_1 C hP cw_680 dX8_call_143 ?_
            refine c_callVq (n := 5) (As := [.ref x27, .ref k0, .ref (ad 20), .ref (ad 20), .ref (ad 4)]) (rest := []) C hP hS hl.1 (NX3_find l D cy ad A sz0 sa (tP (tQ (tQ (tA (tI (tI (tI (tI κ 8 n6) 9 n7) 10 n8) 11 n9) 16 F10) 15 Z11) 17 Z12) P13) H.size (SLT H) C.f (fun q h => C.a q (Nat.le_trans hS.1 h)) x27 k0 (ad 20) (ad 20) hx27 (hr5_0.T ht0 (by decide)) hr5_2.a20 hr5_2.a20 hr5_1 hr5_2) ⟨cw_775, cw_410, by decide +kernel⟩ ⟨cw_776, cw_777, cw_422⟩ rfl (hP.recvS (k := 5) (ci := 5) C.K rfl rfl) rfl rfl (lv_room (Nat.le_of_ble_eq_true rfl)) ⟨(vX8_call_18 d ), (vX8_call_19 d )⟩ ⟨(vX8_call_14 κ k0 y1 P13 b18 x19 kdy1 kc14 kc15 kc16 kc17 ex19 c20), (vX8_call_15 κ k0 y1 P13 b18 x19 kdy1 kc14 kc15 kc16 kc17 ex19 c20)⟩ dX8_call_146 (fun r28 u H locs hr28 hP hS => ?_)
            obtain ⟨Z29, n30, n31⟩ := u
            have hP : CH D cy ad A (tI (tI (tQ (tP (tQ (tQ (tA (tI (tI (tI (tI κ 8 n6) 9 n7) 10 n8) 11 n9) 16 F10) 15 Z11) 17 Z12) P13) 15 Z29) 10 n30) 11 n31) H := hP
            have hr28 : (SV ad P13 (κ.2.1 0) (κ.2.1 1) (κ.2.2.2.1 6) (κ.2.2.2.1 7) (κ.2.2.2.1 8) (κ.2.2.2.1 13) Z29 Z12 (κ.1 1).toInt) ∧ (NT P13 5 r28) := hr28
            obtain ⟨hr28_0, hr28_1⟩ := hr28
            refine lq_astore (lv' := [(6, va_rf r28), (5, .ref (ad 20)), (4, .ref (ad 20)), (3, .ref b18), (0, .ref (ad 3)), (1, .ref k0), (2, .int k1)]) C.x C.b dX8_call_149 hl (by decide) (by cases r28 <;> rfl) (fun ls hl => ?_)
            refine lq_aload C.x C.b dX8_call_151 (lv_at hl 0 rfl) ?_
            cases r28 with
            | none =>
              refine lv_ifnonnullN C.x C.b dX8_call_153 ?_
              refine lv_aload_n C.x C.b dX8_call_156 rfl (lv_at hl 4 rfl) ?_
              refine lv_aload_n C.x C.b dX8_call_157 rfl (lv_at hl 4 rfl) ?_
              refine cg_X8_2 C hP cw_683 dX8_call_158 ?_
              refine cg_X3_2 (v := n31) C hP rfl cw_772 dX8_call_161 ?_
              refine c_callVq (n := 1) (As := [.int n31]) (rest := []) C hP hS hl.1 (NX8_fail l D cy ad A sz0 sa (tI (tI (tQ (tP (tQ (tQ (tA (tI (tI (tI (tI κ 8 n6) 9 n7) 10 n8) 11 n9) 16 F10) 15 Z11) 17 Z12) P13) 15 Z29) 10 n30) 11 n31) H.size (SLT H) C.f (fun q h => C.a q (Nat.le_trans hS.1 h)) n31 ) ⟨cw_702, cw_695, by decide +kernel⟩ ⟨cw_703, cw_704, cw_705⟩ rfl (hP.recvS (k := 3) (ci := 10) C.K rfl rfl) rfl rfl (lv_room (Nat.le_of_ble_eq_true rfl)) ⟨(vX8_call_12 d ), (vX8_call_13 d )⟩ ⟨(vX8_call_20 κ k0 y1 P13 b18 x19 kdy1 kc14 kc15 kc16 kc17 ex19 c20), (vX8_call_21 κ k0 y1 P13 b18 x19 kdy1 kc14 kc15 kc16 kc17 ex19 c20)⟩ dX8_call_164 (fun r33 u H locs hr33 hP hS => ?_)
              obtain ⟨n34, rfl⟩ : ∃ z, z = u := ⟨_, rfl⟩
              have hP : CH D cy ad A (tI (tI (tI (tQ (tP (tQ (tQ (tA (tI (tI (tI (tI κ 8 n6) 9 n7) 10 n8) 11 n9) 16 F10) 15 Z11) 17 Z12) P13) 15 Z29) 10 n30) 11 n31) 9 n34) H := hP
              have hr33 : (NT P13 1 r33) := hr33
              have hP : CH D cy ad A (tP (tQ (tQ (tA (tI (tI (tI (tI κ 8 n6) 9 n34) 10 n30) 11 n31) 16 F10) 15 Z29) 17 Z12) P13) H := CH.cong hP rfl rfl rfl rfl rfl rfl rfl rfl rfl rfl rfl rfl rfl rfl rfl rfl rfl rfl rfl rfl rfl rfl rfl rfl rfl rfl rfl
              exact c_retq (v := r33) (Or.inl ⟨_, rfl⟩) C hsz hsl ⟨n6, n34, n30, n31, F10, Z29, Z12, P13⟩ ⟨hr5_0, hr5_1, hr28_0, hr33, (vX8_call_7 n6 hr5_4_0 hr5_4_1)⟩ hP hS ⟨(vX8_call_20 κ k0 y1 P13 b18 x19 kdy1 kc14 kc15 kc16 kc17 ex19 c20), (vX8_call_21 κ k0 y1 P13 b18 x19 kdy1 kc14 kc15 kc16 kc17 ex19 c20)⟩ ⟨(vX8_call_16 κ k0 y1 P13 b18 x19 kdy1 kc14 kc15 kc16 kc17 ex19 c20), (vX8_call_17 κ k0 y1 P13 b18 x19 kdy1 kc14 kc15 kc16 kc17 ex19 c20)⟩ dX8_call_167
            | some b32 =>
              have hb32 : oT P13 b32 = 5 := hr28_1 b32 rfl
              refine lv_ifnonnull (tgt := 168) C.x C.b dX8_call_153 (by decide) ?_
              refine lv_aload_n C.x C.b dX8_call_168 rfl (lv_at hl 4 rfl) ?_
              refine lv_aload C.x C.b dX8_call_169 (lv_at hl 2 rfl) ?_
              refine lv_aload C.x C.b dX8_call_171 (lv_at hl 0 rfl) ?_
              obtain ⟨x35, ex35⟩ : ∃ z, oI P13 14 b32 = z := ⟨_, rfl⟩
              refine pg_X7_1 (v := x35) C hP (t20 (a := b32) (t := 5) hb32) ex35 cw_773 dX8_call_173 ?_
              refine c_callVq (n := 2) (As := [.ref (ad 20), .int x35]) (rest := []) C hP hS hl.1 (NX8_fit l D cy ad A sz0 sa (tI (tI (tQ (tP (tQ (tQ (tA (tI (tI (tI (tI κ 8 n6) 9 n7) 10 n8) 11 n9) 16 F10) 15 Z11) 17 Z12) P13) 15 Z29) 10 n30) 11 n31) H.size (SLT H) C.f (fun q h => C.a q (Nat.le_trans hS.1 h)) (ad 20) x35 hr5_2.a20 hr5_1 hr28_0) ⟨cw_778, cw_781, by decide +kernel⟩ ⟨cw_779, cw_780, cw_705⟩ rfl (hP.recvS (k := 3) (ci := 10) C.K rfl rfl) rfl rfl (lv_room (Nat.le_of_ble_eq_true rfl)) ⟨(vX8_call_22 d ), (vX8_call_23 d )⟩ ⟨(vX8_call_24 κ k0 y1 P13 b18 x19 b32 x35 kdy1 kc14 kc15 kc16 kc17 ex19 c20 ex35), (vX8_call_25 κ k0 y1 P13 b18 x19 b32 x35 kdy1 kc14 kc15 kc16 kc17 ex19 c20 ex35)⟩ dX8_call_176 (fun r36 u H locs hr36 hP hS => ?_)
              obtain ⟨n37, P38⟩ := u
              have hP : CH D cy ad A (tP (tI (tI (tI (tQ (tP (tQ (tQ (tA (tI (tI (tI (tI κ 8 n6) 9 n7) 10 n8) 11 n9) 16 F10) 15 Z11) 17 Z12) P13) 15 Z29) 10 n30) 11 n31) 9 n37) P38) H := hP
              have hr36 : (EX P13 P38) ∧ (PV sa P38) ∧ (SV ad P38 (κ.2.1 0) (κ.2.1 1) (κ.2.2.2.1 6) (κ.2.2.2.1 7) (κ.2.2.2.1 8) (κ.2.2.2.1 13) Z29 Z12 (κ.1 1).toInt) ∧ (NT P38 1 r36) := hr36
              obtain ⟨hr36_0, hr36_1, hr36_2, hr36_3⟩ := hr36
              have kc39 : cto P38 y1 = cto P13 y1 := hr36_0.ct (hr5_0.nt ty1 (by decide)) (by decide)
              have kc40 : cto P38 (some k0) = cto P13 (some k0) := hr36_0.ct (nt_s (hr5_0.T ht0 (by decide))) (by decide)
              refine lq_astore (lv' := [(7, va_rf r36), (6, .ref b32), (5, .ref (ad 20)), (4, .ref (ad 20)), (3, .ref b18), (0, .ref (ad 3)), (1, .ref k0), (2, .int k1)]) C.x C.b dX8_call_179 hl (by decide) (by cases r36 <;> rfl) (fun ls hl => ?_)
              refine lq_aload C.x C.b dX8_call_181 (lv_at hl 0 rfl) ?_
              cases r36 with
              | none =>
                refine lv_ifnonnullN C.x C.b dX8_call_183 ?_
                refine lv_null C.x C.b dX8_call_186 ?_
                refine lv_goto (tgt := 201) C.x C.b dX8_call_187 (by decide) ?_
                refine lv_astoreN (lv' := [(8, .null), (7, .null), (6, .ref b32), (5, .ref (ad 20)), (4, .ref (ad 20)), (3, .ref b18), (0, .ref (ad 3)), (1, .ref k0), (2, .int k1)]) C.x C.b dX8_call_201 hl (by decide) rfl (fun ls hl => ?_)
                refine lv_aloadN C.x C.b dX8_call_203 (lv_at hl 0 rfl) ?_
                refine lv_ifnonnullN C.x C.b dX8_call_205 ?_
                refine lv_null C.x C.b dX8_call_208 ?_
                refine lv_goto (tgt := 223) C.x C.b dX8_call_209 (by decide) ?_
                have hP : CH D cy ad A (tP (tQ (tQ (tA (tI (tI (tI (tI κ 8 n6) 9 n37) 10 n30) 11 n31) 16 F10) 15 Z29) 17 Z12) P38) H := CH.cong hP rfl rfl rfl rfl rfl rfl rfl rfl rfl rfl rfl rfl rfl rfl rfl rfl rfl rfl rfl rfl rfl rfl rfl rfl rfl rfl rfl
                exact c_retq (v := none) (Or.inl ⟨_, rfl⟩) C hsz hsl ⟨n6, n37, n30, n31, F10, Z29, Z12, P38⟩ ⟨(hr5_0.trans hr36_0), hr36_1, hr36_2, nt_n, (vX8_call_7 n6 hr5_4_0 hr5_4_1)⟩ hP hS ⟨(vX8_call_26 κ k0 y1 P13 b18 x19 b32 x35 P38 kdy1 kc14 kc15 kc16 kc17 ex19 c20 ex35 kc39 kc40), (vX8_call_27 κ k0 y1 P13 b18 x19 b32 x35 P38 kdy1 kc14 kc15 kc16 kc17 ex19 c20 ex35 kc39 kc40)⟩ ⟨(vX8_call_28 κ k0 y1 P13 b18 x19 b32 x35 P38 kdy1 kc14 kc15 kc16 kc17 ex19 c20 ex35 kc39 kc40), (vX8_call_29 κ k0 y1 P13 b18 x19 b32 x35 P38 kdy1 kc14 kc15 kc16 kc17 ex19 c20 ex35 kc39 kc40)⟩ dX8_call_223
              | some b41 =>
                have hb41 : oT P38 b41 = 1 := hr36_3 b41 rfl
                refine lv_ifnonnull (tgt := 190) C.x C.b dX8_call_183 (by decide) ?_
                refine lv_aload_n C.x C.b dX8_call_190 rfl (lv_at hl 5 rfl) ?_
                refine lv_aload C.x C.b dX8_call_191 (lv_at hl 2 rfl) ?_
                refine lv_aload C.x C.b dX8_call_193 (lv_at hl 1 rfl) ?_
                obtain ⟨x42, ex42⟩ : ∃ z, oI P38 15 b32 = z := ⟨_, rfl⟩
                refine pg_X7_2 (v := x42) C hP (t20 (a := b32) (t := 5) (hr36_0.T hb32 (by decide))) ex42 cw_774 dX8_call_195 ?_
                refine c_callVq (n := 2) (As := [.ref (ad 20), .int x42]) (rest := []) C hP hS hl.1 (NX8_fit l D cy ad A sz0 sa (tP (tI (tI (tI (tQ (tP (tQ (tQ (tA (tI (tI (tI (tI κ 8 n6) 9 n7) 10 n8) 11 n9) 16 F10) 15 Z11) 17 Z12) P13) 15 Z29) 10 n30) 11 n31) 9 n37) P38) H.size (SLT H) C.f (fun q h => C.a q (Nat.le_trans hS.1 h)) (ad 20) x42 (hr36_0.T hr5_2.a20 (by decide)) hr36_1 hr36_2) ⟨cw_778, cw_781, by decide +kernel⟩ ⟨cw_779, cw_780, cw_705⟩ rfl (hP.recvS (k := 3) (ci := 10) C.K rfl rfl) rfl rfl (lv_room (Nat.le_of_ble_eq_true rfl)) ⟨(vX8_call_22 d ), (vX8_call_23 d )⟩ ⟨(vX8_call_30 κ k0 y1 P13 b18 x19 b32 x35 P38 x42 kdy1 kc14 kc15 kc16 kc17 ex19 c20 ex35 kc39 kc40 ex42), (vX8_call_31 κ k0 y1 P13 b18 x19 b32 x35 P38 x42 kdy1 kc14 kc15 kc16 kc17 ex19 c20 ex35 kc39 kc40 ex42)⟩ dX8_call_198 (fun r43 u H locs hr43 hP hS => ?_)
                obtain ⟨n44, P45⟩ := u
                have hP : CH D cy ad A (tP (tI (tP (tI (tI (tI (tQ (tP (tQ (tQ (tA (tI (tI (tI (tI κ 8 n6) 9 n7) 10 n8) 11 n9) 16 F10) 15 Z11) 17 Z12) P13) 15 Z29) 10 n30) 11 n31) 9 n37) P38) 9 n44) P45) H := hP
                have hr43 : (EX P38 P45) ∧ (PV sa P45) ∧ (SV ad P45 (κ.2.1 0) (κ.2.1 1) (κ.2.2.2.1 6) (κ.2.2.2.1 7) (κ.2.2.2.1 8) (κ.2.2.2.1 13) Z29 Z12 (κ.1 1).toInt) ∧ (NT P45 1 r43) := hr43
                obtain ⟨hr43_0, hr43_1, hr43_2, hr43_3⟩ := hr43
                have kc46 : cto P45 y1 = cto P38 y1 := hr43_0.ct (hr36_0.nt (hr5_0.nt ty1 (by decide)) (by decide)) (by decide)
                have kc47 : cto P45 (some k0) = cto P38 (some k0) := hr43_0.ct (nt_s (hr36_0.T (hr5_0.T ht0 (by decide)) (by decide))) (by decide)
                refine lq_astore (lv' := [(8, va_rf r43), (7, .ref b41), (6, .ref b32), (5, .ref (ad 20)), (4, .ref (ad 20)), (3, .ref b18), (0, .ref (ad 3)), (1, .ref k0), (2, .int k1)]) C.x C.b dX8_call_201 hl (by decide) (by cases r43 <;> rfl) (fun ls hl => ?_)
                refine lq_aload C.x C.b dX8_call_203 (lv_at hl 0 rfl) ?_
                cases r43 with
                | none =>
                  refine lv_ifnonnullN C.x C.b dX8_call_205 ?_
                  refine lv_null C.x C.b dX8_call_208 ?_
                  refine lv_goto (tgt := 223) C.x C.b dX8_call_209 (by decide) ?_
                  have hP : CH D cy ad A (tP (tQ (tQ (tA (tI (tI (tI (tI κ 8 n6) 9 n44) 10 n30) 11 n31) 16 F10) 15 Z29) 17 Z12) P45) H := CH.cong hP rfl rfl rfl rfl rfl rfl rfl rfl rfl rfl rfl rfl rfl rfl rfl rfl rfl rfl rfl rfl rfl rfl rfl rfl rfl rfl rfl
                  exact c_retq (v := none) (Or.inl ⟨_, rfl⟩) C hsz hsl ⟨n6, n44, n30, n31, F10, Z29, Z12, P45⟩ ⟨((hr5_0.trans hr36_0).trans hr43_0), hr43_1, hr43_2, nt_n, (vX8_call_7 n6 hr5_4_0 hr5_4_1)⟩ hP hS ⟨(vX8_call_32 κ k0 y1 P13 b18 x19 b32 x35 P38 x42 P45 kdy1 kc14 kc15 kc16 kc17 ex19 c20 ex35 kc39 kc40 ex42 kc46 kc47), (vX8_call_33 κ k0 y1 P13 b18 x19 b32 x35 P38 x42 P45 kdy1 kc14 kc15 kc16 kc17 ex19 c20 ex35 kc39 kc40 ex42 kc46 kc47)⟩ ⟨(vX8_call_34 κ k0 y1 P13 b18 x19 b32 x35 P38 x42 P45 kdy1 kc14 kc15 kc16 kc17 ex19 c20 ex35 kc39 kc40 ex42 kc46 kc47), (vX8_call_35 κ k0 y1 P13 b18 x19 b32 x35 P38 x42 P45 kdy1 kc14 kc15 kc16 kc17 ex19 c20 ex35 kc39 kc40 ex42 kc46 kc47)⟩ dX8_call_223
                | some b48 =>
                  have hb48 : oT P45 b48 = 1 := hr43_3 b48 rfl
                  refine lv_ifnonnull (tgt := 212) C.x C.b dX8_call_205 (by decide) ?_
                  refine lv_aload_n C.x C.b dX8_call_212 rfl (lv_at hl 6 rfl) ?_
                  refine lv_aload C.x C.b dX8_call_213 (lv_at hl 2 rfl) ?_
                  refine lv_aload_n C.x C.b dX8_call_215 rfl (lv_at hl 5 rfl) ?_
                  refine lv_aload C.x C.b dX8_call_216 (lv_at hl 1 rfl) ?_
                  refine lv_aload C.x C.b dX8_call_218 (lv_at hl 0 rfl) ?_
                  refine c_callVq (n := 4) (As := [.ref b32, .ref b18, .ref b41, .ref b48]) (rest := []) C hP hS hl.1 (NX8_act l D cy ad A sz0 sa (tP (tI (tP (tI (tI (tI (tQ (tP (tQ (tQ (tA (tI (tI (tI (tI κ 8 n6) 9 n7) 10 n8) 11 n9) 16 F10) 15 Z11) 17 Z12) P13) 15 Z29) 10 n30) 11 n31) 9 n37) P38) 9 n44) P45) H.size (SLT H) C.f (fun q h => C.a q (Nat.le_trans hS.1 h)) b32 b18 b41 b48 (hr43_0.T (hr36_0.T hb32 (by decide)) (by decide)) (hr43_0.T (hr36_0.T hb18 (by decide)) (by decide)) (hr43_0.T hb41 (by decide)) hb48 hr43_1 hr43_2) ⟨cw_787, cw_790, by decide +kernel⟩ ⟨cw_788, cw_789, cw_705⟩ rfl (hP.recvS (k := 3) (ci := 10) C.K rfl rfl) rfl rfl (lv_room (Nat.le_of_ble_eq_true rfl)) ⟨(vX8_call_36 d ), (vX8_call_37 d )⟩ ⟨(vX8_call_38 κ k0 y1 P13 b18 x19 b32 x35 P38 x42 P45 kdy1 kc14 kc15 kc16 kc17 ex19 c20 ex35 kc39 kc40 ex42 kc46 kc47), (vX8_call_39 κ k0 y1 P13 b18 x19 b32 x35 P38 x42 P45 kdy1 kc14 kc15 kc16 kc17 ex19 c20 ex35 kc39 kc40 ex42 kc46 kc47)⟩ dX8_call_220 (fun r49 u H locs hr49 hP hS => ?_)
                  obtain ⟨n50, P51⟩ := u
                  have hP : CH D cy ad A (tP (tI (tP (tI (tP (tI (tI (tI (tQ (tP (tQ (tQ (tA (tI (tI (tI (tI κ 8 n6) 9 n7) 10 n8) 11 n9) 16 F10) 15 Z11) 17 Z12) P13) 15 Z29) 10 n30) 11 n31) 9 n37) P38) 9 n44) P45) 9 n50) P51) H := hP
                  have hr49 : (EX P45 P51) ∧ (PV sa P51) ∧ (SV ad P51 (κ.2.1 0) (κ.2.1 1) (κ.2.2.2.1 6) (κ.2.2.2.1 7) (κ.2.2.2.1 8) (κ.2.2.2.1 13) Z29 Z12 (κ.1 1).toInt) ∧ (NT P51 1 r49) := hr49
                  obtain ⟨hr49_0, hr49_1, hr49_2, hr49_3⟩ := hr49
                  have kc52 : cto P51 y1 = cto P45 y1 := hr49_0.ct (hr43_0.nt (hr36_0.nt (hr5_0.nt ty1 (by decide)) (by decide)) (by decide)) (by decide)
                  have kc53 : cto P51 (some k0) = cto P45 (some k0) := hr49_0.ct (nt_s (hr43_0.T (hr36_0.T (hr5_0.T ht0 (by decide)) (by decide)) (by decide))) (by decide)
                  have hP : CH D cy ad A (tP (tQ (tQ (tA (tI (tI (tI (tI κ 8 n6) 9 n50) 10 n30) 11 n31) 16 F10) 15 Z29) 17 Z12) P51) H := CH.cong hP rfl rfl rfl rfl rfl rfl rfl rfl rfl rfl rfl rfl rfl rfl rfl rfl rfl rfl rfl rfl rfl rfl rfl rfl rfl rfl rfl
                  exact c_retq (v := r49) (Or.inl ⟨_, rfl⟩) C hsz hsl ⟨n6, n50, n30, n31, F10, Z29, Z12, P51⟩ ⟨(((hr5_0.trans hr36_0).trans hr43_0).trans hr49_0), hr49_1, hr49_2, hr49_3, (vX8_call_7 n6 hr5_4_0 hr5_4_1)⟩ hP hS ⟨(vX8_call_40 κ k0 y1 P13 b18 x19 b32 x35 P38 x42 P45 P51 kdy1 kc14 kc15 kc16 kc17 ex19 c20 ex35 kc39 kc40 ex42 kc46 kc47 kc52 kc53), (vX8_call_41 κ k0 y1 P13 b18 x19 b32 x35 P38 x42 P45 P51 kdy1 kc14 kc15 kc16 kc17 ex19 c20 ex35 kc39 kc40 ex42 kc46 kc47 kc52 kc53)⟩ ⟨(vX8_call_42 κ k0 y1 P13 b18 x19 b32 x35 P38 x42 P45 P51 kdy1 kc14 kc15 kc16 kc17 ex19 c20 ex35 kc39 kc40 ex42 kc46 kc47 kc52 kc53), (vX8_call_43 κ k0 y1 P13 b18 x19 b32 x35 P38 x42 P45 P51 kdy1 kc14 kc15 kc16 kc17 ex19 c20 ex35 kc39 kc40 ex42 kc46 kc47 kc52 kc53)⟩ dX8_call_223
        | some b22 =>
          have hb22 : oT κ.2.2.2.2 b22 = 2 := ty3 b22 rfl
          refine lv_ifnonnull (tgt := 93) C.x C.b dX8_call_83 (by decide) ?_
          refine lv_aload_n C.x C.b dX8_call_93 rfl (lv_at hl 2 rfl) ?_
          refine lv_aload_n C.x C.b dX8_call_94 rfl (lv_at hl 3 rfl) ?_
          refine pg_X5_5 (v := (some b22)) C hP (t20 (a := k0) (t := 2) (hr5_0.T ht0 (by decide))) ((hr5_0.R (k := 5) ht0 (by decide) (by decide)).trans ey3) cw_770 dX8_call_95 ?_
          refine lv_iload_n C.x C.b dX8_call_98 rfl (lv_at hl 4 rfl) ?_
          refine lv_iconst (v := 1) C.x C.b dX8_call_99 (by decide +kernel) ?_
          refine lv_iadd C.x C.b dX8_call_100 ?_
          refine lv_topi (fun x54 ex54 => ?_)
          have tx54 : x54.toInt = k1.toInt + 1 := (vX8_call_44 k1 d x4 x54 hpre_2 hpre_3 hpre_4 ex4 tx4 ex54)
          refine c_callVq (n := 2) (As := [.ref b22, .int x54]) (rest := []) C hP hS hl.1 (IH (tP (tQ (tQ (tA (tI (tI (tI (tI κ 8 n6) 9 n7) 10 n8) 11 n9) 16 F10) 15 Z11) 17 Z12) P13) H.size (SLT H) C.f (fun q h => C.a q (Nat.le_trans hS.1 h)) (some b22) x54 (nt_s (hr5_0.T hb22 (by decide))) hr5_1 hr5_2 (vX8_call_45 k1 d x4 n6 x54 hpre_2 hpre_3 hpre_4 ex4 tx4 hr5_4_0 hr5_4_1 ex54 tx54)) ⟨cw_711, cw_696, by decide +kernel⟩ ⟨cw_712, cw_713, cw_705⟩ rfl (hP.recvS (k := 3) (ci := 10) C.K rfl rfl) rfl rfl (lv_room (Nat.le_of_ble_eq_true rfl)) ⟨(vX8_call_3 d ), (vX8_call_4 d )⟩ ⟨(vX8_call_46 κ k0 y1 P13 b18 x19 b22 kdy1 kc14 kc15 kc16 kc17 ex19 c20), (vX8_call_47 κ k0 y1 P13 b18 x19 b22 kdy1 kc14 kc15 kc16 kc17 ex19 c20)⟩ dX8_call_101 (fun r55 u H locs hr55 hP hS => ?_)
          obtain ⟨n56, n57, n58, n59, F60, Z61, Z62, P63⟩ := u
          have hP : CH D cy ad A (tP (tQ (tQ (tA (tI (tI (tI (tI (tP (tQ (tQ (tA (tI (tI (tI (tI κ 8 n6) 9 n7) 10 n8) 11 n9) 16 F10) 15 Z11) 17 Z12) P13) 8 n56) 9 n57) 10 n58) 11 n59) 16 F60) 15 Z61) 17 Z62) P63) H := hP
          have hr55 : (EX P13 P63) ∧ (PV sa P63) ∧ (SV ad P63 (κ.2.1 0) (κ.2.1 1) (κ.2.2.2.1 6) (κ.2.2.2.1 7) (κ.2.2.2.1 8) (κ.2.2.2.1 13) Z61 Z62 (κ.1 1).toInt) ∧ (NT P63 1 r55) ∧ (0 ≤ n56.toInt ∧ n56.toInt ≤ 12) := hr55
          obtain ⟨hr55_0, hr55_1, hr55_2, hr55_3, hr55_4⟩ := hr55
          have kc64 : cto P63 y1 = cto P13 y1 := hr55_0.ct (hr5_0.nt ty1 (by decide)) (by decide)
          have kc65 : cto P63 (some k0) = cto P13 (some k0) := hr55_0.ct (nt_s (hr5_0.T ht0 (by decide))) (by decide)
          have kc66 : cto P63 (some b22) = cto P13 (some b22) := hr55_0.ct (nt_s (hr5_0.T hb22 (by decide))) (by decide)
          obtain ⟨hr55_4_0, hr55_4_1⟩ := hr55_4
          refine lq_astore (lv' := [(5, va_rf r55), (4, .ref (ad 20)), (3, .ref b18), (0, .ref (ad 3)), (1, .ref k0), (2, .int k1)]) C.x C.b dX8_call_104 hl (by decide) (by cases r55 <;> rfl) (fun ls hl => ?_)
          refine lq_aload C.x C.b dX8_call_106 (lv_at hl 0 rfl) ?_
          cases r55 with
          | none =>
            refine lv_ifnonnullN C.x C.b dX8_call_108 ?_
            refine lv_null C.x C.b dX8_call_111 ?_
            have hP : CH D cy ad A (tP (tQ (tQ (tA (tI (tI (tI (tI κ 8 n56) 9 n57) 10 n58) 11 n59) 16 F60) 15 Z61) 17 Z62) P63) H := CH.cong hP rfl rfl rfl rfl rfl rfl rfl rfl rfl rfl rfl rfl rfl rfl rfl rfl rfl rfl rfl rfl rfl rfl rfl rfl rfl rfl rfl
            exact c_retq (v := none) (Or.inl ⟨_, rfl⟩) C hsz hsl ⟨n56, n57, n58, n59, F60, Z61, Z62, P63⟩ ⟨(hr5_0.trans hr55_0), hr55_1, hr55_2, nt_n, (vX8_call_48 n56 hr55_4_0 hr55_4_1)⟩ hP hS ⟨(vX8_call_49 κ k0 y1 P13 b18 x19 b22 P63 kdy1 kc14 kc15 kc16 kc17 ex19 c20 kc64 kc65 kc66), (vX8_call_50 κ k0 y1 P13 b18 x19 b22 P63 kdy1 kc14 kc15 kc16 kc17 ex19 c20 kc64 kc65 kc66)⟩ ⟨(vX8_call_51 κ k0 y1 P13 b18 x19 b22 P63 kdy1 kc14 kc15 kc16 kc17 ex19 c20 kc64 kc65 kc66), (vX8_call_52 κ k0 y1 P13 b18 x19 b22 P63 kdy1 kc14 kc15 kc16 kc17 ex19 c20 kc64 kc65 kc66)⟩ dX8_call_112
          | some b67 =>
            have hb67 : oT P63 b67 = 1 := hr55_3 b67 rfl
            refine lv_ifnonnull (tgt := 113) C.x C.b dX8_call_108 (by decide) ?_
            refine lv_aload_n C.x C.b dX8_call_113 rfl (lv_at hl 2 rfl) ?_
            obtain ⟨x68, ex68⟩ : ∃ z, oR P63 1 b18 = z := ⟨_, rfl⟩
            refine pg_X10_4 (v := x68) C hP (t20 (a := b18) (t := 1) (hr55_0.T hb18 (by decide))) ex68 cw_720 dX8_call_114 ?_
            have tx68 : NT P63 6 x68 := by rw [← ex68]; exact (hr55_1.t1 (hr55_0.T hb18 (by decide))).2.1
            cases x68 with
            | none =>
              refine lv_ifnonnullN C.x C.b dX8_call_117 ?_
              refine lv_aload_n C.x C.b dX8_call_120 rfl (lv_at hl 3 rfl) ?_
              refine lv_iconst (v := 5) C.x C.b dX8_call_121 (by decide +kernel) ?_
              refine c_callVq (n := 1) (As := [.int 5]) (rest := []) C hP hS hl.1 (NX8_fail l D cy ad A sz0 sa (tP (tQ (tQ (tA (tI (tI (tI (tI (tP (tQ (tQ (tA (tI (tI (tI (tI κ 8 n6) 9 n7) 10 n8) 11 n9) 16 F10) 15 Z11) 17 Z12) P13) 8 n56) 9 n57) 10 n58) 11 n59) 16 F60) 15 Z61) 17 Z62) P63) H.size (SLT H) C.f (fun q h => C.a q (Nat.le_trans hS.1 h)) (5 : Int32) ) ⟨cw_702, cw_695, by decide +kernel⟩ ⟨cw_703, cw_704, cw_705⟩ rfl (hP.recvS (k := 3) (ci := 10) C.K rfl rfl) rfl rfl (lv_room (Nat.le_of_ble_eq_true rfl)) ⟨(vX8_call_12 d ), (vX8_call_13 d )⟩ ⟨(vX8_call_53 κ k0 y1 P13 b18 x19 b22 P63 kdy1 kc14 kc15 kc16 kc17 ex19 c20 kc64 kc65 kc66), (vX8_call_54 κ k0 y1 P13 b18 x19 b22 P63 kdy1 kc14 kc15 kc16 kc17 ex19 c20 kc64 kc65 kc66)⟩ dX8_call_122 (fun r70 u H locs hr70 hP hS => ?_)
              obtain ⟨n71, rfl⟩ : ∃ z, z = u := ⟨_, rfl⟩
              have hP : CH D cy ad A (tI (tP (tQ (tQ (tA (tI (tI (tI (tI (tP (tQ (tQ (tA (tI (tI (tI (tI κ 8 n6) 9 n7) 10 n8) 11 n9) 16 F10) 15 Z11) 17 Z12) P13) 8 n56) 9 n57) 10 n58) 11 n59) 16 F60) 15 Z61) 17 Z62) P63) 9 n71) H := hP
              have hr70 : (NT P63 1 r70) := hr70
              have hP : CH D cy ad A (tP (tQ (tQ (tA (tI (tI (tI (tI κ 8 n56) 9 n71) 10 n58) 11 n59) 16 F60) 15 Z61) 17 Z62) P63) H := CH.cong hP rfl rfl rfl rfl rfl rfl rfl rfl rfl rfl rfl rfl rfl rfl rfl rfl rfl rfl rfl rfl rfl rfl rfl rfl rfl rfl rfl
              exact c_retq (v := r70) (Or.inl ⟨_, rfl⟩) C hsz hsl ⟨n56, n71, n58, n59, F60, Z61, Z62, P63⟩ ⟨(hr5_0.trans hr55_0), hr55_1, hr55_2, hr70, (vX8_call_48 n56 hr55_4_0 hr55_4_1)⟩ hP hS ⟨(vX8_call_53 κ k0 y1 P13 b18 x19 b22 P63 kdy1 kc14 kc15 kc16 kc17 ex19 c20 kc64 kc65 kc66), (vX8_call_54 κ k0 y1 P13 b18 x19 b22 P63 kdy1 kc14 kc15 kc16 kc17 ex19 c20 kc64 kc65 kc66)⟩ ⟨(vX8_call_51 κ k0 y1 P13 b18 x19 b22 P63 kdy1 kc14 kc15 kc16 kc17 ex19 c20 kc64 kc65 kc66), (vX8_call_52 κ k0 y1 P13 b18 x19 b22 P63 kdy1 kc14 kc15 kc16 kc17 ex19 c20 kc64 kc65 kc66)⟩ dX8_call_125
            | some b69 =>
              have hb69 : oT P63 b69 = 6 := tx68 b69 rfl
              refine lv_ifnonnull (tgt := 126) C.x C.b dX8_call_117 (by decide) ?_
              refine lv_aload_n C.x C.b dX8_call_126 rfl (lv_at hl 3 rfl) ?_
              refine cg_X8_2 C hP cw_683 dX8_call_127 ?_
              refine lv_aload_n C.x C.b dX8_call_130 rfl (lv_at hl 2 rfl) ?_
              refine pg_X10_4 (v := (some b69)) C hP (t20 (a := b18) (t := 1) (hr55_0.T hb18 (by decide))) ex68 cw_720 dX8_call_131 ?_
              obtain ⟨x72, ex72, hx72⟩ := (hr55_1.t6 hb69).1
              refine pg_X9_1 (v := some x72) C hP (t20 (a := b69) (t := 6) hb69) ex72 cw_771 dX8_call_134 ?_
              refine lv_aload_n C.x C.b dX8_call_137 rfl (lv_at hl 4 rfl) ?_
              refine lv_aload C.x C.b dX8_call_138 (lv_at hl 1 rfl) ?_
              refine lv_aload C.x C.b dX8_call_140 (lv_at hl 0 rfl) ?_
              refine lv_aload_n C.x C.b dX8_call_142 rfl (lv_at hl 3 rfl) ?_
              refine cg_X8_1 C hP cw_680 dX8_call_143 ?_
              refine c_callVq (n := 5) (As := [.ref x72, .ref k0, .ref (ad 20), .ref b67, .ref (ad 4)]) (rest := []) C hP hS hl.1 (NX3_find l D cy ad A sz0 sa (tP (tQ (tQ (tA (tI (tI (tI (tI (tP (tQ (tQ (tA (tI (tI (tI (tI κ 8 n6) 9 n7) 10 n8) 11 n9) 16 F10) 15 Z11) 17 Z12) P13) 8 n56) 9 n57) 10 n58) 11 n59) 16 F60) 15 Z61) 17 Z62) P63) H.size (SLT H) C.f (fun q h => C.a q (Nat.le_trans hS.1 h)) x72 k0 (ad 20) b67 hx72 (hr55_0.T (hr5_0.T ht0 (by decide)) (by decide)) (hr55_0.T hr5_2.a20 (by decide)) hb67 hr55_1 hr55_2) ⟨cw_775, cw_410, by decide +kernel⟩ ⟨cw_776, cw_777, cw_422⟩ rfl (hP.recvS (k := 5) (ci := 5) C.K rfl rfl) rfl rfl (lv_room (Nat.le_of_ble_eq_true rfl)) ⟨(vX8_call_18 d ), (vX8_call_19 d )⟩ ⟨(vX8_call_53 κ k0 y1 P13 b18 x19 b22 P63 kdy1 kc14 kc15 kc16 kc17 ex19 c20 kc64 kc65 kc66), (vX8_call_54 κ k0 y1 P13 b18 x19 b22 P63 kdy1 kc14 kc15 kc16 kc17 ex19 c20 kc64 kc65 kc66)⟩ dX8_call_146 (fun r73 u H locs hr73 hP hS => ?_)
              obtain ⟨Z74, n75, n76⟩ := u
              have hP : CH D cy ad A (tI (tI (tQ (tP (tQ (tQ (tA (tI (tI (tI (tI (tP (tQ (tQ (tA (tI (tI (tI (tI κ 8 n6) 9 n7) 10 n8) 11 n9) 16 F10) 15 Z11) 17 Z12) P13) 8 n56) 9 n57) 10 n58) 11 n59) 16 F60) 15 Z61) 17 Z62) P63) 15 Z74) 10 n75) 11 n76) H := hP
              have hr73 : (SV ad P63 (κ.2.1 0) (κ.2.1 1) (κ.2.2.2.1 6) (κ.2.2.2.1 7) (κ.2.2.2.1 8) (κ.2.2.2.1 13) Z74 Z62 (κ.1 1).toInt) ∧ (NT P63 5 r73) := hr73
              obtain ⟨hr73_0, hr73_1⟩ := hr73
              refine lq_astore (lv' := [(6, va_rf r73), (5, .ref b67), (4, .ref (ad 20)), (3, .ref b18), (0, .ref (ad 3)), (1, .ref k0), (2, .int k1)]) C.x C.b dX8_call_149 hl (by decide) (by cases r73 <;> rfl) (fun ls hl => ?_)
              refine lq_aload C.x C.b dX8_call_151 (lv_at hl 0 rfl) ?_
              cases r73 with
              | none =>
                refine lv_ifnonnullN C.x C.b dX8_call_153 ?_
                refine lv_aload_n C.x C.b dX8_call_156 rfl (lv_at hl 4 rfl) ?_
                refine lv_aload_n C.x C.b dX8_call_157 rfl (lv_at hl 4 rfl) ?_
                refine cg_X8_2 C hP cw_683 dX8_call_158 ?_
                refine cg_X3_2 (v := n76) C hP rfl cw_772 dX8_call_161 ?_
                refine c_callVq (n := 1) (As := [.int n76]) (rest := []) C hP hS hl.1 (NX8_fail l D cy ad A sz0 sa (tI (tI (tQ (tP (tQ (tQ (tA (tI (tI (tI (tI (tP (tQ (tQ (tA (tI (tI (tI (tI κ 8 n6) 9 n7) 10 n8) 11 n9) 16 F10) 15 Z11) 17 Z12) P13) 8 n56) 9 n57) 10 n58) 11 n59) 16 F60) 15 Z61) 17 Z62) P63) 15 Z74) 10 n75) 11 n76) H.size (SLT H) C.f (fun q h => C.a q (Nat.le_trans hS.1 h)) n76 ) ⟨cw_702, cw_695, by decide +kernel⟩ ⟨cw_703, cw_704, cw_705⟩ rfl (hP.recvS (k := 3) (ci := 10) C.K rfl rfl) rfl rfl (lv_room (Nat.le_of_ble_eq_true rfl)) ⟨(vX8_call_12 d ), (vX8_call_13 d )⟩ ⟨(vX8_call_55 κ k0 y1 P13 b18 x19 b22 P63 kdy1 kc14 kc15 kc16 kc17 ex19 c20 kc64 kc65 kc66), (vX8_call_56 κ k0 y1 P13 b18 x19 b22 P63 kdy1 kc14 kc15 kc16 kc17 ex19 c20 kc64 kc65 kc66)⟩ dX8_call_164 (fun r78 u H locs hr78 hP hS => ?_)
                obtain ⟨n79, rfl⟩ : ∃ z, z = u := ⟨_, rfl⟩
                have hP : CH D cy ad A (tI (tI (tI (tQ (tP (tQ (tQ (tA (tI (tI (tI (tI (tP (tQ (tQ (tA (tI (tI (tI (tI κ 8 n6) 9 n7) 10 n8) 11 n9) 16 F10) 15 Z11) 17 Z12) P13) 8 n56) 9 n57) 10 n58) 11 n59) 16 F60) 15 Z61) 17 Z62) P63) 15 Z74) 10 n75) 11 n76) 9 n79) H := hP
                have hr78 : (NT P63 1 r78) := hr78
                have hP : CH D cy ad A (tP (tQ (tQ (tA (tI (tI (tI (tI κ 8 n56) 9 n79) 10 n75) 11 n76) 16 F60) 15 Z74) 17 Z62) P63) H := CH.cong hP rfl rfl rfl rfl rfl rfl rfl rfl rfl rfl rfl rfl rfl rfl rfl rfl rfl rfl rfl rfl rfl rfl rfl rfl rfl rfl rfl
                exact c_retq (v := r78) (Or.inl ⟨_, rfl⟩) C hsz hsl ⟨n56, n79, n75, n76, F60, Z74, Z62, P63⟩ ⟨(hr5_0.trans hr55_0), hr55_1, hr73_0, hr78, (vX8_call_48 n56 hr55_4_0 hr55_4_1)⟩ hP hS ⟨(vX8_call_55 κ k0 y1 P13 b18 x19 b22 P63 kdy1 kc14 kc15 kc16 kc17 ex19 c20 kc64 kc65 kc66), (vX8_call_56 κ k0 y1 P13 b18 x19 b22 P63 kdy1 kc14 kc15 kc16 kc17 ex19 c20 kc64 kc65 kc66)⟩ ⟨(vX8_call_51 κ k0 y1 P13 b18 x19 b22 P63 kdy1 kc14 kc15 kc16 kc17 ex19 c20 kc64 kc65 kc66), (vX8_call_52 κ k0 y1 P13 b18 x19 b22 P63 kdy1 kc14 kc15 kc16 kc17 ex19 c20 kc64 kc65 kc66)⟩ dX8_call_167
              | some b77 =>
                have hb77 : oT P63 b77 = 5 := hr73_1 b77 rfl
                refine lv_ifnonnull (tgt := 168) C.x C.b dX8_call_153 (by decide) ?_
                refine lv_aload_n C.x C.b dX8_call_168 rfl (lv_at hl 4 rfl) ?_
                refine lv_aload C.x C.b dX8_call_169 (lv_at hl 2 rfl) ?_
                refine lv_aload C.x C.b dX8_call_171 (lv_at hl 0 rfl) ?_
                obtain ⟨x80, ex80⟩ : ∃ z, oI P63 14 b77 = z := ⟨_, rfl⟩
                refine pg_X7_1 (v := x80) C hP (t20 (a := b77) (t := 5) hb77) ex80 cw_773 dX8_call_173 ?_
                refine c_callVq (n := 2) (As := [.ref (ad 20), .int x80]) (rest := []) C hP hS hl.1 (NX8_fit l D cy ad A sz0 sa (tI (tI (tQ (tP (tQ (tQ (tA (tI (tI (tI (tI (tP (tQ (tQ (tA (tI (tI (tI (tI κ 8 n6) 9 n7) 10 n8) 11 n9) 16 F10) 15 Z11) 17 Z12) P13) 8 n56) 9 n57) 10 n58) 11 n59) 16 F60) 15 Z61) 17 Z62) P63) 15 Z74) 10 n75) 11 n76) H.size (SLT H) C.f (fun q h => C.a q (Nat.le_trans hS.1 h)) (ad 20) x80 (hr55_0.T hr5_2.a20 (by decide)) hr55_1 hr73_0) ⟨cw_778, cw_781, by decide +kernel⟩ ⟨cw_779, cw_780, cw_705⟩ rfl (hP.recvS (k := 3) (ci := 10) C.K rfl rfl) rfl rfl (lv_room (Nat.le_of_ble_eq_true rfl)) ⟨(vX8_call_22 d ), (vX8_call_23 d )⟩ ⟨(vX8_call_57 κ k0 y1 P13 b18 x19 b22 P63 b77 x80 kdy1 kc14 kc15 kc16 kc17 ex19 c20 kc64 kc65 kc66 ex80), (vX8_call_58 κ k0 y1 P13 b18 x19 b22 P63 b77 x80 kdy1 kc14 kc15 kc16 kc17 ex19 c20 kc64 kc65 kc66 ex80)⟩ dX8_call_176 (fun r81 u H locs hr81 hP hS => ?_)
                obtain ⟨n82, P83⟩ := u
                have hP : CH D cy ad A (tP (tI (tI (tI (tQ (tP (tQ (tQ (tA (tI (tI (tI (tI (tP (tQ (tQ (tA (tI (tI (tI (tI κ 8 n6) 9 n7) 10 n8) 11 n9) 16 F10) 15 Z11) 17 Z12) P13) 8 n56) 9 n57) 10 n58) 11 n59) 16 F60) 15 Z61) 17 Z62) P63) 15 Z74) 10 n75) 11 n76) 9 n82) P83) H := hP
                have hr81 : (EX P63 P83) ∧ (PV sa P83) ∧ (SV ad P83 (κ.2.1 0) (κ.2.1 1) (κ.2.2.2.1 6) (κ.2.2.2.1 7) (κ.2.2.2.1 8) (κ.2.2.2.1 13) Z74 Z62 (κ.1 1).toInt) ∧ (NT P83 1 r81) := hr81
                obtain ⟨hr81_0, hr81_1, hr81_2, hr81_3⟩ := hr81
                have kc84 : cto P83 y1 = cto P63 y1 := hr81_0.ct (hr55_0.nt (hr5_0.nt ty1 (by decide)) (by decide)) (by decide)
                have kc85 : cto P83 (some k0) = cto P63 (some k0) := hr81_0.ct (nt_s (hr55_0.T (hr5_0.T ht0 (by decide)) (by decide))) (by decide)
                have kc86 : cto P83 (some b22) = cto P63 (some b22) := hr81_0.ct (nt_s (hr55_0.T (hr5_0.T hb22 (by decide)) (by decide))) (by decide)
                refine lq_astore (lv' := [(7, va_rf r81), (6, .ref b77), (5, .ref b67), (4, .ref (ad 20)), (3, .ref b18), (0, .ref (ad 3)), (1, .ref k0), (2, .int k1)]) C.x C.b dX8_call_179 hl (by decide) (by cases r81 <;> rfl) (fun ls hl => ?_)
                refine lq_aload C.x C.b dX8_call_181 (lv_at hl 0 rfl) ?_
                cases r81 with
                | none =>
                  refine lv_ifnonnullN C.x C.b dX8_call_183 ?_
                  refine lv_null C.x C.b dX8_call_186 ?_
                  refine lv_goto (tgt := 201) C.x C.b dX8_call_187 (by decide) ?_
                  refine lv_astoreN (lv' := [(8, .null), (7, .null), (6, .ref b77), (5, .ref b67), (4, .ref (ad 20)), (3, .ref b18), (0, .ref (ad 3)), (1, .ref k0), (2, .int k1)]) C.x C.b dX8_call_201 hl (by decide) rfl (fun ls hl => ?_)
                  refine lv_aloadN C.x C.b dX8_call_203 (lv_at hl 0 rfl) ?_
                  refine lv_ifnonnullN C.x C.b dX8_call_205 ?_
                  refine lv_null C.x C.b dX8_call_208 ?_
                  refine lv_goto (tgt := 223) C.x C.b dX8_call_209 (by decide) ?_
                  have hP : CH D cy ad A (tP (tQ (tQ (tA (tI (tI (tI (tI κ 8 n56) 9 n82) 10 n75) 11 n76) 16 F60) 15 Z74) 17 Z62) P83) H := CH.cong hP rfl rfl rfl rfl rfl rfl rfl rfl rfl rfl rfl rfl rfl rfl rfl rfl rfl rfl rfl rfl rfl rfl rfl rfl rfl rfl rfl
                  exact c_retq (v := none) (Or.inl ⟨_, rfl⟩) C hsz hsl ⟨n56, n82, n75, n76, F60, Z74, Z62, P83⟩ ⟨((hr5_0.trans hr55_0).trans hr81_0), hr81_1, hr81_2, nt_n, (vX8_call_48 n56 hr55_4_0 hr55_4_1)⟩ hP hS ⟨(vX8_call_59 κ k0 y1 P13 b18 x19 b22 P63 b77 x80 P83 kdy1 kc14 kc15 kc16 kc17 ex19 c20 kc64 kc65 kc66 ex80 kc84 kc85 kc86), (vX8_call_60 κ k0 y1 P13 b18 x19 b22 P63 b77 x80 P83 kdy1 kc14 kc15 kc16 kc17 ex19 c20 kc64 kc65 kc66 ex80 kc84 kc85 kc86)⟩ ⟨(vX8_call_61 κ k0 y1 P13 b18 x19 b22 P63 b77 x80 P83 kdy1 kc14 kc15 kc16 kc17 ex19 c20 kc64 kc65 kc66 ex80 kc84 kc85 kc86), (vX8_call_62 κ k0 y1 P13 b18 x19 b22 P63 b77 x80 P83 kdy1 kc14 kc15 kc16 kc17 ex19 c20 kc64 kc65 kc66 ex80 kc84 kc85 kc86)⟩ dX8_call_223
                | some b87 =>
                  have hb87 : oT P83 b87 = 1 := hr81_3 b87 rfl
                  refine lv_ifnonnull (tgt := 190) C.x C.b dX8_call_183 (by decide) ?_
                  refine lv_aload_n C.x C.b dX8_call_190 rfl (lv_at hl 5 rfl) ?_
                  refine lv_aload C.x C.b dX8_call_191 (lv_at hl 2 rfl) ?_
                  refine lv_aload C.x C.b dX8_call_193 (lv_at hl 1 rfl) ?_
                  obtain ⟨x88, ex88⟩ : ∃ z, oI P83 15 b77 = z := ⟨_, rfl⟩
                  refine pg_X7_2 (v := x88) C hP (t20 (a := b77) (t := 5) (hr81_0.T hb77 (by decide))) ex88 cw_774 dX8_call_195 ?_
                  refine c_callVq (n := 2) (As := [.ref b67, .int x88]) (rest := []) C hP hS hl.1 (NX8_fit l D cy ad A sz0 sa (tP (tI (tI (tI (tQ (tP (tQ (tQ (tA (tI (tI (tI (tI (tP (tQ (tQ (tA (tI (tI (tI (tI κ 8 n6) 9 n7) 10 n8) 11 n9) 16 F10) 15 Z11) 17 Z12) P13) 8 n56) 9 n57) 10 n58) 11 n59) 16 F60) 15 Z61) 17 Z62) P63) 15 Z74) 10 n75) 11 n76) 9 n82) P83) H.size (SLT H) C.f (fun q h => C.a q (Nat.le_trans hS.1 h)) b67 x88 (hr81_0.T hb67 (by decide)) hr81_1 hr81_2) ⟨cw_778, cw_781, by decide +kernel⟩ ⟨cw_779, cw_780, cw_705⟩ rfl (hP.recvS (k := 3) (ci := 10) C.K rfl rfl) rfl rfl (lv_room (Nat.le_of_ble_eq_true rfl)) ⟨(vX8_call_22 d ), (vX8_call_23 d )⟩ ⟨(vX8_call_63 κ k0 y1 P13 b18 x19 b22 P63 b77 x80 P83 x88 kdy1 kc14 kc15 kc16 kc17 ex19 c20 kc64 kc65 kc66 ex80 kc84 kc85 kc86 ex88), (vX8_call_64 κ k0 y1 P13 b18 x19 b22 P63 b77 x80 P83 x88 kdy1 kc14 kc15 kc16 kc17 ex19 c20 kc64 kc65 kc66 ex80 kc84 kc85 kc86 ex88)⟩ dX8_call_198 (fun r89 u H locs hr89 hP hS => ?_)
                  obtain ⟨n90, P91⟩ := u
                  have hP : CH D cy ad A (tP (tI (tP (tI (tI (tI (tQ (tP (tQ (tQ (tA (tI (tI (tI (tI (tP (tQ (tQ (tA (tI (tI (tI (tI κ 8 n6) 9 n7) 10 n8) 11 n9) 16 F10) 15 Z11) 17 Z12) P13) 8 n56) 9 n57) 10 n58) 11 n59) 16 F60) 15 Z61) 17 Z62) P63) 15 Z74) 10 n75) 11 n76) 9 n82) P83) 9 n90) P91) H := hP
                  have hr89 : (EX P83 P91) ∧ (PV sa P91) ∧ (SV ad P91 (κ.2.1 0) (κ.2.1 1) (κ.2.2.2.1 6) (κ.2.2.2.1 7) (κ.2.2.2.1 8) (κ.2.2.2.1 13) Z74 Z62 (κ.1 1).toInt) ∧ (NT P91 1 r89) := hr89
                  obtain ⟨hr89_0, hr89_1, hr89_2, hr89_3⟩ := hr89
                  have kc92 : cto P91 y1 = cto P83 y1 := hr89_0.ct (hr81_0.nt (hr55_0.nt (hr5_0.nt ty1 (by decide)) (by decide)) (by decide)) (by decide)
                  have kc93 : cto P91 (some k0) = cto P83 (some k0) := hr89_0.ct (nt_s (hr81_0.T (hr55_0.T (hr5_0.T ht0 (by decide)) (by decide)) (by decide))) (by decide)
                  have kc94 : cto P91 (some b22) = cto P83 (some b22) := hr89_0.ct (nt_s (hr81_0.T (hr55_0.T (hr5_0.T hb22 (by decide)) (by decide)) (by decide))) (by decide)
                  refine lq_astore (lv' := [(8, va_rf r89), (7, .ref b87), (6, .ref b77), (5, .ref b67), (4, .ref (ad 20)), (3, .ref b18), (0, .ref (ad 3)), (1, .ref k0), (2, .int k1)]) C.x C.b dX8_call_201 hl (by decide) (by cases r89 <;> rfl) (fun ls hl => ?_)
                  refine lq_aload C.x C.b dX8_call_203 (lv_at hl 0 rfl) ?_
                  cases r89 with
                  | none =>
                    refine lv_ifnonnullN C.x C.b dX8_call_205 ?_
                    refine lv_null C.x C.b dX8_call_208 ?_
                    refine lv_goto (tgt := 223) C.x C.b dX8_call_209 (by decide) ?_
                    have hP : CH D cy ad A (tP (tQ (tQ (tA (tI (tI (tI (tI κ 8 n56) 9 n90) 10 n75) 11 n76) 16 F60) 15 Z74) 17 Z62) P91) H := CH.cong hP rfl rfl rfl rfl rfl rfl rfl rfl rfl rfl rfl rfl rfl rfl rfl rfl rfl rfl rfl rfl rfl rfl rfl rfl rfl rfl rfl
                    exact c_retq (v := none) (Or.inl ⟨_, rfl⟩) C hsz hsl ⟨n56, n90, n75, n76, F60, Z74, Z62, P91⟩ ⟨(((hr5_0.trans hr55_0).trans hr81_0).trans hr89_0), hr89_1, hr89_2, nt_n, (vX8_call_48 n56 hr55_4_0 hr55_4_1)⟩ hP hS ⟨(vX8_call_65 κ k0 y1 P13 b18 x19 b22 P63 b77 x80 P83 x88 P91 kdy1 kc14 kc15 kc16 kc17 ex19 c20 kc64 kc65 kc66 ex80 kc84 kc85 kc86 ex88 kc92 kc93 kc94), (vX8_call_66 κ k0 y1 P13 b18 x19 b22 P63 b77 x80 P83 x88 P91 kdy1 kc14 kc15 kc16 kc17 ex19 c20 kc64 kc65 kc66 ex80 kc84 kc85 kc86 ex88 kc92 kc93 kc94)⟩ ⟨(vX8_call_67 κ k0 y1 P13 b18 x19 b22 P63 b77 x80 P83 x88 P91 kdy1 kc14 kc15 kc16 kc17 ex19 c20 kc64 kc65 kc66 ex80 kc84 kc85 kc86 ex88 kc92 kc93 kc94), (vX8_call_68 κ k0 y1 P13 b18 x19 b22 P63 b77 x80 P83 x88 P91 kdy1 kc14 kc15 kc16 kc17 ex19 c20 kc64 kc65 kc66 ex80 kc84 kc85 kc86 ex88 kc92 kc93 kc94)⟩ dX8_call_223
                  | some b95 =>
                    have hb95 : oT P91 b95 = 1 := hr89_3 b95 rfl
                    refine lv_ifnonnull (tgt := 212) C.x C.b dX8_call_205 (by decide) ?_
                    refine lv_aload_n C.x C.b dX8_call_212 rfl (lv_at hl 6 rfl) ?_
                    refine lv_aload C.x C.b dX8_call_213 (lv_at hl 2 rfl) ?_
                    refine lv_aload_n C.x C.b dX8_call_215 rfl (lv_at hl 5 rfl) ?_
                    refine lv_aload C.x C.b dX8_call_216 (lv_at hl 1 rfl) ?_
                    refine lv_aload C.x C.b dX8_call_218 (lv_at hl 0 rfl) ?_
                    refine c_callVq (n := 4) (As := [.ref b77, .ref b18, .ref b87, .ref b95]) (rest := []) C hP hS hl.1 (NX8_act l D cy ad A sz0 sa (tP (tI (tP (tI (tI (tI (tQ (tP (tQ (tQ (tA (tI (tI (tI (tI (tP (tQ (tQ (tA (tI (tI (tI (tI κ 8 n6) 9 n7) 10 n8) 11 n9) 16 F10) 15 Z11) 17 Z12) P13) 8 n56) 9 n57) 10 n58) 11 n59) 16 F60) 15 Z61) 17 Z62) P63) 15 Z74) 10 n75) 11 n76) 9 n82) P83) 9 n90) P91) H.size (SLT H) C.f (fun q h => C.a q (Nat.le_trans hS.1 h)) b77 b18 b87 b95 (hr89_0.T (hr81_0.T hb77 (by decide)) (by decide)) (hr89_0.T (hr81_0.T (hr55_0.T hb18 (by decide)) (by decide)) (by decide)) (hr89_0.T hb87 (by decide)) hb95 hr89_1 hr89_2) ⟨cw_787, cw_790, by decide +kernel⟩ ⟨cw_788, cw_789, cw_705⟩ rfl (hP.recvS (k := 3) (ci := 10) C.K rfl rfl) rfl rfl (lv_room (Nat.le_of_ble_eq_true rfl)) ⟨(vX8_call_36 d ), (vX8_call_37 d )⟩ ⟨(vX8_call_69 κ k0 y1 P13 b18 x19 b22 P63 b77 x80 P83 x88 P91 kdy1 kc14 kc15 kc16 kc17 ex19 c20 kc64 kc65 kc66 ex80 kc84 kc85 kc86 ex88 kc92 kc93 kc94), (vX8_call_70 κ k0 y1 P13 b18 x19 b22 P63 b77 x80 P83 x88 P91 kdy1 kc14 kc15 kc16 kc17 ex19 c20 kc64 kc65 kc66 ex80 kc84 kc85 kc86 ex88 kc92 kc93 kc94)⟩ dX8_call_220 (fun r96 u H locs hr96 hP hS => ?_)
                    obtain ⟨n97, P98⟩ := u
                    have hP : CH D cy ad A (tP (tI (tP (tI (tP (tI (tI (tI (tQ (tP (tQ (tQ (tA (tI (tI (tI (tI (tP (tQ (tQ (tA (tI (tI (tI (tI κ 8 n6) 9 n7) 10 n8) 11 n9) 16 F10) 15 Z11) 17 Z12) P13) 8 n56) 9 n57) 10 n58) 11 n59) 16 F60) 15 Z61) 17 Z62) P63) 15 Z74) 10 n75) 11 n76) 9 n82) P83) 9 n90) P91) 9 n97) P98) H := hP
                    have hr96 : (EX P91 P98) ∧ (PV sa P98) ∧ (SV ad P98 (κ.2.1 0) (κ.2.1 1) (κ.2.2.2.1 6) (κ.2.2.2.1 7) (κ.2.2.2.1 8) (κ.2.2.2.1 13) Z74 Z62 (κ.1 1).toInt) ∧ (NT P98 1 r96) := hr96
                    obtain ⟨hr96_0, hr96_1, hr96_2, hr96_3⟩ := hr96
                    have kc99 : cto P98 y1 = cto P91 y1 := hr96_0.ct (hr89_0.nt (hr81_0.nt (hr55_0.nt (hr5_0.nt ty1 (by decide)) (by decide)) (by decide)) (by decide)) (by decide)
                    have kc100 : cto P98 (some k0) = cto P91 (some k0) := hr96_0.ct (nt_s (hr89_0.T (hr81_0.T (hr55_0.T (hr5_0.T ht0 (by decide)) (by decide)) (by decide)) (by decide))) (by decide)
                    have kc101 : cto P98 (some b22) = cto P91 (some b22) := hr96_0.ct (nt_s (hr89_0.T (hr81_0.T (hr55_0.T (hr5_0.T hb22 (by decide)) (by decide)) (by decide)) (by decide))) (by decide)
                    have hP : CH D cy ad A (tP (tQ (tQ (tA (tI (tI (tI (tI κ 8 n56) 9 n97) 10 n75) 11 n76) 16 F60) 15 Z74) 17 Z62) P98) H := CH.cong hP rfl rfl rfl rfl rfl rfl rfl rfl rfl rfl rfl rfl rfl rfl rfl rfl rfl rfl rfl rfl rfl rfl rfl rfl rfl rfl rfl
                    exact c_retq (v := r96) (Or.inl ⟨_, rfl⟩) C hsz hsl ⟨n56, n97, n75, n76, F60, Z74, Z62, P98⟩ ⟨((((hr5_0.trans hr55_0).trans hr81_0).trans hr89_0).trans hr96_0), hr96_1, hr96_2, hr96_3, (vX8_call_48 n56 hr55_4_0 hr55_4_1)⟩ hP hS ⟨(vX8_call_71 κ k0 y1 P13 b18 x19 b22 P63 b77 x80 P83 x88 P91 P98 kdy1 kc14 kc15 kc16 kc17 ex19 c20 kc64 kc65 kc66 ex80 kc84 kc85 kc86 ex88 kc92 kc93 kc94 kc99 kc100 kc101), (vX8_call_72 κ k0 y1 P13 b18 x19 b22 P63 b77 x80 P83 x88 P91 P98 kdy1 kc14 kc15 kc16 kc17 ex19 c20 kc64 kc65 kc66 ex80 kc84 kc85 kc86 ex88 kc92 kc93 kc94 kc99 kc100 kc101)⟩ ⟨(vX8_call_73 κ k0 y1 P13 b18 x19 b22 P63 b77 x80 P83 x88 P91 P98 kdy1 kc14 kc15 kc16 kc17 ex19 c20 kc64 kc65 kc66 ex80 kc84 kc85 kc86 ex88 kc92 kc93 kc94 kc99 kc100 kc101), (vX8_call_74 κ k0 y1 P13 b18 x19 b22 P63 b77 x80 P83 x88 P91 P98 kdy1 kc14 kc15 kc16 kc17 ex19 c20 kc64 kc65 kc66 ex80 kc84 kc85 kc86 ex88 kc92 kc93 kc94 kc99 kc100 kc101)⟩ dX8_call_223
      | some b21 =>
        have hb21 : oT κ.2.2.2.2 b21 = 2 := ty2 b21 rfl
        refine lv_ifnonnull (tgt := 59) C.x C.b dX8_call_49 (by decide) ?_
        refine lv_aload_n C.x C.b dX8_call_59 rfl (lv_at hl 1 rfl) ?_
        refine lv_aload_n C.x C.b dX8_call_60 rfl (lv_at hl 2 rfl) ?_
        refine pg_X5_4 (v := (some b21)) C hP (t20 (a := k0) (t := 2) (hr5_0.T ht0 (by decide))) ((hr5_0.R (k := 4) ht0 (by decide) (by decide)).trans ey2) cw_769 dX8_call_61 ?_
        refine lv_iload_n C.x C.b dX8_call_64 rfl (lv_at hl 3 rfl) ?_
        refine lv_iconst (v := 1) C.x C.b dX8_call_65 (by decide +kernel) ?_
        refine lv_iadd C.x C.b dX8_call_66 ?_
        refine lv_topi (fun x102 ex102 => ?_)
        have tx102 : x102.toInt = k1.toInt + 1 := (vX8_call_75 k1 d x4 x102 hpre_2 hpre_3 hpre_4 ex4 tx4 ex102)
        refine c_callVq (n := 2) (As := [.ref b21, .int x102]) (rest := []) C hP hS hl.1 (IH (tP (tQ (tQ (tA (tI (tI (tI (tI κ 8 n6) 9 n7) 10 n8) 11 n9) 16 F10) 15 Z11) 17 Z12) P13) H.size (SLT H) C.f (fun q h => C.a q (Nat.le_trans hS.1 h)) (some b21) x102 (nt_s (hr5_0.T hb21 (by decide))) hr5_1 hr5_2 (vX8_call_76 k1 d x4 n6 x102 hpre_2 hpre_3 hpre_4 ex4 tx4 hr5_4_0 hr5_4_1 ex102 tx102)) ⟨cw_711, cw_696, by decide +kernel⟩ ⟨cw_712, cw_713, cw_705⟩ rfl (hP.recvS (k := 3) (ci := 10) C.K rfl rfl) rfl rfl (lv_room (Nat.le_of_ble_eq_true rfl)) ⟨(vX8_call_3 d ), (vX8_call_4 d )⟩ ⟨(vX8_call_77 κ k0 y1 y3 P13 b18 x19 b21 kdy1 kc14 kc15 kc16 kc17 ex19 c20), (vX8_call_78 κ k0 y1 y3 P13 b18 x19 b21 kdy1 kc14 kc15 kc16 kc17 ex19 c20)⟩ dX8_call_67 (fun r103 u H locs hr103 hP hS => ?_)
        obtain ⟨n104, n105, n106, n107, F108, Z109, Z110, P111⟩ := u
        have hP : CH D cy ad A (tP (tQ (tQ (tA (tI (tI (tI (tI (tP (tQ (tQ (tA (tI (tI (tI (tI κ 8 n6) 9 n7) 10 n8) 11 n9) 16 F10) 15 Z11) 17 Z12) P13) 8 n104) 9 n105) 10 n106) 11 n107) 16 F108) 15 Z109) 17 Z110) P111) H := hP
        have hr103 : (EX P13 P111) ∧ (PV sa P111) ∧ (SV ad P111 (κ.2.1 0) (κ.2.1 1) (κ.2.2.2.1 6) (κ.2.2.2.1 7) (κ.2.2.2.1 8) (κ.2.2.2.1 13) Z109 Z110 (κ.1 1).toInt) ∧ (NT P111 1 r103) ∧ (0 ≤ n104.toInt ∧ n104.toInt ≤ 12) := hr103
        obtain ⟨hr103_0, hr103_1, hr103_2, hr103_3, hr103_4⟩ := hr103
        have kc112 : cto P111 y1 = cto P13 y1 := hr103_0.ct (hr5_0.nt ty1 (by decide)) (by decide)
        have kc113 : cto P111 y3 = cto P13 y3 := hr103_0.ct (hr5_0.nt ty3 (by decide)) (by decide)
        have kc114 : cto P111 (some k0) = cto P13 (some k0) := hr103_0.ct (nt_s (hr5_0.T ht0 (by decide))) (by decide)
        have kc115 : cto P111 (some b21) = cto P13 (some b21) := hr103_0.ct (nt_s (hr5_0.T hb21 (by decide))) (by decide)
        obtain ⟨hr103_4_0, hr103_4_1⟩ := hr103_4
        refine lq_astore (lv' := [(4, va_rf r103), (3, .ref b18), (0, .ref (ad 3)), (1, .ref k0), (2, .int k1)]) C.x C.b dX8_call_70 hl (by decide) (by cases r103 <;> rfl) (fun ls hl => ?_)
        refine lq_aload C.x C.b dX8_call_72 (lv_at hl 0 rfl) ?_
        cases r103 with
        | none =>
          refine lv_ifnonnullN C.x C.b dX8_call_74 ?_
          refine lv_null C.x C.b dX8_call_77 ?_
          have hP : CH D cy ad A (tP (tQ (tQ (tA (tI (tI (tI (tI κ 8 n104) 9 n105) 10 n106) 11 n107) 16 F108) 15 Z109) 17 Z110) P111) H := CH.cong hP rfl rfl rfl rfl rfl rfl rfl rfl rfl rfl rfl rfl rfl rfl rfl rfl rfl rfl rfl rfl rfl rfl rfl rfl rfl rfl rfl
          exact c_retq (v := none) (Or.inl ⟨_, rfl⟩) C hsz hsl ⟨n104, n105, n106, n107, F108, Z109, Z110, P111⟩ ⟨(hr5_0.trans hr103_0), hr103_1, hr103_2, nt_n, (vX8_call_79 n104 hr103_4_0 hr103_4_1)⟩ hP hS ⟨(vX8_call_80 κ k0 y1 y3 P13 b18 x19 b21 P111 kdy1 kc14 kc15 kc16 kc17 ex19 c20 kc112 kc113 kc114 kc115), (vX8_call_81 κ k0 y1 y3 P13 b18 x19 b21 P111 kdy1 kc14 kc15 kc16 kc17 ex19 c20 kc112 kc113 kc114 kc115)⟩ ⟨(vX8_call_82 κ k0 y1 y3 P13 b18 x19 b21 P111 kdy1 kc14 kc15 kc16 kc17 ex19 c20 kc112 kc113 kc114 kc115), (vX8_call_83 κ k0 y1 y3 P13 b18 x19 b21 P111 kdy1 kc14 kc15 kc16 kc17 ex19 c20 kc112 kc113 kc114 kc115)⟩ dX8_call_78
        | some b116 =>
          have hb116 : oT P111 b116 = 1 := hr103_3 b116 rfl
          refine lv_ifnonnull (tgt := 79) C.x C.b dX8_call_74 (by decide) ?_
          refine lv_aload_n C.x C.b dX8_call_79 rfl (lv_at hl 3 rfl) ?_
          refine pg_X5_5 (v := y3) C hP (t20 (a := k0) (t := 2) (hr103_0.T (hr5_0.T ht0 (by decide)) (by decide))) ((hr103_0.R (k := 5) (hr5_0.T ht0 (by decide)) (by decide) (by decide)).trans ((hr5_0.R (k := 5) ht0 (by decide) (by decide)).trans ey3)) cw_770 dX8_call_80 ?_
          cases y3 with
          | none =>
            refine lv_ifnonnullN C.x C.b dX8_call_83 ?_
            refine lv_aload_n C.x C.b dX8_call_86 rfl (lv_at hl 2 rfl) ?_
            refine cg_X8_0 C hP cw_677 dX8_call_87 ?_
            refine lv_goto (tgt := 104) C.x C.b dX8_call_90 (by decide) ?_
            refine lv_astore (lv' := [(5, .ref (ad 20)), (4, .ref b116), (3, .ref b18), (0, .ref (ad 3)), (1, .ref k0), (2, .int k1)]) C.x C.b dX8_call_104 hl (by decide) rfl (fun ls hl => ?_)
            refine lv_aload C.x C.b dX8_call_106 (lv_at hl 0 rfl) ?_
            refine lv_ifnonnull (tgt := 113) C.x C.b dX8_call_108 (by decide) ?_
            refine lv_aload_n C.x C.b dX8_call_113 rfl (lv_at hl 2 rfl) ?_
            obtain ⟨x118, ex118⟩ : ∃ z, oR P111 1 b18 = z := ⟨_, rfl⟩
            refine pg_X10_4 (v := x118) C hP (t20 (a := b18) (t := 1) (hr103_0.T hb18 (by decide))) ex118 cw_720 dX8_call_114 ?_
            have tx118 : NT P111 6 x118 := by rw [← ex118]; exact (hr103_1.t1 (hr103_0.T hb18 (by decide))).2.1
            cases x118 with
            | none =>
              refine lv_ifnonnullN C.x C.b dX8_call_117 ?_
              refine lv_aload_n C.x C.b dX8_call_120 rfl (lv_at hl 3 rfl) ?_
              refine lv_iconst (v := 5) C.x C.b dX8_call_121 (by decide +kernel) ?_
              refine c_callVq (n := 1) (As := [.int 5]) (rest := []) C hP hS hl.1 (NX8_fail l D cy ad A sz0 sa (tP (tQ (tQ (tA (tI (tI (tI (tI (tP (tQ (tQ (tA (tI (tI (tI (tI κ 8 n6) 9 n7) 10 n8) 11 n9) 16 F10) 15 Z11) 17 Z12) P13) 8 n104) 9 n105) 10 n106) 11 n107) 16 F108) 15 Z109) 17 Z110) P111) H.size (SLT H) C.f (fun q h => C.a q (Nat.le_trans hS.1 h)) (5 : Int32) ) ⟨cw_702, cw_695, by decide +kernel⟩ ⟨cw_703, cw_704, cw_705⟩ rfl (hP.recvS (k := 3) (ci := 10) C.K rfl rfl) rfl rfl (lv_room (Nat.le_of_ble_eq_true rfl)) ⟨(vX8_call_12 d ), (vX8_call_13 d )⟩ ⟨(vX8_call_84 κ k0 y1 P13 b18 x19 b21 P111 kdy1 kc14 kc15 kc16 kc17 ex19 c20 kc112 kc113 kc114 kc115), (vX8_call_85 κ k0 y1 P13 b18 x19 b21 P111 kdy1 kc14 kc15 kc16 kc17 ex19 c20 kc112 kc113 kc114 kc115)⟩ dX8_call_122 (fun r120 u H locs hr120 hP hS => ?_)
              obtain ⟨n121, rfl⟩ : ∃ z, z = u := ⟨_, rfl⟩
              have hP : CH D cy ad A (tI (tP (tQ (tQ (tA (tI (tI (tI (tI (tP (tQ (tQ (tA (tI (tI (tI (tI κ 8 n6) 9 n7) 10 n8) 11 n9) 16 F10) 15 Z11) 17 Z12) P13) 8 n104) 9 n105) 10 n106) 11 n107) 16 F108) 15 Z109) 17 Z110) P111) 9 n121) H := hP
              have hr120 : (NT P111 1 r120) := hr120
              have hP : CH D cy ad A (tP (tQ (tQ (tA (tI (tI (tI (tI κ 8 n104) 9 n121) 10 n106) 11 n107) 16 F108) 15 Z109) 17 Z110) P111) H := CH.cong hP rfl rfl rfl rfl rfl rfl rfl rfl rfl rfl rfl rfl rfl rfl rfl rfl rfl rfl rfl rfl rfl rfl rfl rfl rfl rfl rfl
              exact c_retq (v := r120) (Or.inl ⟨_, rfl⟩) C hsz hsl ⟨n104, n121, n106, n107, F108, Z109, Z110, P111⟩ ⟨(hr5_0.trans hr103_0), hr103_1, hr103_2, hr120, (vX8_call_79 n104 hr103_4_0 hr103_4_1)⟩ hP hS ⟨(vX8_call_84 κ k0 y1 P13 b18 x19 b21 P111 kdy1 kc14 kc15 kc16 kc17 ex19 c20 kc112 kc113 kc114 kc115), (vX8_call_85 κ k0 y1 P13 b18 x19 b21 P111 kdy1 kc14 kc15 kc16 kc17 ex19 c20 kc112 kc113 kc114 kc115)⟩ ⟨(vX8_call_86 κ k0 y1 P13 b18 x19 b21 P111 kdy1 kc14 kc15 kc16 kc17 ex19 c20 kc112 kc113 kc114 kc115), (vX8_call_87 κ k0 y1 P13 b18 x19 b21 P111 kdy1 kc14 kc15 kc16 kc17 ex19 c20 kc112 kc113 kc114 kc115)⟩ dX8_call_125
            | some b119 =>
              have hb119 : oT P111 b119 = 6 := tx118 b119 rfl
              refine lv_ifnonnull (tgt := 126) C.x C.b dX8_call_117 (by decide) ?_
              refine lv_aload_n C.x C.b dX8_call_126 rfl (lv_at hl 3 rfl) ?_
              refine cg_X8_2 C hP cw_683 dX8_call_127 ?_
              refine lv_aload_n C.x C.b dX8_call_130 rfl (lv_at hl 2 rfl) ?_
              refine pg_X10_4 (v := (some b119)) C hP (t20 (a := b18) (t := 1) (hr103_0.T hb18 (by decide))) ex118 cw_720 dX8_call_131 ?_
              obtain ⟨x122, ex122, hx122⟩ := (hr103_1.t6 hb119).1
              refine pg_X9_1 (v := some x122) C hP (t20 (a := b119) (t := 6) hb119) ex122 cw_771 dX8_call_134 ?_
              refine lv_aload_n C.x C.b dX8_call_137 rfl (lv_at hl 4 rfl) ?_
              refine lv_aload C.x C.b dX8_call_138 (lv_at hl 1 rfl) ?_
              refine lv_aload C.x C.b dX8_call_140 (lv_at hl 0 rfl) ?_
              refine lv_aload_n C.x C.b dX8_call_142 rfl (lv_at hl 3 rfl) ?_
              refine cg_X8_1 C hP cw_680 dX8_call_143 ?_
              refine c_callVq (n := 5) (As := [.ref x122, .ref k0, .ref b116, .ref (ad 20), .ref (ad 4)]) (rest := []) C hP hS hl.1 (NX3_find l D cy ad A sz0 sa (tP (tQ (tQ (tA (tI (tI (tI (tI (tP (tQ (tQ (tA (tI (tI (tI (tI κ 8 n6) 9 n7) 10 n8) 11 n9) 16 F10) 15 Z11) 17 Z12) P13) 8 n104) 9 n105) 10 n106) 11 n107) 16 F108) 15 Z109) 17 Z110) P111) H.size (SLT H) C.f (fun q h => C.a q (Nat.le_trans hS.1 h)) x122 k0 b116 (ad 20) hx122 (hr103_0.T (hr5_0.T ht0 (by decide)) (by decide)) hb116 hr103_2.a20 hr103_1 hr103_2) ⟨cw_775, cw_410, by decide +kernel⟩ ⟨cw_776, cw_777, cw_422⟩ rfl (hP.recvS (k := 5) (ci := 5) C.K rfl rfl) rfl rfl (lv_room (Nat.le_of_ble_eq_true rfl)) ⟨(vX8_call_18 d ), (vX8_call_19 d )⟩ ⟨(vX8_call_84 κ k0 y1 P13 b18 x19 b21 P111 kdy1 kc14 kc15 kc16 kc17 ex19 c20 kc112 kc113 kc114 kc115), (vX8_call_85 κ k0 y1 P13 b18 x19 b21 P111 kdy1 kc14 kc15 kc16 kc17 ex19 c20 kc112 kc113 kc114 kc115)⟩ dX8_call_146 (fun r123 u H locs hr123 hP hS => ?_)
              obtain ⟨Z124, n125, n126⟩ := u
              have hP : CH D cy ad A (tI (tI (tQ (tP (tQ (tQ (tA (tI (tI (tI (tI (tP (tQ (tQ (tA (tI (tI (tI (tI κ 8 n6) 9 n7) 10 n8) 11 n9) 16 F10) 15 Z11) 17 Z12) P13) 8 n104) 9 n105) 10 n106) 11 n107) 16 F108) 15 Z109) 17 Z110) P111) 15 Z124) 10 n125) 11 n126) H := hP
              have hr123 : (SV ad P111 (κ.2.1 0) (κ.2.1 1) (κ.2.2.2.1 6) (κ.2.2.2.1 7) (κ.2.2.2.1 8) (κ.2.2.2.1 13) Z124 Z110 (κ.1 1).toInt) ∧ (NT P111 5 r123) := hr123
              obtain ⟨hr123_0, hr123_1⟩ := hr123
              refine lq_astore (lv' := [(6, va_rf r123), (5, .ref (ad 20)), (4, .ref b116), (3, .ref b18), (0, .ref (ad 3)), (1, .ref k0), (2, .int k1)]) C.x C.b dX8_call_149 hl (by decide) (by cases r123 <;> rfl) (fun ls hl => ?_)
              refine lq_aload C.x C.b dX8_call_151 (lv_at hl 0 rfl) ?_
              cases r123 with
              | none =>
                refine lv_ifnonnullN C.x C.b dX8_call_153 ?_
                refine lv_aload_n C.x C.b dX8_call_156 rfl (lv_at hl 4 rfl) ?_
                refine lv_aload_n C.x C.b dX8_call_157 rfl (lv_at hl 4 rfl) ?_
                refine cg_X8_2 C hP cw_683 dX8_call_158 ?_
                refine cg_X3_2 (v := n126) C hP rfl cw_772 dX8_call_161 ?_
                refine c_callVq (n := 1) (As := [.int n126]) (rest := []) C hP hS hl.1 (NX8_fail l D cy ad A sz0 sa (tI (tI (tQ (tP (tQ (tQ (tA (tI (tI (tI (tI (tP (tQ (tQ (tA (tI (tI (tI (tI κ 8 n6) 9 n7) 10 n8) 11 n9) 16 F10) 15 Z11) 17 Z12) P13) 8 n104) 9 n105) 10 n106) 11 n107) 16 F108) 15 Z109) 17 Z110) P111) 15 Z124) 10 n125) 11 n126) H.size (SLT H) C.f (fun q h => C.a q (Nat.le_trans hS.1 h)) n126 ) ⟨cw_702, cw_695, by decide +kernel⟩ ⟨cw_703, cw_704, cw_705⟩ rfl (hP.recvS (k := 3) (ci := 10) C.K rfl rfl) rfl rfl (lv_room (Nat.le_of_ble_eq_true rfl)) ⟨(vX8_call_12 d ), (vX8_call_13 d )⟩ ⟨(vX8_call_88 κ k0 y1 P13 b18 x19 b21 P111 kdy1 kc14 kc15 kc16 kc17 ex19 c20 kc112 kc113 kc114 kc115), (vX8_call_89 κ k0 y1 P13 b18 x19 b21 P111 kdy1 kc14 kc15 kc16 kc17 ex19 c20 kc112 kc113 kc114 kc115)⟩ dX8_call_164 (fun r128 u H locs hr128 hP hS => ?_)
                obtain ⟨n129, rfl⟩ : ∃ z, z = u := ⟨_, rfl⟩
                have hP : CH D cy ad A (tI (tI (tI (tQ (tP (tQ (tQ (tA (tI (tI (tI (tI (tP (tQ (tQ (tA (tI (tI (tI (tI κ 8 n6) 9 n7) 10 n8) 11 n9) 16 F10) 15 Z11) 17 Z12) P13) 8 n104) 9 n105) 10 n106) 11 n107) 16 F108) 15 Z109) 17 Z110) P111) 15 Z124) 10 n125) 11 n126) 9 n129) H := hP
                have hr128 : (NT P111 1 r128) := hr128
                have hP : CH D cy ad A (tP (tQ (tQ (tA (tI (tI (tI (tI κ 8 n104) 9 n129) 10 n125) 11 n126) 16 F108) 15 Z124) 17 Z110) P111) H := CH.cong hP rfl rfl rfl rfl rfl rfl rfl rfl rfl rfl rfl rfl rfl rfl rfl rfl rfl rfl rfl rfl rfl rfl rfl rfl rfl rfl rfl
                exact c_retq (v := r128) (Or.inl ⟨_, rfl⟩) C hsz hsl ⟨n104, n129, n125, n126, F108, Z124, Z110, P111⟩ ⟨(hr5_0.trans hr103_0), hr103_1, hr123_0, hr128, (vX8_call_79 n104 hr103_4_0 hr103_4_1)⟩ hP hS ⟨(vX8_call_88 κ k0 y1 P13 b18 x19 b21 P111 kdy1 kc14 kc15 kc16 kc17 ex19 c20 kc112 kc113 kc114 kc115), (vX8_call_89 κ k0 y1 P13 b18 x19 b21 P111 kdy1 kc14 kc15 kc16 kc17 ex19 c20 kc112 kc113 kc114 kc115)⟩ ⟨(vX8_call_86 κ k0 y1 P13 b18 x19 b21 P111 kdy1 kc14 kc15 kc16 kc17 ex19 c20 kc112 kc113 kc114 kc115), (vX8_call_87 κ k0 y1 P13 b18 x19 b21 P111 kdy1 kc14 kc15 kc16 kc17 ex19 c20 kc112 kc113 kc114 kc115)⟩ dX8_call_167
              | some b127 =>
                have hb127 : oT P111 b127 = 5 := hr123_1 b127 rfl
                refine lv_ifnonnull (tgt := 168) C.x C.b dX8_call_153 (by decide) ?_
                refine lv_aload_n C.x C.b dX8_call_168 rfl (lv_at hl 4 rfl) ?_
                refine lv_aload C.x C.b dX8_call_169 (lv_at hl 2 rfl) ?_
                refine lv_aload C.x C.b dX8_call_171 (lv_at hl 0 rfl) ?_
                obtain ⟨x130, ex130⟩ : ∃ z, oI P111 14 b127 = z := ⟨_, rfl⟩
                refine pg_X7_1 (v := x130) C hP (t20 (a := b127) (t := 5) hb127) ex130 cw_773 dX8_call_173 ?_
                refine c_callVq (n := 2) (As := [.ref b116, .int x130]) (rest := []) C hP hS hl.1 (NX8_fit l D cy ad A sz0 sa (tI (tI (tQ (tP (tQ (tQ (tA (tI (tI (tI (tI (tP (tQ (tQ (tA (tI (tI (tI (tI κ 8 n6) 9 n7) 10 n8) 11 n9) 16 F10) 15 Z11) 17 Z12) P13) 8 n104) 9 n105) 10 n106) 11 n107) 16 F108) 15 Z109) 17 Z110) P111) 15 Z124) 10 n125) 11 n126) H.size (SLT H) C.f (fun q h => C.a q (Nat.le_trans hS.1 h)) b116 x130 hb116 hr103_1 hr123_0) ⟨cw_778, cw_781, by decide +kernel⟩ ⟨cw_779, cw_780, cw_705⟩ rfl (hP.recvS (k := 3) (ci := 10) C.K rfl rfl) rfl rfl (lv_room (Nat.le_of_ble_eq_true rfl)) ⟨(vX8_call_22 d ), (vX8_call_23 d )⟩ ⟨(vX8_call_90 κ k0 y1 P13 b18 x19 b21 P111 b127 x130 kdy1 kc14 kc15 kc16 kc17 ex19 c20 kc112 kc113 kc114 kc115 ex130), (vX8_call_91 κ k0 y1 P13 b18 x19 b21 P111 b127 x130 kdy1 kc14 kc15 kc16 kc17 ex19 c20 kc112 kc113 kc114 kc115 ex130)⟩ dX8_call_176 (fun r131 u H locs hr131 hP hS => ?_)
                obtain ⟨n132, P133⟩ := u
                have hP : CH D cy ad A (tP (tI (tI (tI (tQ (tP (tQ (tQ (tA (tI (tI (tI (tI (tP (tQ (tQ (tA (tI (tI (tI (tI κ 8 n6) 9 n7) 10 n8) 11 n9) 16 F10) 15 Z11) 17 Z12) P13) 8 n104) 9 n105) 10 n106) 11 n107) 16 F108) 15 Z109) 17 Z110) P111) 15 Z124) 10 n125) 11 n126) 9 n132) P133) H := hP
                have hr131 : (EX P111 P133) ∧ (PV sa P133) ∧ (SV ad P133 (κ.2.1 0) (κ.2.1 1) (κ.2.2.2.1 6) (κ.2.2.2.1 7) (κ.2.2.2.1 8) (κ.2.2.2.1 13) Z124 Z110 (κ.1 1).toInt) ∧ (NT P133 1 r131) := hr131
                obtain ⟨hr131_0, hr131_1, hr131_2, hr131_3⟩ := hr131
                have kc134 : cto P133 y1 = cto P111 y1 := hr131_0.ct (hr103_0.nt (hr5_0.nt ty1 (by decide)) (by decide)) (by decide)
                have kc135 : cto P133 (some k0) = cto P111 (some k0) := hr131_0.ct (nt_s (hr103_0.T (hr5_0.T ht0 (by decide)) (by decide))) (by decide)
                have kc136 : cto P133 (some b21) = cto P111 (some b21) := hr131_0.ct (nt_s (hr103_0.T (hr5_0.T hb21 (by decide)) (by decide))) (by decide)
                refine lq_astore (lv' := [(7, va_rf r131), (6, .ref b127), (5, .ref (ad 20)), (4, .ref b116), (3, .ref b18), (0, .ref (ad 3)), (1, .ref k0), (2, .int k1)]) C.x C.b dX8_call_179 hl (by decide) (by cases r131 <;> rfl) (fun ls hl => ?_)
                refine lq_aload C.x C.b dX8_call_181 (lv_at hl 0 rfl) ?_
                cases r131 with
                | none =>
                  refine lv_ifnonnullN C.x C.b dX8_call_183 ?_
                  refine lv_null C.x C.b dX8_call_186 ?_
                  refine lv_goto (tgt := 201) C.x C.b dX8_call_187 (by decide) ?_
                  refine lv_astoreN (lv' := [(8, .null), (7, .null), (6, .ref b127), (5, .ref (ad 20)), (4, .ref b116), (3, .ref b18), (0, .ref (ad 3)), (1, .ref k0), (2, .int k1)]) C.x C.b dX8_call_201 hl (by decide) rfl (fun ls hl => ?_)
                  refine lv_aloadN C.x C.b dX8_call_203 (lv_at hl 0 rfl) ?_
                  refine lv_ifnonnullN C.x C.b dX8_call_205 ?_
                  refine lv_null C.x C.b dX8_call_208 ?_
                  refine lv_goto (tgt := 223) C.x C.b dX8_call_209 (by decide) ?_
                  have hP : CH D cy ad A (tP (tQ (tQ (tA (tI (tI (tI (tI κ 8 n104) 9 n132) 10 n125) 11 n126) 16 F108) 15 Z124) 17 Z110) P133) H := CH.cong hP rfl rfl rfl rfl rfl rfl rfl rfl rfl rfl rfl rfl rfl rfl rfl rfl rfl rfl rfl rfl rfl rfl rfl rfl rfl rfl rfl
                  exact c_retq (v := none) (Or.inl ⟨_, rfl⟩) C hsz hsl ⟨n104, n132, n125, n126, F108, Z124, Z110, P133⟩ ⟨((hr5_0.trans hr103_0).trans hr131_0), hr131_1, hr131_2, nt_n, (vX8_call_79 n104 hr103_4_0 hr103_4_1)⟩ hP hS ⟨(vX8_call_92 κ k0 y1 P13 b18 x19 b21 P111 b127 x130 P133 kdy1 kc14 kc15 kc16 kc17 ex19 c20 kc112 kc113 kc114 kc115 ex130 kc134 kc135 kc136), (vX8_call_93 κ k0 y1 P13 b18 x19 b21 P111 b127 x130 P133 kdy1 kc14 kc15 kc16 kc17 ex19 c20 kc112 kc113 kc114 kc115 ex130 kc134 kc135 kc136)⟩ ⟨(vX8_call_94 κ k0 y1 P13 b18 x19 b21 P111 b127 x130 P133 kdy1 kc14 kc15 kc16 kc17 ex19 c20 kc112 kc113 kc114 kc115 ex130 kc134 kc135 kc136), (vX8_call_95 κ k0 y1 P13 b18 x19 b21 P111 b127 x130 P133 kdy1 kc14 kc15 kc16 kc17 ex19 c20 kc112 kc113 kc114 kc115 ex130 kc134 kc135 kc136)⟩ dX8_call_223
                | some b137 =>
                  have hb137 : oT P133 b137 = 1 := hr131_3 b137 rfl
                  refine lv_ifnonnull (tgt := 190) C.x C.b dX8_call_183 (by decide) ?_
                  refine lv_aload_n C.x C.b dX8_call_190 rfl (lv_at hl 5 rfl) ?_
                  refine lv_aload C.x C.b dX8_call_191 (lv_at hl 2 rfl) ?_
                  refine lv_aload C.x C.b dX8_call_193 (lv_at hl 1 rfl) ?_
                  obtain ⟨x138, ex138⟩ : ∃ z, oI P133 15 b127 = z := ⟨_, rfl⟩
                  refine pg_X7_2 (v := x138) C hP (t20 (a := b127) (t := 5) (hr131_0.T hb127 (by decide))) ex138 cw_774 dX8_call_195 ?_
                  refine c_callVq (n := 2) (As := [.ref (ad 20), .int x138]) (rest := []) C hP hS hl.1 (NX8_fit l D cy ad A sz0 sa (tP (tI (tI (tI (tQ (tP (tQ (tQ (tA (tI (tI (tI (tI (tP (tQ (tQ (tA (tI (tI (tI (tI κ 8 n6) 9 n7) 10 n8) 11 n9) 16 F10) 15 Z11) 17 Z12) P13) 8 n104) 9 n105) 10 n106) 11 n107) 16 F108) 15 Z109) 17 Z110) P111) 15 Z124) 10 n125) 11 n126) 9 n132) P133) H.size (SLT H) C.f (fun q h => C.a q (Nat.le_trans hS.1 h)) (ad 20) x138 (hr131_0.T hr103_2.a20 (by decide)) hr131_1 hr131_2) ⟨cw_778, cw_781, by decide +kernel⟩ ⟨cw_779, cw_780, cw_705⟩ rfl (hP.recvS (k := 3) (ci := 10) C.K rfl rfl) rfl rfl (lv_room (Nat.le_of_ble_eq_true rfl)) ⟨(vX8_call_22 d ), (vX8_call_23 d )⟩ ⟨(vX8_call_96 κ k0 y1 P13 b18 x19 b21 P111 b127 x130 P133 x138 kdy1 kc14 kc15 kc16 kc17 ex19 c20 kc112 kc113 kc114 kc115 ex130 kc134 kc135 kc136 ex138), (vX8_call_97 κ k0 y1 P13 b18 x19 b21 P111 b127 x130 P133 x138 kdy1 kc14 kc15 kc16 kc17 ex19 c20 kc112 kc113 kc114 kc115 ex130 kc134 kc135 kc136 ex138)⟩ dX8_call_198 (fun r139 u H locs hr139 hP hS => ?_)
                  obtain ⟨n140, P141⟩ := u
                  have hP : CH D cy ad A (tP (tI (tP (tI (tI (tI (tQ (tP (tQ (tQ (tA (tI (tI (tI (tI (tP (tQ (tQ (tA (tI (tI (tI (tI κ 8 n6) 9 n7) 10 n8) 11 n9) 16 F10) 15 Z11) 17 Z12) P13) 8 n104) 9 n105) 10 n106) 11 n107) 16 F108) 15 Z109) 17 Z110) P111) 15 Z124) 10 n125) 11 n126) 9 n132) P133) 9 n140) P141) H := hP
                  have hr139 : (EX P133 P141) ∧ (PV sa P141) ∧ (SV ad P141 (κ.2.1 0) (κ.2.1 1) (κ.2.2.2.1 6) (κ.2.2.2.1 7) (κ.2.2.2.1 8) (κ.2.2.2.1 13) Z124 Z110 (κ.1 1).toInt) ∧ (NT P141 1 r139) := hr139
                  obtain ⟨hr139_0, hr139_1, hr139_2, hr139_3⟩ := hr139
                  have kc142 : cto P141 y1 = cto P133 y1 := hr139_0.ct (hr131_0.nt (hr103_0.nt (hr5_0.nt ty1 (by decide)) (by decide)) (by decide)) (by decide)
                  have kc143 : cto P141 (some k0) = cto P133 (some k0) := hr139_0.ct (nt_s (hr131_0.T (hr103_0.T (hr5_0.T ht0 (by decide)) (by decide)) (by decide))) (by decide)
                  have kc144 : cto P141 (some b21) = cto P133 (some b21) := hr139_0.ct (nt_s (hr131_0.T (hr103_0.T (hr5_0.T hb21 (by decide)) (by decide)) (by decide))) (by decide)
                  refine lq_astore (lv' := [(8, va_rf r139), (7, .ref b137), (6, .ref b127), (5, .ref (ad 20)), (4, .ref b116), (3, .ref b18), (0, .ref (ad 3)), (1, .ref k0), (2, .int k1)]) C.x C.b dX8_call_201 hl (by decide) (by cases r139 <;> rfl) (fun ls hl => ?_)
                  refine lq_aload C.x C.b dX8_call_203 (lv_at hl 0 rfl) ?_
                  cases r139 with
                  | none =>
                    refine lv_ifnonnullN C.x C.b dX8_call_205 ?_
                    refine lv_null C.x C.b dX8_call_208 ?_
                    refine lv_goto (tgt := 223) C.x C.b dX8_call_209 (by decide) ?_
                    have hP : CH D cy ad A (tP (tQ (tQ (tA (tI (tI (tI (tI κ 8 n104) 9 n140) 10 n125) 11 n126) 16 F108) 15 Z124) 17 Z110) P141) H := CH.cong hP rfl rfl rfl rfl rfl rfl rfl rfl rfl rfl rfl rfl rfl rfl rfl rfl rfl rfl rfl rfl rfl rfl rfl rfl rfl rfl rfl
                    exact c_retq (v := none) (Or.inl ⟨_, rfl⟩) C hsz hsl ⟨n104, n140, n125, n126, F108, Z124, Z110, P141⟩ ⟨(((hr5_0.trans hr103_0).trans hr131_0).trans hr139_0), hr139_1, hr139_2, nt_n, (vX8_call_79 n104 hr103_4_0 hr103_4_1)⟩ hP hS ⟨(vX8_call_98 κ k0 y1 P13 b18 x19 b21 P111 b127 x130 P133 x138 P141 kdy1 kc14 kc15 kc16 kc17 ex19 c20 kc112 kc113 kc114 kc115 ex130 kc134 kc135 kc136 ex138 kc142 kc143 kc144), (vX8_call_99 κ k0 y1 P13 b18 x19 b21 P111 b127 x130 P133 x138 P141 kdy1 kc14 kc15 kc16 kc17 ex19 c20 kc112 kc113 kc114 kc115 ex130 kc134 kc135 kc136 ex138 kc142 kc143 kc144)⟩ ⟨(vX8_call_100 κ k0 y1 P13 b18 x19 b21 P111 b127 x130 P133 x138 P141 kdy1 kc14 kc15 kc16 kc17 ex19 c20 kc112 kc113 kc114 kc115 ex130 kc134 kc135 kc136 ex138 kc142 kc143 kc144), (vX8_call_101 κ k0 y1 P13 b18 x19 b21 P111 b127 x130 P133 x138 P141 kdy1 kc14 kc15 kc16 kc17 ex19 c20 kc112 kc113 kc114 kc115 ex130 kc134 kc135 kc136 ex138 kc142 kc143 kc144)⟩ dX8_call_223
                  | some b145 =>
                    have hb145 : oT P141 b145 = 1 := hr139_3 b145 rfl
                    refine lv_ifnonnull (tgt := 212) C.x C.b dX8_call_205 (by decide) ?_
                    refine lv_aload_n C.x C.b dX8_call_212 rfl (lv_at hl 6 rfl) ?_
                    refine lv_aload C.x C.b dX8_call_213 (lv_at hl 2 rfl) ?_
                    refine lv_aload_n C.x C.b dX8_call_215 rfl (lv_at hl 5 rfl) ?_
                    refine lv_aload C.x C.b dX8_call_216 (lv_at hl 1 rfl) ?_
                    refine lv_aload C.x C.b dX8_call_218 (lv_at hl 0 rfl) ?_
                    refine c_callVq (n := 4) (As := [.ref b127, .ref b18, .ref b137, .ref b145]) (rest := []) C hP hS hl.1 (NX8_act l D cy ad A sz0 sa (tP (tI (tP (tI (tI (tI (tQ (tP (tQ (tQ (tA (tI (tI (tI (tI (tP (tQ (tQ (tA (tI (tI (tI (tI κ 8 n6) 9 n7) 10 n8) 11 n9) 16 F10) 15 Z11) 17 Z12) P13) 8 n104) 9 n105) 10 n106) 11 n107) 16 F108) 15 Z109) 17 Z110) P111) 15 Z124) 10 n125) 11 n126) 9 n132) P133) 9 n140) P141) H.size (SLT H) C.f (fun q h => C.a q (Nat.le_trans hS.1 h)) b127 b18 b137 b145 (hr139_0.T (hr131_0.T hb127 (by decide)) (by decide)) (hr139_0.T (hr131_0.T (hr103_0.T hb18 (by decide)) (by decide)) (by decide)) (hr139_0.T hb137 (by decide)) hb145 hr139_1 hr139_2) ⟨cw_787, cw_790, by decide +kernel⟩ ⟨cw_788, cw_789, cw_705⟩ rfl (hP.recvS (k := 3) (ci := 10) C.K rfl rfl) rfl rfl (lv_room (Nat.le_of_ble_eq_true rfl)) ⟨(vX8_call_36 d ), (vX8_call_37 d )⟩ ⟨(vX8_call_102 κ k0 y1 P13 b18 x19 b21 P111 b127 x130 P133 x138 P141 kdy1 kc14 kc15 kc16 kc17 ex19 c20 kc112 kc113 kc114 kc115 ex130 kc134 kc135 kc136 ex138 kc142 kc143 kc144), (vX8_call_103 κ k0 y1 P13 b18 x19 b21 P111 b127 x130 P133 x138 P141 kdy1 kc14 kc15 kc16 kc17 ex19 c20 kc112 kc113 kc114 kc115 ex130 kc134 kc135 kc136 ex138 kc142 kc143 kc144)⟩ dX8_call_220 (fun r146 u H locs hr146 hP hS => ?_)
                    obtain ⟨n147, P148⟩ := u
                    have hP : CH D cy ad A (tP (tI (tP (tI (tP (tI (tI (tI (tQ (tP (tQ (tQ (tA (tI (tI (tI (tI (tP (tQ (tQ (tA (tI (tI (tI (tI κ 8 n6) 9 n7) 10 n8) 11 n9) 16 F10) 15 Z11) 17 Z12) P13) 8 n104) 9 n105) 10 n106) 11 n107) 16 F108) 15 Z109) 17 Z110) P111) 15 Z124) 10 n125) 11 n126) 9 n132) P133) 9 n140) P141) 9 n147) P148) H := hP
                    have hr146 : (EX P141 P148) ∧ (PV sa P148) ∧ (SV ad P148 (κ.2.1 0) (κ.2.1 1) (κ.2.2.2.1 6) (κ.2.2.2.1 7) (κ.2.2.2.1 8) (κ.2.2.2.1 13) Z124 Z110 (κ.1 1).toInt) ∧ (NT P148 1 r146) := hr146
                    obtain ⟨hr146_0, hr146_1, hr146_2, hr146_3⟩ := hr146
                    have kc149 : cto P148 y1 = cto P141 y1 := hr146_0.ct (hr139_0.nt (hr131_0.nt (hr103_0.nt (hr5_0.nt ty1 (by decide)) (by decide)) (by decide)) (by decide)) (by decide)
                    have kc150 : cto P148 (some k0) = cto P141 (some k0) := hr146_0.ct (nt_s (hr139_0.T (hr131_0.T (hr103_0.T (hr5_0.T ht0 (by decide)) (by decide)) (by decide)) (by decide))) (by decide)
                    have kc151 : cto P148 (some b21) = cto P141 (some b21) := hr146_0.ct (nt_s (hr139_0.T (hr131_0.T (hr103_0.T (hr5_0.T hb21 (by decide)) (by decide)) (by decide)) (by decide))) (by decide)
                    have hP : CH D cy ad A (tP (tQ (tQ (tA (tI (tI (tI (tI κ 8 n104) 9 n147) 10 n125) 11 n126) 16 F108) 15 Z124) 17 Z110) P148) H := CH.cong hP rfl rfl rfl rfl rfl rfl rfl rfl rfl rfl rfl rfl rfl rfl rfl rfl rfl rfl rfl rfl rfl rfl rfl rfl rfl rfl rfl
                    exact c_retq (v := r146) (Or.inl ⟨_, rfl⟩) C hsz hsl ⟨n104, n147, n125, n126, F108, Z124, Z110, P148⟩ ⟨((((hr5_0.trans hr103_0).trans hr131_0).trans hr139_0).trans hr146_0), hr146_1, hr146_2, hr146_3, (vX8_call_79 n104 hr103_4_0 hr103_4_1)⟩ hP hS ⟨(vX8_call_104 κ k0 y1 P13 b18 x19 b21 P111 b127 x130 P133 x138 P141 P148 kdy1 kc14 kc15 kc16 kc17 ex19 c20 kc112 kc113 kc114 kc115 ex130 kc134 kc135 kc136 ex138 kc142 kc143 kc144 kc149 kc150 kc151), (vX8_call_105 κ k0 y1 P13 b18 x19 b21 P111 b127 x130 P133 x138 P141 P148 kdy1 kc14 kc15 kc16 kc17 ex19 c20 kc112 kc113 kc114 kc115 ex130 kc134 kc135 kc136 ex138 kc142 kc143 kc144 kc149 kc150 kc151)⟩ ⟨(vX8_call_106 κ k0 y1 P13 b18 x19 b21 P111 b127 x130 P133 x138 P141 P148 kdy1 kc14 kc15 kc16 kc17 ex19 c20 kc112 kc113 kc114 kc115 ex130 kc134 kc135 kc136 ex138 kc142 kc143 kc144 kc149 kc150 kc151), (vX8_call_107 κ k0 y1 P13 b18 x19 b21 P111 b127 x130 P133 x138 P141 P148 kdy1 kc14 kc15 kc16 kc17 ex19 c20 kc112 kc113 kc114 kc115 ex130 kc134 kc135 kc136 ex138 kc142 kc143 kc144 kc149 kc150 kc151)⟩ dX8_call_223
          | some b117 =>
            have hb117 : oT κ.2.2.2.2 b117 = 2 := ty3 b117 rfl
            refine lv_ifnonnull (tgt := 93) C.x C.b dX8_call_83 (by decide) ?_
            refine lv_aload_n C.x C.b dX8_call_93 rfl (lv_at hl 2 rfl) ?_
            refine lv_aload_n C.x C.b dX8_call_94 rfl (lv_at hl 3 rfl) ?_
            refine pg_X5_5 (v := (some b117)) C hP (t20 (a := k0) (t := 2) (hr103_0.T (hr5_0.T ht0 (by decide)) (by decide))) ((hr103_0.R (k := 5) (hr5_0.T ht0 (by decide)) (by decide) (by decide)).trans ((hr5_0.R (k := 5) ht0 (by decide) (by decide)).trans ey3)) cw_770 dX8_call_95 ?_
            refine lv_iload_n C.x C.b dX8_call_98 rfl (lv_at hl 4 rfl) ?_
            refine lv_iconst (v := 1) C.x C.b dX8_call_99 (by decide +kernel) ?_
            refine lv_iadd C.x C.b dX8_call_100 ?_
            refine lv_topi (fun x152 ex152 => ?_)
            have tx152 : x152.toInt = k1.toInt + 1 := (vX8_call_108 k1 d x4 x102 x152 hpre_2 hpre_3 hpre_4 ex4 tx4 ex102 tx102 ex152)
            refine c_callVq (n := 2) (As := [.ref b117, .int x152]) (rest := []) C hP hS hl.1 (IH (tP (tQ (tQ (tA (tI (tI (tI (tI (tP (tQ (tQ (tA (tI (tI (tI (tI κ 8 n6) 9 n7) 10 n8) 11 n9) 16 F10) 15 Z11) 17 Z12) P13) 8 n104) 9 n105) 10 n106) 11 n107) 16 F108) 15 Z109) 17 Z110) P111) H.size (SLT H) C.f (fun q h => C.a q (Nat.le_trans hS.1 h)) (some b117) x152 (nt_s (hr103_0.T (hr5_0.T hb117 (by decide)) (by decide))) hr103_1 hr103_2 (vX8_call_109 k1 d x4 x102 n104 x152 hpre_2 hpre_3 hpre_4 ex4 tx4 ex102 tx102 hr103_4_0 hr103_4_1 ex152 tx152)) ⟨cw_711, cw_696, by decide +kernel⟩ ⟨cw_712, cw_713, cw_705⟩ rfl (hP.recvS (k := 3) (ci := 10) C.K rfl rfl) rfl rfl (lv_room (Nat.le_of_ble_eq_true rfl)) ⟨(vX8_call_3 d ), (vX8_call_4 d )⟩ ⟨(vX8_call_110 κ k0 y1 P13 b18 x19 b21 P111 b117 kdy1 kc14 kc15 kc16 kc17 ex19 c20 kc112 kc113 kc114 kc115), (vX8_call_111 κ k0 y1 P13 b18 x19 b21 P111 b117 kdy1 kc14 kc15 kc16 kc17 ex19 c20 kc112 kc113 kc114 kc115)⟩ dX8_call_101 (fun r153 u H locs hr153 hP hS => ?_)
            obtain ⟨n154, n155, n156, n157, F158, Z159, Z160, P161⟩ := u
            have hP : CH D cy ad A (tP (tQ (tQ (tA (tI (tI (tI (tI (tP (tQ (tQ (tA (tI (tI (tI (tI (tP (tQ (tQ (tA (tI (tI (tI (tI κ 8 n6) 9 n7) 10 n8) 11 n9) 16 F10) 15 Z11) 17 Z12) P13) 8 n104) 9 n105) 10 n106) 11 n107) 16 F108) 15 Z109) 17 Z110) P111) 8 n154) 9 n155) 10 n156) 11 n157) 16 F158) 15 Z159) 17 Z160) P161) H := hP
            have hr153 : (EX P111 P161) ∧ (PV sa P161) ∧ (SV ad P161 (κ.2.1 0) (κ.2.1 1) (κ.2.2.2.1 6) (κ.2.2.2.1 7) (κ.2.2.2.1 8) (κ.2.2.2.1 13) Z159 Z160 (κ.1 1).toInt) ∧ (NT P161 1 r153) ∧ (0 ≤ n154.toInt ∧ n154.toInt ≤ 12) := hr153
            obtain ⟨hr153_0, hr153_1, hr153_2, hr153_3, hr153_4⟩ := hr153
            have kc162 : cto P161 y1 = cto P111 y1 := hr153_0.ct (hr103_0.nt (hr5_0.nt ty1 (by decide)) (by decide)) (by decide)
            have kc163 : cto P161 (some k0) = cto P111 (some k0) := hr153_0.ct (nt_s (hr103_0.T (hr5_0.T ht0 (by decide)) (by decide))) (by decide)
            have kc164 : cto P161 (some b21) = cto P111 (some b21) := hr153_0.ct (nt_s (hr103_0.T (hr5_0.T hb21 (by decide)) (by decide))) (by decide)
            have kc165 : cto P161 (some b117) = cto P111 (some b117) := hr153_0.ct (nt_s (hr103_0.T (hr5_0.T hb117 (by decide)) (by decide))) (by decide)
            obtain ⟨hr153_4_0, hr153_4_1⟩ := hr153_4
            refine lq_astore (lv' := [(5, va_rf r153), (4, .ref b116), (3, .ref b18), (0, .ref (ad 3)), (1, .ref k0), (2, .int k1)]) C.x C.b dX8_call_104 hl (by decide) (by cases r153 <;> rfl) (fun ls hl => ?_)
            refine lq_aload C.x C.b dX8_call_106 (lv_at hl 0 rfl) ?_
            cases r153 with
            | none =>
              refine lv_ifnonnullN C.x C.b dX8_call_108 ?_
              refine lv_null C.x C.b dX8_call_111 ?_
              have hP : CH D cy ad A (tP (tQ (tQ (tA (tI (tI (tI (tI κ 8 n154) 9 n155) 10 n156) 11 n157) 16 F158) 15 Z159) 17 Z160) P161) H := CH.cong hP rfl rfl rfl rfl rfl rfl rfl rfl rfl rfl rfl rfl rfl rfl rfl rfl rfl rfl rfl rfl rfl rfl rfl rfl rfl rfl rfl
              exact c_retq (v := none) (Or.inl ⟨_, rfl⟩) C hsz hsl ⟨n154, n155, n156, n157, F158, Z159, Z160, P161⟩ ⟨((hr5_0.trans hr103_0).trans hr153_0), hr153_1, hr153_2, nt_n, (vX8_call_112 n154 hr153_4_0 hr153_4_1)⟩ hP hS ⟨(vX8_call_113 κ k0 y1 P13 b18 x19 b21 P111 b117 P161 kdy1 kc14 kc15 kc16 kc17 ex19 c20 kc112 kc113 kc114 kc115 kc162 kc163 kc164 kc165), (vX8_call_114 κ k0 y1 P13 b18 x19 b21 P111 b117 P161 kdy1 kc14 kc15 kc16 kc17 ex19 c20 kc112 kc113 kc114 kc115 kc162 kc163 kc164 kc165)⟩ ⟨(vX8_call_115 κ k0 y1 P13 b18 x19 b21 P111 b117 P161 kdy1 kc14 kc15 kc16 kc17 ex19 c20 kc112 kc113 kc114 kc115 kc162 kc163 kc164 kc165), (vX8_call_116 κ k0 y1 P13 b18 x19 b21 P111 b117 P161 kdy1 kc14 kc15 kc16 kc17 ex19 c20 kc112 kc113 kc114 kc115 kc162 kc163 kc164 kc165)⟩ dX8_call_112
            | some b166 =>
              have hb166 : oT P161 b166 = 1 := hr153_3 b166 rfl
              refine lv_ifnonnull (tgt := 113) C.x C.b dX8_call_108 (by decide) ?_
              refine lv_aload_n C.x C.b dX8_call_113 rfl (lv_at hl 2 rfl) ?_
              obtain ⟨x167, ex167⟩ : ∃ z, oR P161 1 b18 = z := ⟨_, rfl⟩
              refine pg_X10_4 (v := x167) C hP (t20 (a := b18) (t := 1) (hr153_0.T (hr103_0.T hb18 (by decide)) (by decide))) ex167 cw_720 dX8_call_114 ?_
              have tx167 : NT P161 6 x167 := by rw [← ex167]; exact (hr153_1.t1 (hr153_0.T (hr103_0.T hb18 (by decide)) (by decide))).2.1
              cases x167 with
              | none =>
                refine lv_ifnonnullN C.x C.b dX8_call_117 ?_
                refine lv_aload_n C.x C.b dX8_call_120 rfl (lv_at hl 3 rfl) ?_
                refine lv_iconst (v := 5) C.x C.b dX8_call_121 (by decide +kernel) ?_
                refine c_callVq (n := 1) (As := [.int 5]) (rest := []) C hP hS hl.1 (NX8_fail l D cy ad A sz0 sa (tP (tQ (tQ (tA (tI (tI (tI (tI (tP (tQ (tQ (tA (tI (tI (tI (tI (tP (tQ (tQ (tA (tI (tI (tI (tI κ 8 n6) 9 n7) 10 n8) 11 n9) 16 F10) 15 Z11) 17 Z12) P13) 8 n104) 9 n105) 10 n106) 11 n107) 16 F108) 15 Z109) 17 Z110) P111) 8 n154) 9 n155) 10 n156) 11 n157) 16 F158) 15 Z159) 17 Z160) P161) H.size (SLT H) C.f (fun q h => C.a q (Nat.le_trans hS.1 h)) (5 : Int32) ) ⟨cw_702, cw_695, by decide +kernel⟩ ⟨cw_703, cw_704, cw_705⟩ rfl (hP.recvS (k := 3) (ci := 10) C.K rfl rfl) rfl rfl (lv_room (Nat.le_of_ble_eq_true rfl)) ⟨(vX8_call_12 d ), (vX8_call_13 d )⟩ ⟨(vX8_call_117 κ k0 y1 P13 b18 x19 b21 P111 b117 P161 kdy1 kc14 kc15 kc16 kc17 ex19 c20 kc112 kc113 kc114 kc115 kc162 kc163 kc164 kc165), (vX8_call_118 κ k0 y1 P13 b18 x19 b21 P111 b117 P161 kdy1 kc14 kc15 kc16 kc17 ex19 c20 kc112 kc113 kc114 kc115 kc162 kc163 kc164 kc165)⟩ dX8_call_122 (fun r169 u H locs hr169 hP hS => ?_)
                obtain ⟨n170, rfl⟩ : ∃ z, z = u := ⟨_, rfl⟩
                have hP : CH D cy ad A (tI (tP (tQ (tQ (tA (tI (tI (tI (tI (tP (tQ (tQ (tA (tI (tI (tI (tI (tP (tQ (tQ (tA (tI (tI (tI (tI κ 8 n6) 9 n7) 10 n8) 11 n9) 16 F10) 15 Z11) 17 Z12) P13) 8 n104) 9 n105) 10 n106) 11 n107) 16 F108) 15 Z109) 17 Z110) P111) 8 n154) 9 n155) 10 n156) 11 n157) 16 F158) 15 Z159) 17 Z160) P161) 9 n170) H := hP
                have hr169 : (NT P161 1 r169) := hr169
                have hP : CH D cy ad A (tP (tQ (tQ (tA (tI (tI (tI (tI κ 8 n154) 9 n170) 10 n156) 11 n157) 16 F158) 15 Z159) 17 Z160) P161) H := CH.cong hP rfl rfl rfl rfl rfl rfl rfl rfl rfl rfl rfl rfl rfl rfl rfl rfl rfl rfl rfl rfl rfl rfl rfl rfl rfl rfl rfl
                exact c_retq (v := r169) (Or.inl ⟨_, rfl⟩) C hsz hsl ⟨n154, n170, n156, n157, F158, Z159, Z160, P161⟩ ⟨((hr5_0.trans hr103_0).trans hr153_0), hr153_1, hr153_2, hr169, (vX8_call_112 n154 hr153_4_0 hr153_4_1)⟩ hP hS ⟨(vX8_call_117 κ k0 y1 P13 b18 x19 b21 P111 b117 P161 kdy1 kc14 kc15 kc16 kc17 ex19 c20 kc112 kc113 kc114 kc115 kc162 kc163 kc164 kc165), (vX8_call_118 κ k0 y1 P13 b18 x19 b21 P111 b117 P161 kdy1 kc14 kc15 kc16 kc17 ex19 c20 kc112 kc113 kc114 kc115 kc162 kc163 kc164 kc165)⟩ ⟨(vX8_call_115 κ k0 y1 P13 b18 x19 b21 P111 b117 P161 kdy1 kc14 kc15 kc16 kc17 ex19 c20 kc112 kc113 kc114 kc115 kc162 kc163 kc164 kc165), (vX8_call_116 κ k0 y1 P13 b18 x19 b21 P111 b117 P161 kdy1 kc14 kc15 kc16 kc17 ex19 c20 kc112 kc113 kc114 kc115 kc162 kc163 kc164 kc165)⟩ dX8_call_125
              | some b168 =>
                have hb168 : oT P161 b168 = 6 := tx167 b168 rfl
                refine lv_ifnonnull (tgt := 126) C.x C.b dX8_call_117 (by decide) ?_
                refine lv_aload_n C.x C.b dX8_call_126 rfl (lv_at hl 3 rfl) ?_
                refine cg_X8_2 C hP cw_683 dX8_call_127 ?_
                refine lv_aload_n C.x C.b dX8_call_130 rfl (lv_at hl 2 rfl) ?_
                refine pg_X10_4 (v := (some b168)) C hP (t20 (a := b18) (t := 1) (hr153_0.T (hr103_0.T hb18 (by decide)) (by decide))) ex167 cw_720 dX8_call_131 ?_
                obtain ⟨x171, ex171, hx171⟩ := (hr153_1.t6 hb168).1
                refine pg_X9_1 (v := some x171) C hP (t20 (a := b168) (t := 6) hb168) ex171 cw_771 dX8_call_134 ?_
                refine lv_aload_n C.x C.b dX8_call_137 rfl (lv_at hl 4 rfl) ?_
                refine lv_aload C.x C.b dX8_call_138 (lv_at hl 1 rfl) ?_
                refine lv_aload C.x C.b dX8_call_140 (lv_at hl 0 rfl) ?_
                refine lv_aload_n C.x C.b dX8_call_142 rfl (lv_at hl 3 rfl) ?_
                refine cg_X8_1 C hP cw_680 dX8_call_143 ?_
                refine c_callVq (n := 5) (As := [.ref x171, .ref k0, .ref b116, .ref b166, .ref (ad 4)]) (rest := []) C hP hS hl.1 (NX3_find l D cy ad A sz0 sa (tP (tQ (tQ (tA (tI (tI (tI (tI (tP (tQ (tQ (tA (tI (tI (tI (tI (tP (tQ (tQ (tA (tI (tI (tI (tI κ 8 n6) 9 n7) 10 n8) 11 n9) 16 F10) 15 Z11) 17 Z12) P13) 8 n104) 9 n105) 10 n106) 11 n107) 16 F108) 15 Z109) 17 Z110) P111) 8 n154) 9 n155) 10 n156) 11 n157) 16 F158) 15 Z159) 17 Z160) P161) H.size (SLT H) C.f (fun q h => C.a q (Nat.le_trans hS.1 h)) x171 k0 b116 b166 hx171 (hr153_0.T (hr103_0.T (hr5_0.T ht0 (by decide)) (by decide)) (by decide)) (hr153_0.T hb116 (by decide)) hb166 hr153_1 hr153_2) ⟨cw_775, cw_410, by decide +kernel⟩ ⟨cw_776, cw_777, cw_422⟩ rfl (hP.recvS (k := 5) (ci := 5) C.K rfl rfl) rfl rfl (lv_room (Nat.le_of_ble_eq_true rfl)) ⟨(vX8_call_18 d ), (vX8_call_19 d )⟩ ⟨(vX8_call_117 κ k0 y1 P13 b18 x19 b21 P111 b117 P161 kdy1 kc14 kc15 kc16 kc17 ex19 c20 kc112 kc113 kc114 kc115 kc162 kc163 kc164 kc165), (vX8_call_118 κ k0 y1 P13 b18 x19 b21 P111 b117 P161 kdy1 kc14 kc15 kc16 kc17 ex19 c20 kc112 kc113 kc114 kc115 kc162 kc163 kc164 kc165)⟩ dX8_call_146 (fun r172 u H locs hr172 hP hS => ?_)
                obtain ⟨Z173, n174, n175⟩ := u
                have hP : CH D cy ad A (tI (tI (tQ (tP (tQ (tQ (tA (tI (tI (tI (tI (tP (tQ (tQ (tA (tI (tI (tI (tI (tP (tQ (tQ (tA (tI (tI (tI (tI κ 8 n6) 9 n7) 10 n8) 11 n9) 16 F10) 15 Z11) 17 Z12) P13) 8 n104) 9 n105) 10 n106) 11 n107) 16 F108) 15 Z109) 17 Z110) P111) 8 n154) 9 n155) 10 n156) 11 n157) 16 F158) 15 Z159) 17 Z160) P161) 15 Z173) 10 n174) 11 n175) H := hP
                have hr172 : (SV ad P161 (κ.2.1 0) (κ.2.1 1) (κ.2.2.2.1 6) (κ.2.2.2.1 7) (κ.2.2.2.1 8) (κ.2.2.2.1 13) Z173 Z160 (κ.1 1).toInt) ∧ (NT P161 5 r172) := hr172
                obtain ⟨hr172_0, hr172_1⟩ := hr172
                refine lq_astore (lv' := [(6, va_rf r172), (5, .ref b166), (4, .ref b116), (3, .ref b18), (0, .ref (ad 3)), (1, .ref k0), (2, .int k1)]) C.x C.b dX8_call_149 hl (by decide) (by cases r172 <;> rfl) (fun ls hl => ?_)
                refine lq_aload C.x C.b dX8_call_151 (lv_at hl 0 rfl) ?_
                cases r172 with
                | none =>
                  refine lv_ifnonnullN C.x C.b dX8_call_153 ?_
                  refine lv_aload_n C.x C.b dX8_call_156 rfl (lv_at hl 4 rfl) ?_
                  refine lv_aload_n C.x C.b dX8_call_157 rfl (lv_at hl 4 rfl) ?_
                  refine cg_X8_2 C hP cw_683 dX8_call_158 ?_
                  refine cg_X3_2 (v := n175) C hP rfl cw_772 dX8_call_161 ?_
                  refine c_callVq (n := 1) (As := [.int n175]) (rest := []) C hP hS hl.1 (NX8_fail l D cy ad A sz0 sa (tI (tI (tQ (tP (tQ (tQ (tA (tI (tI (tI (tI (tP (tQ (tQ (tA (tI (tI (tI (tI (tP (tQ (tQ (tA (tI (tI (tI (tI κ 8 n6) 9 n7) 10 n8) 11 n9) 16 F10) 15 Z11) 17 Z12) P13) 8 n104) 9 n105) 10 n106) 11 n107) 16 F108) 15 Z109) 17 Z110) P111) 8 n154) 9 n155) 10 n156) 11 n157) 16 F158) 15 Z159) 17 Z160) P161) 15 Z173) 10 n174) 11 n175) H.size (SLT H) C.f (fun q h => C.a q (Nat.le_trans hS.1 h)) n175 ) ⟨cw_702, cw_695, by decide +kernel⟩ ⟨cw_703, cw_704, cw_705⟩ rfl (hP.recvS (k := 3) (ci := 10) C.K rfl rfl) rfl rfl (lv_room (Nat.le_of_ble_eq_true rfl)) ⟨(vX8_call_12 d ), (vX8_call_13 d )⟩ ⟨(vX8_call_119 κ k0 y1 P13 b18 x19 b21 P111 b117 P161 kdy1 kc14 kc15 kc16 kc17 ex19 c20 kc112 kc113 kc114 kc115 kc162 kc163 kc164 kc165), (vX8_call_120 κ k0 y1 P13 b18 x19 b21 P111 b117 P161 kdy1 kc14 kc15 kc16 kc17 ex19 c20 kc112 kc113 kc114 kc115 kc162 kc163 kc164 kc165)⟩ dX8_call_164 (fun r177 u H locs hr177 hP hS => ?_)
                  obtain ⟨n178, rfl⟩ : ∃ z, z = u := ⟨_, rfl⟩
                  have hP : CH D cy ad A (tI (tI (tI (tQ (tP (tQ (tQ (tA (tI (tI (tI (tI (tP (tQ (tQ (tA (tI (tI (tI (tI (tP (tQ (tQ (tA (tI (tI (tI (tI κ 8 n6) 9 n7) 10 n8) 11 n9) 16 F10) 15 Z11) 17 Z12) P13) 8 n104) 9 n105) 10 n106) 11 n107) 16 F108) 15 Z109) 17 Z110) P111) 8 n154) 9 n155) 10 n156) 11 n157) 16 F158) 15 Z159) 17 Z160) P161) 15 Z173) 10 n174) 11 n175) 9 n178) H := hP
                  have hr177 : (NT P161 1 r177) := hr177
                  have hP : CH D cy ad A (tP (tQ (tQ (tA (tI (tI (tI (tI κ 8 n154) 9 n178) 10 n174) 11 n175) 16 F158) 15 Z173) 17 Z160) P161) H := CH.cong hP rfl rfl rfl rfl rfl rfl rfl rfl rfl rfl rfl rfl rfl rfl rfl rfl rfl rfl rfl rfl rfl rfl rfl rfl rfl rfl rfl
                  exact c_retq (v := r177) (Or.inl ⟨_, rfl⟩) C hsz hsl ⟨n154, n178, n174, n175, F158, Z173, Z160, P161⟩ ⟨((hr5_0.trans hr103_0).trans hr153_0), hr153_1, hr172_0, hr177, (vX8_call_112 n154 hr153_4_0 hr153_4_1)⟩ hP hS ⟨(vX8_call_119 κ k0 y1 P13 b18 x19 b21 P111 b117 P161 kdy1 kc14 kc15 kc16 kc17 ex19 c20 kc112 kc113 kc114 kc115 kc162 kc163 kc164 kc165), (vX8_call_120 κ k0 y1 P13 b18 x19 b21 P111 b117 P161 kdy1 kc14 kc15 kc16 kc17 ex19 c20 kc112 kc113 kc114 kc115 kc162 kc163 kc164 kc165)⟩ ⟨(vX8_call_115 κ k0 y1 P13 b18 x19 b21 P111 b117 P161 kdy1 kc14 kc15 kc16 kc17 ex19 c20 kc112 kc113 kc114 kc115 kc162 kc163 kc164 kc165), (vX8_call_116 κ k0 y1 P13 b18 x19 b21 P111 b117 P161 kdy1 kc14 kc15 kc16 kc17 ex19 c20 kc112 kc113 kc114 kc115 kc162 kc163 kc164 kc165)⟩ dX8_call_167
                | some b176 =>
                  have hb176 : oT P161 b176 = 5 := hr172_1 b176 rfl
                  refine lv_ifnonnull (tgt := 168) C.x C.b dX8_call_153 (by decide) ?_
                  refine lv_aload_n C.x C.b dX8_call_168 rfl (lv_at hl 4 rfl) ?_
                  refine lv_aload C.x C.b dX8_call_169 (lv_at hl 2 rfl) ?_
                  refine lv_aload C.x C.b dX8_call_171 (lv_at hl 0 rfl) ?_
                  obtain ⟨x179, ex179⟩ : ∃ z, oI P161 14 b176 = z := ⟨_, rfl⟩
                  refine pg_X7_1 (v := x179) C hP (t20 (a := b176) (t := 5) hb176) ex179 cw_773 dX8_call_173 ?_
                  refine c_callVq (n := 2) (As := [.ref b116, .int x179]) (rest := []) C hP hS hl.1 (NX8_fit l D cy ad A sz0 sa (tI (tI (tQ (tP (tQ (tQ (tA (tI (tI (tI (tI (tP (tQ (tQ (tA (tI (tI (tI (tI (tP (tQ (tQ (tA (tI (tI (tI (tI κ 8 n6) 9 n7) 10 n8) 11 n9) 16 F10) 15 Z11) 17 Z12) P13) 8 n104) 9 n105) 10 n106) 11 n107) 16 F108) 15 Z109) 17 Z110) P111) 8 n154) 9 n155) 10 n156) 11 n157) 16 F158) 15 Z159) 17 Z160) P161) 15 Z173) 10 n174) 11 n175) H.size (SLT H) C.f (fun q h => C.a q (Nat.le_trans hS.1 h)) b116 x179 (hr153_0.T hb116 (by decide)) hr153_1 hr172_0) ⟨cw_778, cw_781, by decide +kernel⟩ ⟨cw_779, cw_780, cw_705⟩ rfl (hP.recvS (k := 3) (ci := 10) C.K rfl rfl) rfl rfl (lv_room (Nat.le_of_ble_eq_true rfl)) ⟨(vX8_call_22 d ), (vX8_call_23 d )⟩ ⟨(vX8_call_121 κ k0 y1 P13 b18 x19 b21 P111 b117 P161 b176 x179 kdy1 kc14 kc15 kc16 kc17 ex19 c20 kc112 kc113 kc114 kc115 kc162 kc163 kc164 kc165 ex179), (vX8_call_122 κ k0 y1 P13 b18 x19 b21 P111 b117 P161 b176 x179 kdy1 kc14 kc15 kc16 kc17 ex19 c20 kc112 kc113 kc114 kc115 kc162 kc163 kc164 kc165 ex179)⟩ dX8_call_176 (fun r180 u H locs hr180 hP hS => ?_)
                  obtain ⟨n181, P182⟩ := u
                  have hP : CH D cy ad A (tP (tI (tI (tI (tQ (tP (tQ (tQ (tA (tI (tI (tI (tI (tP (tQ (tQ (tA (tI (tI (tI (tI (tP (tQ (tQ (tA (tI (tI (tI (tI κ 8 n6) 9 n7) 10 n8) 11 n9) 16 F10) 15 Z11) 17 Z12) P13) 8 n104) 9 n105) 10 n106) 11 n107) 16 F108) 15 Z109) 17 Z110) P111) 8 n154) 9 n155) 10 n156) 11 n157) 16 F158) 15 Z159) 17 Z160) P161) 15 Z173) 10 n174) 11 n175) 9 n181) P182) H := hP
                  have hr180 : (EX P161 P182) ∧ (PV sa P182) ∧ (SV ad P182 (κ.2.1 0) (κ.2.1 1) (κ.2.2.2.1 6) (κ.2.2.2.1 7) (κ.2.2.2.1 8) (κ.2.2.2.1 13) Z173 Z160 (κ.1 1).toInt) ∧ (NT P182 1 r180) := hr180
                  obtain ⟨hr180_0, hr180_1, hr180_2, hr180_3⟩ := hr180
                  have kc183 : cto P182 y1 = cto P161 y1 := hr180_0.ct (hr153_0.nt (hr103_0.nt (hr5_0.nt ty1 (by decide)) (by decide)) (by decide)) (by decide)
                  have kc184 : cto P182 (some k0) = cto P161 (some k0) := hr180_0.ct (nt_s (hr153_0.T (hr103_0.T (hr5_0.T ht0 (by decide)) (by decide)) (by decide))) (by decide)
                  have kc185 : cto P182 (some b21) = cto P161 (some b21) := hr180_0.ct (nt_s (hr153_0.T (hr103_0.T (hr5_0.T hb21 (by decide)) (by decide)) (by decide))) (by decide)
                  have kc186 : cto P182 (some b117) = cto P161 (some b117) := hr180_0.ct (nt_s (hr153_0.T (hr103_0.T (hr5_0.T hb117 (by decide)) (by decide)) (by decide))) (by decide)
                  refine lq_astore (lv' := [(7, va_rf r180), (6, .ref b176), (5, .ref b166), (4, .ref b116), (3, .ref b18), (0, .ref (ad 3)), (1, .ref k0), (2, .int k1)]) C.x C.b dX8_call_179 hl (by decide) (by cases r180 <;> rfl) (fun ls hl => ?_)
                  refine lq_aload C.x C.b dX8_call_181 (lv_at hl 0 rfl) ?_
                  cases r180 with
                  | none =>
                    refine lv_ifnonnullN C.x C.b dX8_call_183 ?_
                    refine lv_null C.x C.b dX8_call_186 ?_
                    refine lv_goto (tgt := 201) C.x C.b dX8_call_187 (by decide) ?_
                    refine lv_astoreN (lv' := [(8, .null), (7, .null), (6, .ref b176), (5, .ref b166), (4, .ref b116), (3, .ref b18), (0, .ref (ad 3)), (1, .ref k0), (2, .int k1)]) C.x C.b dX8_call_201 hl (by decide) rfl (fun ls hl => ?_)
                    refine lv_aloadN C.x C.b dX8_call_203 (lv_at hl 0 rfl) ?_
                    refine lv_ifnonnullN C.x C.b dX8_call_205 ?_
                    refine lv_null C.x C.b dX8_call_208 ?_
                    refine lv_goto (tgt := 223) C.x C.b dX8_call_209 (by decide) ?_
                    have hP : CH D cy ad A (tP (tQ (tQ (tA (tI (tI (tI (tI κ 8 n154) 9 n181) 10 n174) 11 n175) 16 F158) 15 Z173) 17 Z160) P182) H := CH.cong hP rfl rfl rfl rfl rfl rfl rfl rfl rfl rfl rfl rfl rfl rfl rfl rfl rfl rfl rfl rfl rfl rfl rfl rfl rfl rfl rfl
                    exact c_retq (v := none) (Or.inl ⟨_, rfl⟩) C hsz hsl ⟨n154, n181, n174, n175, F158, Z173, Z160, P182⟩ ⟨(((hr5_0.trans hr103_0).trans hr153_0).trans hr180_0), hr180_1, hr180_2, nt_n, (vX8_call_112 n154 hr153_4_0 hr153_4_1)⟩ hP hS ⟨(vX8_call_123 κ k0 y1 P13 b18 x19 b21 P111 b117 P161 b176 x179 P182 kdy1 kc14 kc15 kc16 kc17 ex19 c20 kc112 kc113 kc114 kc115 kc162 kc163 kc164 kc165 ex179 kc183 kc184 kc185 kc186), (vX8_call_124 κ k0 y1 P13 b18 x19 b21 P111 b117 P161 b176 x179 P182 kdy1 kc14 kc15 kc16 kc17 ex19 c20 kc112 kc113 kc114 kc115 kc162 kc163 kc164 kc165 ex179 kc183 kc184 kc185 kc186)⟩ ⟨(vX8_call_125 κ k0 y1 P13 b18 x19 b21 P111 b117 P161 b176 x179 P182 kdy1 kc14 kc15 kc16 kc17 ex19 c20 kc112 kc113 kc114 kc115 kc162 kc163 kc164 kc165 ex179 kc183 kc184 kc185 kc186), (vX8_call_126 κ k0 y1 P13 b18 x19 b21 P111 b117 P161 b176 x179 P182 kdy1 kc14 kc15 kc16 kc17 ex19 c20 kc112 kc113 kc114 kc115 kc162 kc163 kc164 kc165 ex179 kc183 kc184 kc185 kc186)⟩ dX8_call_223
                  | some b187 =>
                    have hb187 : oT P182 b187 = 1 := hr180_3 b187 rfl
                    refine lv_ifnonnull (tgt := 190) C.x C.b dX8_call_183 (by decide) ?_
                    refine lv_aload_n C.x C.b dX8_call_190 rfl (lv_at hl 5 rfl) ?_
                    refine lv_aload C.x C.b dX8_call_191 (lv_at hl 2 rfl) ?_
                    refine lv_aload C.x C.b dX8_call_193 (lv_at hl 1 rfl) ?_
                    obtain ⟨x188, ex188⟩ : ∃ z, oI P182 15 b176 = z := ⟨_, rfl⟩
                    refine pg_X7_2 (v := x188) C hP (t20 (a := b176) (t := 5) (hr180_0.T hb176 (by decide))) ex188 cw_774 dX8_call_195 ?_
                    refine c_callVq (n := 2) (As := [.ref b166, .int x188]) (rest := []) C hP hS hl.1 (NX8_fit l D cy ad A sz0 sa (tP (tI (tI (tI (tQ (tP (tQ (tQ (tA (tI (tI (tI (tI (tP (tQ (tQ (tA (tI (tI (tI (tI (tP (tQ (tQ (tA (tI (tI (tI (tI κ 8 n6) 9 n7) 10 n8) 11 n9) 16 F10) 15 Z11) 17 Z12) P13) 8 n104) 9 n105) 10 n106) 11 n107) 16 F108) 15 Z109) 17 Z110) P111) 8 n154) 9 n155) 10 n156) 11 n157) 16 F158) 15 Z159) 17 Z160) P161) 15 Z173) 10 n174) 11 n175) 9 n181) P182) H.size (SLT H) C.f (fun q h => C.a q (Nat.le_trans hS.1 h)) b166 x188 (hr180_0.T hb166 (by decide)) hr180_1 hr180_2) ⟨cw_778, cw_781, by decide +kernel⟩ ⟨cw_779, cw_780, cw_705⟩ rfl (hP.recvS (k := 3) (ci := 10) C.K rfl rfl) rfl rfl (lv_room (Nat.le_of_ble_eq_true rfl)) ⟨(vX8_call_22 d ), (vX8_call_23 d )⟩ ⟨(vX8_call_127 κ k0 y1 P13 b18 x19 b21 P111 b117 P161 b176 x179 P182 x188 kdy1 kc14 kc15 kc16 kc17 ex19 c20 kc112 kc113 kc114 kc115 kc162 kc163 kc164 kc165 ex179 kc183 kc184 kc185 kc186 ex188), (vX8_call_128 κ k0 y1 P13 b18 x19 b21 P111 b117 P161 b176 x179 P182 x188 kdy1 kc14 kc15 kc16 kc17 ex19 c20 kc112 kc113 kc114 kc115 kc162 kc163 kc164 kc165 ex179 kc183 kc184 kc185 kc186 ex188)⟩ dX8_call_198 (fun r189 u H locs hr189 hP hS => ?_)
                    obtain ⟨n190, P191⟩ := u
                    have hP : CH D cy ad A (tP (tI (tP (tI (tI (tI (tQ (tP (tQ (tQ (tA (tI (tI (tI (tI (tP (tQ (tQ (tA (tI (tI (tI (tI (tP (tQ (tQ (tA (tI (tI (tI (tI κ 8 n6) 9 n7) 10 n8) 11 n9) 16 F10) 15 Z11) 17 Z12) P13) 8 n104) 9 n105) 10 n106) 11 n107) 16 F108) 15 Z109) 17 Z110) P111) 8 n154) 9 n155) 10 n156) 11 n157) 16 F158) 15 Z159) 17 Z160) P161) 15 Z173) 10 n174) 11 n175) 9 n181) P182) 9 n190) P191) H := hP
                    have hr189 : (EX P182 P191) ∧ (PV sa P191) ∧ (SV ad P191 (κ.2.1 0) (κ.2.1 1) (κ.2.2.2.1 6) (κ.2.2.2.1 7) (κ.2.2.2.1 8) (κ.2.2.2.1 13) Z173 Z160 (κ.1 1).toInt) ∧ (NT P191 1 r189) := hr189
                    obtain ⟨hr189_0, hr189_1, hr189_2, hr189_3⟩ := hr189
                    have kc192 : cto P191 y1 = cto P182 y1 := hr189_0.ct (hr180_0.nt (hr153_0.nt (hr103_0.nt (hr5_0.nt ty1 (by decide)) (by decide)) (by decide)) (by decide)) (by decide)
                    have kc193 : cto P191 (some k0) = cto P182 (some k0) := hr189_0.ct (nt_s (hr180_0.T (hr153_0.T (hr103_0.T (hr5_0.T ht0 (by decide)) (by decide)) (by decide)) (by decide))) (by decide)
                    have kc194 : cto P191 (some b21) = cto P182 (some b21) := hr189_0.ct (nt_s (hr180_0.T (hr153_0.T (hr103_0.T (hr5_0.T hb21 (by decide)) (by decide)) (by decide)) (by decide))) (by decide)
                    have kc195 : cto P191 (some b117) = cto P182 (some b117) := hr189_0.ct (nt_s (hr180_0.T (hr153_0.T (hr103_0.T (hr5_0.T hb117 (by decide)) (by decide)) (by decide)) (by decide))) (by decide)
                    refine lq_astore (lv' := [(8, va_rf r189), (7, .ref b187), (6, .ref b176), (5, .ref b166), (4, .ref b116), (3, .ref b18), (0, .ref (ad 3)), (1, .ref k0), (2, .int k1)]) C.x C.b dX8_call_201 hl (by decide) (by cases r189 <;> rfl) (fun ls hl => ?_)
                    refine lq_aload C.x C.b dX8_call_203 (lv_at hl 0 rfl) ?_
                    cases r189 with
                    | none =>
                      refine lv_ifnonnullN C.x C.b dX8_call_205 ?_
                      refine lv_null C.x C.b dX8_call_208 ?_
                      refine lv_goto (tgt := 223) C.x C.b dX8_call_209 (by decide) ?_
                      have hP : CH D cy ad A (tP (tQ (tQ (tA (tI (tI (tI (tI κ 8 n154) 9 n190) 10 n174) 11 n175) 16 F158) 15 Z173) 17 Z160) P191) H := CH.cong hP rfl rfl rfl rfl rfl rfl rfl rfl rfl rfl rfl rfl rfl rfl rfl rfl rfl rfl rfl rfl rfl rfl rfl rfl rfl rfl rfl
                      exact c_retq (v := none) (Or.inl ⟨_, rfl⟩) C hsz hsl ⟨n154, n190, n174, n175, F158, Z173, Z160, P191⟩ ⟨((((hr5_0.trans hr103_0).trans hr153_0).trans hr180_0).trans hr189_0), hr189_1, hr189_2, nt_n, (vX8_call_112 n154 hr153_4_0 hr153_4_1)⟩ hP hS ⟨(vX8_call_129 κ k0 y1 P13 b18 x19 b21 P111 b117 P161 b176 x179 P182 x188 P191 kdy1 kc14 kc15 kc16 kc17 ex19 c20 kc112 kc113 kc114 kc115 kc162 kc163 kc164 kc165 ex179 kc183 kc184 kc185 kc186 ex188 kc192 kc193 kc194 kc195), (vX8_call_130 κ k0 y1 P13 b18 x19 b21 P111 b117 P161 b176 x179 P182 x188 P191 kdy1 kc14 kc15 kc16 kc17 ex19 c20 kc112 kc113 kc114 kc115 kc162 kc163 kc164 kc165 ex179 kc183 kc184 kc185 kc186 ex188 kc192 kc193 kc194 kc195)⟩ ⟨(vX8_call_131 κ k0 y1 P13 b18 x19 b21 P111 b117 P161 b176 x179 P182 x188 P191 kdy1 kc14 kc15 kc16 kc17 ex19 c20 kc112 kc113 kc114 kc115 kc162 kc163 kc164 kc165 ex179 kc183 kc184 kc185 kc186 ex188 kc192 kc193 kc194 kc195), (vX8_call_132 κ k0 y1 P13 b18 x19 b21 P111 b117 P161 b176 x179 P182 x188 P191 kdy1 kc14 kc15 kc16 kc17 ex19 c20 kc112 kc113 kc114 kc115 kc162 kc163 kc164 kc165 ex179 kc183 kc184 kc185 kc186 ex188 kc192 kc193 kc194 kc195)⟩ dX8_call_223
                    | some b196 =>
                      have hb196 : oT P191 b196 = 1 := hr189_3 b196 rfl
                      refine lv_ifnonnull (tgt := 212) C.x C.b dX8_call_205 (by decide) ?_
                      refine lv_aload_n C.x C.b dX8_call_212 rfl (lv_at hl 6 rfl) ?_
                      refine lv_aload C.x C.b dX8_call_213 (lv_at hl 2 rfl) ?_
                      refine lv_aload_n C.x C.b dX8_call_215 rfl (lv_at hl 5 rfl) ?_
                      refine lv_aload C.x C.b dX8_call_216 (lv_at hl 1 rfl) ?_
                      refine lv_aload C.x C.b dX8_call_218 (lv_at hl 0 rfl) ?_
                      refine c_callVq (n := 4) (As := [.ref b176, .ref b18, .ref b187, .ref b196]) (rest := []) C hP hS hl.1 (NX8_act l D cy ad A sz0 sa (tP (tI (tP (tI (tI (tI (tQ (tP (tQ (tQ (tA (tI (tI (tI (tI (tP (tQ (tQ (tA (tI (tI (tI (tI (tP (tQ (tQ (tA (tI (tI (tI (tI κ 8 n6) 9 n7) 10 n8) 11 n9) 16 F10) 15 Z11) 17 Z12) P13) 8 n104) 9 n105) 10 n106) 11 n107) 16 F108) 15 Z109) 17 Z110) P111) 8 n154) 9 n155) 10 n156) 11 n157) 16 F158) 15 Z159) 17 Z160) P161) 15 Z173) 10 n174) 11 n175) 9 n181) P182) 9 n190) P191) H.size (SLT H) C.f (fun q h => C.a q (Nat.le_trans hS.1 h)) b176 b18 b187 b196 (hr189_0.T (hr180_0.T hb176 (by decide)) (by decide)) (hr189_0.T (hr180_0.T (hr153_0.T (hr103_0.T hb18 (by decide)) (by decide)) (by decide)) (by decide)) (hr189_0.T hb187 (by decide)) hb196 hr189_1 hr189_2) ⟨cw_787, cw_790, by decide +kernel⟩ ⟨cw_788, cw_789, cw_705⟩ rfl (hP.recvS (k := 3) (ci := 10) C.K rfl rfl) rfl rfl (lv_room (Nat.le_of_ble_eq_true rfl)) ⟨(vX8_call_36 d ), (vX8_call_37 d )⟩ ⟨(vX8_call_133 κ k0 y1 P13 b18 x19 b21 P111 b117 P161 b176 x179 P182 x188 P191 kdy1 kc14 kc15 kc16 kc17 ex19 c20 kc112 kc113 kc114 kc115 kc162 kc163 kc164 kc165 ex179 kc183 kc184 kc185 kc186 ex188 kc192 kc193 kc194 kc195), (vX8_call_134 κ k0 y1 P13 b18 x19 b21 P111 b117 P161 b176 x179 P182 x188 P191 kdy1 kc14 kc15 kc16 kc17 ex19 c20 kc112 kc113 kc114 kc115 kc162 kc163 kc164 kc165 ex179 kc183 kc184 kc185 kc186 ex188 kc192 kc193 kc194 kc195)⟩ dX8_call_220 (fun r197 u H locs hr197 hP hS => ?_)
                      obtain ⟨n198, P199⟩ := u
                      have hP : CH D cy ad A (tP (tI (tP (tI (tP (tI (tI (tI (tQ (tP (tQ (tQ (tA (tI (tI (tI (tI (tP (tQ (tQ (tA (tI (tI (tI (tI (tP (tQ (tQ (tA (tI (tI (tI (tI κ 8 n6) 9 n7) 10 n8) 11 n9) 16 F10) 15 Z11) 17 Z12) P13) 8 n104) 9 n105) 10 n106) 11 n107) 16 F108) 15 Z109) 17 Z110) P111) 8 n154) 9 n155) 10 n156) 11 n157) 16 F158) 15 Z159) 17 Z160) P161) 15 Z173) 10 n174) 11 n175) 9 n181) P182) 9 n190) P191) 9 n198) P199) H := hP
                      have hr197 : (EX P191 P199) ∧ (PV sa P199) ∧ (SV ad P199 (κ.2.1 0) (κ.2.1 1) (κ.2.2.2.1 6) (κ.2.2.2.1 7) (κ.2.2.2.1 8) (κ.2.2.2.1 13) Z173 Z160 (κ.1 1).toInt) ∧ (NT P199 1 r197) := hr197
                      obtain ⟨hr197_0, hr197_1, hr197_2, hr197_3⟩ := hr197
                      have kc200 : cto P199 y1 = cto P191 y1 := hr197_0.ct (hr189_0.nt (hr180_0.nt (hr153_0.nt (hr103_0.nt (hr5_0.nt ty1 (by decide)) (by decide)) (by decide)) (by decide)) (by decide)) (by decide)
                      have kc201 : cto P199 (some k0) = cto P191 (some k0) := hr197_0.ct (nt_s (hr189_0.T (hr180_0.T (hr153_0.T (hr103_0.T (hr5_0.T ht0 (by decide)) (by decide)) (by decide)) (by decide)) (by decide))) (by decide)
                      have kc202 : cto P199 (some b21) = cto P191 (some b21) := hr197_0.ct (nt_s (hr189_0.T (hr180_0.T (hr153_0.T (hr103_0.T (hr5_0.T hb21 (by decide)) (by decide)) (by decide)) (by decide)) (by decide))) (by decide)
                      have kc203 : cto P199 (some b117) = cto P191 (some b117) := hr197_0.ct (nt_s (hr189_0.T (hr180_0.T (hr153_0.T (hr103_0.T (hr5_0.T hb117 (by decide)) (by decide)) (by decide)) (by decide)) (by decide))) (by decide)
                      have hP : CH D cy ad A (tP (tQ (tQ (tA (tI (tI (tI (tI κ 8 n154) 9 n198) 10 n174) 11 n175) 16 F158) 15 Z173) 17 Z160) P199) H := CH.cong hP rfl rfl rfl rfl rfl rfl rfl rfl rfl rfl rfl rfl rfl rfl rfl rfl rfl rfl rfl rfl rfl rfl rfl rfl rfl rfl rfl
                      exact c_retq (v := r197) (Or.inl ⟨_, rfl⟩) C hsz hsl ⟨n154, n198, n174, n175, F158, Z173, Z160, P199⟩ ⟨(((((hr5_0.trans hr103_0).trans hr153_0).trans hr180_0).trans hr189_0).trans hr197_0), hr197_1, hr197_2, hr197_3, (vX8_call_112 n154 hr153_4_0 hr153_4_1)⟩ hP hS ⟨(vX8_call_135 κ k0 y1 P13 b18 x19 b21 P111 b117 P161 b176 x179 P182 x188 P191 P199 kdy1 kc14 kc15 kc16 kc17 ex19 c20 kc112 kc113 kc114 kc115 kc162 kc163 kc164 kc165 ex179 kc183 kc184 kc185 kc186 ex188 kc192 kc193 kc194 kc195 kc200 kc201 kc202 kc203), (vX8_call_136 κ k0 y1 P13 b18 x19 b21 P111 b117 P161 b176 x179 P182 x188 P191 P199 kdy1 kc14 kc15 kc16 kc17 ex19 c20 kc112 kc113 kc114 kc115 kc162 kc163 kc164 kc165 ex179 kc183 kc184 kc185 kc186 ex188 kc192 kc193 kc194 kc195 kc200 kc201 kc202 kc203)⟩ ⟨(vX8_call_137 κ k0 y1 P13 b18 x19 b21 P111 b117 P161 b176 x179 P182 x188 P191 P199 kdy1 kc14 kc15 kc16 kc17 ex19 c20 kc112 kc113 kc114 kc115 kc162 kc163 kc164 kc165 ex179 kc183 kc184 kc185 kc186 ex188 kc192 kc193 kc194 kc195 kc200 kc201 kc202 kc203), (vX8_call_138 κ k0 y1 P13 b18 x19 b21 P111 b117 P161 b176 x179 P182 x188 P191 P199 kdy1 kc14 kc15 kc16 kc17 ex19 c20 kc112 kc113 kc114 kc115 kc162 kc163 kc164 kc165 ex179 kc183 kc184 kc185 kc186 ex188 kc192 kc193 kc194 kc195 kc200 kc201 kc202 kc203)⟩ dX8_call_223
    · have c20 : x19.toInt = 0 := by have h := z_eq c20; rw [show (0 : Int32).toInt = 0 from by decide +kernel] at h; exact h
      refine lv_aload_n C.x C.b dX8_call_25 rfl (lv_at hl 2 rfl) ?_
      obtain ⟨x204, ex204⟩ : ∃ z, oI P13 4 k0 = z := ⟨_, rfl⟩
      refine pg_X5_6 (v := x204) C hP (t20 (a := k0) (t := 2) (hr5_0.T ht0 (by decide))) ex204 cw_701 dX8_call_26 ?_
      refine lv_if_eq (tgt := 39) C.x C.b dX8_call_29 (by decide) (fun c205 => ?_) (fun c205 => ?_)
      · have c205 : x204.toInt = 0 := by have h := z_eq c205; rw [show (0 : Int32).toInt = 0 from by decide +kernel] at h; exact h
        refine lv_aload_n C.x C.b dX8_call_39 rfl (lv_at hl 1 rfl) ?_
        refine lv_iconst (v := 4) C.x C.b dX8_call_40 (by decide +kernel) ?_
        refine c_callVq (n := 1) (As := [.int 4]) (rest := []) C hP hS hl.1 (NX8_fail l D cy ad A sz0 sa (tP (tQ (tQ (tA (tI (tI (tI (tI κ 8 n6) 9 n7) 10 n8) 11 n9) 16 F10) 15 Z11) 17 Z12) P13) H.size (SLT H) C.f (fun q h => C.a q (Nat.le_trans hS.1 h)) (4 : Int32) ) ⟨cw_702, cw_695, by decide +kernel⟩ ⟨cw_703, cw_704, cw_705⟩ rfl (hP.recvS (k := 3) (ci := 10) C.K rfl rfl) rfl rfl (lv_room (Nat.le_of_ble_eq_true rfl)) ⟨(vX8_call_12 d ), (vX8_call_13 d )⟩ ⟨(vX8_call_139 κ k0 y1 y2 y3 P13 b18 x19 x204 kdy1 kc14 kc15 kc16 kc17 ex19 c20 ex204 c205), (vX8_call_140 κ k0 y1 y2 y3 P13 b18 x19 x204 kdy1 kc14 kc15 kc16 kc17 ex19 c20 ex204 c205)⟩ dX8_call_41 (fun r206 u H locs hr206 hP hS => ?_)
        obtain ⟨n207, rfl⟩ : ∃ z, z = u := ⟨_, rfl⟩
        have hP : CH D cy ad A (tI (tP (tQ (tQ (tA (tI (tI (tI (tI κ 8 n6) 9 n7) 10 n8) 11 n9) 16 F10) 15 Z11) 17 Z12) P13) 9 n207) H := hP
        have hr206 : (NT P13 1 r206) := hr206
        have hP : CH D cy ad A (tP (tQ (tQ (tA (tI (tI (tI (tI κ 8 n6) 9 n207) 10 n8) 11 n9) 16 F10) 15 Z11) 17 Z12) P13) H := CH.cong hP rfl rfl rfl rfl rfl rfl rfl rfl rfl rfl rfl rfl rfl rfl rfl rfl rfl rfl rfl rfl rfl rfl rfl rfl rfl rfl rfl
        exact c_retq (v := r206) (Or.inl ⟨_, rfl⟩) C hsz hsl ⟨n6, n207, n8, n9, F10, Z11, Z12, P13⟩ ⟨hr5_0, hr5_1, hr5_2, hr206, (vX8_call_7 n6 hr5_4_0 hr5_4_1)⟩ hP hS ⟨(vX8_call_139 κ k0 y1 y2 y3 P13 b18 x19 x204 kdy1 kc14 kc15 kc16 kc17 ex19 c20 ex204 c205), (vX8_call_140 κ k0 y1 y2 y3 P13 b18 x19 x204 kdy1 kc14 kc15 kc16 kc17 ex19 c20 ex204 c205)⟩ ⟨(vX8_call_141 κ k0 y1 y2 y3 P13 b18 x19 x204 kdy1 kc14 kc15 kc16 kc17 ex19 c20 ex204 c205), (vX8_call_142 κ k0 y1 y2 y3 P13 b18 x19 x204 kdy1 kc14 kc15 kc16 kc17 ex19 c20 ex204 c205)⟩ dX8_call_44
      · have c205 : ¬ x204.toInt = 0 := by have h := z_ne c205; rw [show (0 : Int32).toInt = 0 from by decide +kernel] at h; exact h
        refine lv_aload_n C.x C.b dX8_call_32 rfl (lv_at hl 1 rfl) ?_
        refine cg_X8_0 C hP cw_677 dX8_call_33 ?_
        refine lv_goto (tgt := 44) C.x C.b dX8_call_36 (by decide) ?_
        exact c_retq (v := (some (ad 20))) (Or.inl ⟨_, rfl⟩) C hsz hsl ⟨n6, n7, n8, n9, F10, Z11, Z12, P13⟩ ⟨hr5_0, hr5_1, hr5_2, (nt_s hr5_2.a20), (vX8_call_7 n6 hr5_4_0 hr5_4_1)⟩ hP hS ⟨(vX8_call_143 κ k0 y1 y2 y3 P13 b18 x19 x204 kdy1 kc14 kc15 kc16 kc17 ex19 c20 ex204 c205), (vX8_call_144 κ k0 y1 y2 y3 P13 b18 x19 x204 kdy1 kc14 kc15 kc16 kc17 ex19 c20 ex204 c205)⟩ ⟨(vX8_call_145 κ k0 y1 y2 y3 P13 b18 x19 x204 kdy1 kc14 kc15 kc16 kc17 ex19 c20 ex204 c205), (vX8_call_146 κ k0 y1 y2 y3 P13 b18 x19 x204 kdy1 kc14 kc15 kc16 kc17 ex19 c20 ex204 c205)⟩ dX8_call_44
