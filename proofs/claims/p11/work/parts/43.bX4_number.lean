-- post @99
theorem vX4_add_1 (κ : KS) (hpre_0 : 0 ≤ (κ.1 7).toInt) (hpre_1 : (κ.1 7).toInt ≤ 41) (c2 : 41 ≤ (κ.1 7).toInt) : 0 ≤ (κ.1 7).toInt ∧ (κ.1 7).toInt ≤ 41 := by
  refine ⟨?_, ?_⟩ <;> first | assumption | omega | (subst_vars; omega) | trivial
-- post2 @99
theorem vX4_add_2 (ad : Nat → Nat) (κ : KS) (k0 : Int32) (k1 : Int32) (k2 : Int32) (k3 : Option Nat) (ht3 : NT κ.2.2.2.2 1 k3) (hSV : SV ad κ.2.2.2.2 (κ.2.1 0) (κ.2.1 1) (κ.2.2.2.1 6) (κ.2.2.2.1 7) (κ.2.2.2.1 8) (κ.2.2.2.1 13) (κ.2.2.2.1 15) (κ.2.2.2.1 17) (κ.1 1).toInt) (hpre_0 : 0 ≤ (κ.1 7).toInt) (hpre_1 : (κ.1 7).toInt ≤ 41) (c2 : 41 ≤ (κ.1 7).toInt) : (κ.1 7).toInt < 41 → ADc (κ.2.2.1 10) (κ.2.2.1 11) (κ.2.2.1 12) (κ.1 7) (κ.2.2.1 10) (κ.2.2.1 11) (κ.2.2.1 12) (κ.1 7) k0 k1 k2 := by
  intro h41
  first | (exfalso; omega) | exact ⟨by omega, rfl, rfl, rfl⟩
-- dead@21 @99
theorem vX4_add_3 (κ : KS) (hpre_0 : 0 ≤ (κ.1 7).toInt) (hpre_1 : (κ.1 7).toInt ≤ 41) (c2 : (κ.1 7).toInt < 41) (c4 : 41 ≤ (κ.1 7).toInt) : False := by
  first | assumption | omega | (subst_vars; omega) | trivial
-- dead@33 @99
theorem vX4_add_4 (κ : KS) (hpre_0 : 0 ≤ (κ.1 7).toInt) (hpre_1 : (κ.1 7).toInt ≤ 41) (c2 : (κ.1 7).toInt < 41) (c4 : (κ.1 7).toInt < 41) (c6 : 41 ≤ (κ.1 7).toInt) : False := by
  first | assumption | omega | (subst_vars; omega) | trivial
-- dead@45 @99
theorem vX4_add_5 (κ : KS) (hpre_0 : 0 ≤ (κ.1 7).toInt) (hpre_1 : (κ.1 7).toInt ≤ 41) (c2 : (κ.1 7).toInt < 41) (c4 : (κ.1 7).toInt < 41) (c6 : (κ.1 7).toInt < 41) (c8 : 41 ≤ (κ.1 7).toInt) : False := by
  first | assumption | omega | (subst_vars; omega) | trivial
-- in@57 @57
theorem vX4_add_6 (κ : KS) (hpre_0 : 0 ≤ (κ.1 7).toInt) (hpre_1 : (κ.1 7).toInt ≤ 41) (c2 : (κ.1 7).toInt < 41) (c4 : (κ.1 7).toInt < 41) (c6 : (κ.1 7).toInt < 41) (c8 : (κ.1 7).toInt < 41) : vp_in (κ.1 7) 41 := by
  exact vp_in_iff.mpr ⟨by omega, by omega⟩
-- nw@95 @95
theorem vX4_add_7 (κ : KS) (x11 : Int32) (hpre_0 : 0 ≤ (κ.1 7).toInt) (hpre_1 : (κ.1 7).toInt ≤ 41) (c2 : (κ.1 7).toInt < 41) (c4 : (κ.1 7).toInt < 41) (c6 : (κ.1 7).toInt < 41) (c8 : (κ.1 7).toInt < 41) (ex11 : x11 = (κ.1 7) + (1 : Int32)) : x11.toInt = (κ.1 7).toInt + 1 := by
  have q1 : (1 : Int32).toInt = 1 := by decide +kernel
  have w1 : (1 : Int32).toInt = 1 := by decide +kernel
  rw [ex11, z_add (by omega) (by omega)]; first | done | omega
-- post @99
theorem vX4_add_8 (κ : KS) (x11 : Int32) (hpre_0 : 0 ≤ (κ.1 7).toInt) (hpre_1 : (κ.1 7).toInt ≤ 41) (c2 : (κ.1 7).toInt < 41) (c4 : (κ.1 7).toInt < 41) (c6 : (κ.1 7).toInt < 41) (c8 : (κ.1 7).toInt < 41) (ex11 : x11 = (κ.1 7) + (1 : Int32)) (tx11 : x11.toInt = (κ.1 7).toInt + 1) : 0 ≤ x11.toInt ∧ x11.toInt ≤ 41 := by
  have q1 : (1 : Int32).toInt = 1 := by decide +kernel
  refine ⟨?_, ?_⟩ <;> first | assumption | omega | (subst_vars; omega) | trivial
-- post2 @99
theorem vX4_add_9 (ad : Nat → Nat) (κ : KS) (k0 : Int32) (k1 : Int32) (k2 : Int32) (x11 : Int32) (ht3 : NT κ.2.2.2.2 1 none) (hSV : SV ad κ.2.2.2.2 (κ.2.1 0) (κ.2.1 1) (κ.2.2.2.1 6) (κ.2.2.2.1 7) (κ.2.2.2.1 8) (κ.2.2.2.1 13) (κ.2.2.2.1 15) (κ.2.2.2.1 17) (κ.1 1).toInt) (hpre_0 : 0 ≤ (κ.1 7).toInt) (hpre_1 : (κ.1 7).toInt ≤ 41) (c2 : (κ.1 7).toInt < 41) (c4 : (κ.1 7).toInt < 41) (c6 : (κ.1 7).toInt < 41) (c8 : (κ.1 7).toInt < 41) (ex11 : x11 = (κ.1 7) + (1 : Int32)) (tx11 : x11.toInt = (κ.1 7).toInt + 1) : (κ.1 7).toInt < 41 → ADc (κ.2.2.1 10) (κ.2.2.1 11) (κ.2.2.1 12) (κ.1 7) (upd (κ.2.2.1 10) (κ.1 7).toNatClampNeg k0) (upd (κ.2.2.1 11) (κ.1 7).toNatClampNeg k1) (upd (κ.2.2.1 12) (κ.1 7).toNatClampNeg k2) x11 k0 k1 k2 := by
  have q1 : (1 : Int32).toInt = 1 := by decide +kernel
  intro h41
  first | (exfalso; omega) | exact ⟨by omega, rfl, rfl, rfl⟩
-- nw@95 @95
theorem vX4_add_10 (κ : KS) (x13 : Int32) (hpre_0 : 0 ≤ (κ.1 7).toInt) (hpre_1 : (κ.1 7).toInt ≤ 41) (c2 : (κ.1 7).toInt < 41) (c4 : (κ.1 7).toInt < 41) (c6 : (κ.1 7).toInt < 41) (c8 : (κ.1 7).toInt < 41) (ex13 : x13 = (κ.1 7) + (1 : Int32)) : x13.toInt = (κ.1 7).toInt + 1 := by
  have q1 : (1 : Int32).toInt = 1 := by decide +kernel
  have w1 : (1 : Int32).toInt = 1 := by decide +kernel
  rw [ex13, z_add (by omega) (by omega)]; first | done | omega
-- post @99
theorem vX4_add_11 (κ : KS) (x13 : Int32) (hpre_0 : 0 ≤ (κ.1 7).toInt) (hpre_1 : (κ.1 7).toInt ≤ 41) (c2 : (κ.1 7).toInt < 41) (c4 : (κ.1 7).toInt < 41) (c6 : (κ.1 7).toInt < 41) (c8 : (κ.1 7).toInt < 41) (ex13 : x13 = (κ.1 7) + (1 : Int32)) (tx13 : x13.toInt = (κ.1 7).toInt + 1) : 0 ≤ x13.toInt ∧ x13.toInt ≤ 41 := by
  have q1 : (1 : Int32).toInt = 1 := by decide +kernel
  refine ⟨?_, ?_⟩ <;> first | assumption | omega | (subst_vars; omega) | trivial
-- post2 @99
theorem vX4_add_12 (ad : Nat → Nat) (κ : KS) (k0 : Int32) (k1 : Int32) (k2 : Int32) (b9 : Nat) (x13 : Int32) (ht3 : NT κ.2.2.2.2 1 (some b9)) (hSV : SV ad κ.2.2.2.2 (κ.2.1 0) (κ.2.1 1) (κ.2.2.2.1 6) (κ.2.2.2.1 7) (κ.2.2.2.1 8) (κ.2.2.2.1 13) (κ.2.2.2.1 15) (κ.2.2.2.1 17) (κ.1 1).toInt) (hpre_0 : 0 ≤ (κ.1 7).toInt) (hpre_1 : (κ.1 7).toInt ≤ 41) (c2 : (κ.1 7).toInt < 41) (c4 : (κ.1 7).toInt < 41) (c6 : (κ.1 7).toInt < 41) (c8 : (κ.1 7).toInt < 41) (ex13 : x13 = (κ.1 7) + (1 : Int32)) (tx13 : x13.toInt = (κ.1 7).toInt + 1) : (κ.1 7).toInt < 41 → ADc (κ.2.2.1 10) (κ.2.2.1 11) (κ.2.2.1 12) (κ.1 7) (upd (κ.2.2.1 10) (κ.1 7).toNatClampNeg k0) (upd (κ.2.2.1 11) (κ.1 7).toNatClampNeg k1) (upd (κ.2.2.1 12) (κ.1 7).toNatClampNeg k2) x13 k0 k1 k2 := by
  have q1 : (1 : Int32).toInt = 1 := by decide +kernel
  intro h41
  first | (exfalso; omega) | exact ⟨by omega, rfl, rfl, rfl⟩
set_option maxHeartbeats 4000000 in
set_option maxRecDepth 100000 in
theorem NX4_add (l : Launch) (D : va_G) (cy : Nat → ClassId) (ad : Nat → Nat) (A : Nat → Prop) (sz0 : Nat) (sa : Nat → Nat)  (κ : KS) (sz sl : Nat) (hAF : ∀ q, A q → Fr sz0 q) (hAn : ∀ q : Nat, sz ≤ q → A q) (k0 : Int32) (k1 : Int32) (k2 : Int32) (k3 : Option Nat) (ht3 : NT κ.2.2.2.2 1 k3) (hSV : SV ad κ.2.2.2.2 (κ.2.1 0) (κ.2.1 1) (κ.2.2.2.1 6) (κ.2.2.2.1 7) (κ.2.2.2.1 8) (κ.2.2.2.1 13) (κ.2.2.2.1 15) (κ.2.2.2.1 17) (κ.1 1).toInt) (hpre : 0 ≤ (κ.1 7).toInt ∧ (κ.1 7).toInt ≤ 41) : Met l yX4_add (Cond.code yX4_add cX4_add 5 none :: GWc) ({ frames := 0, cells := 0, slots := 0, locals := 0 }) (PcC D cy ad A sz0 sa [.ref (ad 2), .int k0, .int k1, .int k2, va_rf k3] κ sz sl) (va_Qv (fun (u : Int32 × (Nat → Int32) × (Nat → Int32) × (Nat → Int32) × (Nat → Option Nat)) => ((SV ad κ.2.2.2.2 (κ.2.1 0) (κ.2.1 1) (κ.2.2.2.1 6) (κ.2.2.2.1 7) (κ.2.2.2.1 8) u.2.2.2.2 (κ.2.2.2.1 15) (κ.2.2.2.1 17) (κ.1 1).toInt) ∧ (0 ≤ u.1.toInt ∧ u.1.toInt ≤ 41)) ∧ ((κ.1 7).toInt < 41 → ADc (κ.2.2.1 10) (κ.2.2.1 11) (κ.2.2.1 12) (κ.1 7) u.2.1 u.2.2.1 u.2.2.2.1 u.1 k0 k1 k2)) (fun (u : Int32 × (Nat → Int32) × (Nat → Int32) × (Nat → Int32) × (Nat → Option Nat)) (t : State) => Bx D cy ad A sz sl (tQ (tA (tA (tA (tI κ 7 u.1) 10 u.2.1) 11 u.2.2.1) 12 u.2.2.2.1) 13 u.2.2.2.2) (0) (0) t) A) (0) (0) A := by
  refine CM_of (loc0 := [(0, .ref (ad 2)), (1, .int k0), (2, .int k1), (3, .int k2), (4, va_rf k3)]) (own := RX4) (nm := "add") (by decide) rfl rfl (by cases k3 <;> rfl) (by cases k3 <;> exact Nat.le_of_ble_eq_true rfl) hAF hAn ?_
  intro p e s m below meth c ls hsz hsl C hP hS hl
  obtain ⟨hpre_0, hpre_1⟩ := hpre
  refine lv_aload_n C.x C.b dX4_add_0 rfl (lv_at hl 0 rfl) ?_
  refine cg_X4_6 (v := (κ.1 7)) C hP rfl cw_476 dX4_add_1 ?_
  refine lv_aload_n C.x C.b dX4_add_4 rfl (lv_at hl 0 rfl) ?_
  refine cg_X4_2 C hP cw_465 dX4_add_5 ?_
  refine cl_10 C hP dX4_add_8 ?_
  refine lv_icmp_ge (tgt := 99) C.x C.b dX4_add_9 (by decide) (fun c2 => ?_) (fun c2 => ?_)
  · have c2 : 41 ≤ (κ.1 7).toInt := by have h := z_le c2; rw [show (41 : Int32).toInt = 41 from by decide +kernel] at h; exact h
    have hP : CH D cy ad A (tQ (tA (tA (tA (tI κ 7 (κ.1 7)) 10 (κ.2.2.1 10)) 11 (κ.2.2.1 11)) 12 (κ.2.2.1 12)) 13 (κ.2.2.2.1 13)) s.heap := CH.cong hP rfl rfl rfl rfl rfl rfl rfl rfl rfl rfl rfl rfl rfl rfl rfl rfl rfl rfl rfl rfl rfl rfl rfl rfl rfl rfl rfl
    exact c_retv C hsz hsl ⟨(κ.1 7), (κ.2.2.1 10), (κ.2.2.1 11), (κ.2.2.1 12), (κ.2.2.2.1 13)⟩ ⟨⟨hSV, (vX4_add_1 κ hpre_0 hpre_1 c2)⟩, (vX4_add_2 ad κ k0 k1 k2 k3 ht3 hSV hpre_0 hpre_1 c2)⟩ hP hS ⟨(Nat.le_of_ble_eq_true rfl), (Nat.le_of_ble_eq_true rfl)⟩ ⟨(Nat.le_of_ble_eq_true rfl), (Nat.le_of_ble_eq_true rfl)⟩ dX4_add_99
  · have c2 : (κ.1 7).toInt < 41 := by have h := z_nle c2; rw [show (41 : Int32).toInt = 41 from by decide +kernel] at h; exact h
    refine lv_aload_n C.x C.b dX4_add_12 rfl (lv_at hl 0 rfl) ?_
    refine cg_X4_6 (v := (κ.1 7)) C hP rfl cw_476 dX4_add_13 ?_
    refine lv_aload_n C.x C.b dX4_add_16 rfl (lv_at hl 0 rfl) ?_
    refine cg_X4_3 C hP cw_466 dX4_add_17 ?_
    refine cl_11 C hP dX4_add_20 ?_
    refine lv_icmp_ge (tgt := 99) C.x C.b dX4_add_21 (by decide) (fun c4 => ?_) (fun c4 => ?_)
    · have c4 : 41 ≤ (κ.1 7).toInt := by have h := z_le c4; rw [show (41 : Int32).toInt = 41 from by decide +kernel] at h; exact h
      exact absurd (vX4_add_3 κ hpre_0 hpre_1 c2 c4) id
    · have c4 : (κ.1 7).toInt < 41 := by have h := z_nle c4; rw [show (41 : Int32).toInt = 41 from by decide +kernel] at h; exact h
      refine lv_aload_n C.x C.b dX4_add_24 rfl (lv_at hl 0 rfl) ?_
      refine cg_X4_6 (v := (κ.1 7)) C hP rfl cw_476 dX4_add_25 ?_
      refine lv_aload_n C.x C.b dX4_add_28 rfl (lv_at hl 0 rfl) ?_
      refine cg_X4_4 C hP cw_467 dX4_add_29 ?_
      refine cl_12 C hP dX4_add_32 ?_
      refine lv_icmp_ge (tgt := 99) C.x C.b dX4_add_33 (by decide) (fun c6 => ?_) (fun c6 => ?_)
      · have c6 : 41 ≤ (κ.1 7).toInt := by have h := z_le c6; rw [show (41 : Int32).toInt = 41 from by decide +kernel] at h; exact h
        exact absurd (vX4_add_4 κ hpre_0 hpre_1 c2 c4 c6) id
      · have c6 : (κ.1 7).toInt < 41 := by have h := z_nle c6; rw [show (41 : Int32).toInt = 41 from by decide +kernel] at h; exact h
        refine lv_aload_n C.x C.b dX4_add_36 rfl (lv_at hl 0 rfl) ?_
        refine cg_X4_6 (v := (κ.1 7)) C hP rfl cw_476 dX4_add_37 ?_
        refine lv_aload_n C.x C.b dX4_add_40 rfl (lv_at hl 0 rfl) ?_
        refine cg_X4_5 C hP cw_469 dX4_add_41 ?_
        refine cl_13 C hP dX4_add_44 ?_
        refine lv_icmp_ge (tgt := 99) C.x C.b dX4_add_45 (by decide) (fun c8 => ?_) (fun c8 => ?_)
        · have c8 : 41 ≤ (κ.1 7).toInt := by have h := z_le c8; rw [show (41 : Int32).toInt = 41 from by decide +kernel] at h; exact h
          exact absurd (vX4_add_5 κ hpre_0 hpre_1 c2 c4 c6 c8) id
        · have c8 : (κ.1 7).toInt < 41 := by have h := z_nle c8; rw [show (41 : Int32).toInt = 41 from by decide +kernel] at h; exact h
          refine lv_aload_n C.x C.b dX4_add_48 rfl (lv_at hl 0 rfl) ?_
          refine cg_X4_2 C hP cw_465 dX4_add_49 ?_
          refine lv_aload_n C.x C.b dX4_add_52 rfl (lv_at hl 0 rfl) ?_
          refine cg_X4_6 (v := (κ.1 7)) C hP rfl cw_476 dX4_add_53 ?_
          refine lv_iload_n C.x C.b dX4_add_56 rfl (lv_at hl 1 rfl) ?_
          refine cw_st10 (f := (κ.2.2.1 10)) C hP hS rfl (vX4_add_6 κ hpre_0 hpre_1 c2 c4 c6 c8) dX4_add_57 (fun H locs hP hS => ?_)
          refine lv_aload_n C.x C.b dX4_add_58 rfl (lv_at hl 0 rfl) ?_
          refine cg_X4_3 C hP cw_466 dX4_add_59 ?_
          refine lv_aload_n C.x C.b dX4_add_62 rfl (lv_at hl 0 rfl) ?_
          refine cg_X4_6 (v := (κ.1 7)) C hP rfl cw_476 dX4_add_63 ?_
          refine lv_iload_n C.x C.b dX4_add_66 rfl (lv_at hl 2 rfl) ?_
          refine cw_st11 (f := (κ.2.2.1 11)) C hP hS rfl (vX4_add_6 κ hpre_0 hpre_1 c2 c4 c6 c8) dX4_add_67 (fun H locs hP hS => ?_)
          refine lv_aload_n C.x C.b dX4_add_68 rfl (lv_at hl 0 rfl) ?_
          refine cg_X4_4 C hP cw_467 dX4_add_69 ?_
          refine lv_aload_n C.x C.b dX4_add_72 rfl (lv_at hl 0 rfl) ?_
          refine cg_X4_6 (v := (κ.1 7)) C hP rfl cw_476 dX4_add_73 ?_
          refine lv_iload_n C.x C.b dX4_add_76 rfl (lv_at hl 3 rfl) ?_
          refine cw_st12 (f := (κ.2.2.1 12)) C hP hS rfl (vX4_add_6 κ hpre_0 hpre_1 c2 c4 c6 c8) dX4_add_77 (fun H locs hP hS => ?_)
          refine lv_aload_n C.x C.b dX4_add_78 rfl (lv_at hl 0 rfl) ?_
          refine cg_X4_5 C hP cw_469 dX4_add_79 ?_
          refine lv_aload_n C.x C.b dX4_add_82 rfl (lv_at hl 0 rfl) ?_
          refine cg_X4_6 (v := (κ.1 7)) C hP rfl cw_476 dX4_add_83 ?_
          refine lq_aload C.x C.b dX4_add_86 (lv_at hl 4 rfl) ?_
          cases k3 with
          | none =>
            refine cw_st13n (f := (κ.2.2.2.1 13)) C hP hS rfl (vX4_add_6 κ hpre_0 hpre_1 c2 c4 c6 c8) dX4_add_88 (fun H locs hP hS => ?_)
            have svz10 : SV ad κ.2.2.2.2 (κ.2.1 0) (κ.2.1 1) (κ.2.2.2.1 6) (κ.2.2.2.1 7) (κ.2.2.2.1 8) (va_up (κ.2.2.2.1 13) (κ.1 7).toNatClampNeg none) (κ.2.2.2.1 15) (κ.2.2.2.1 17) (κ.1 1).toInt := hSV.s13 nt_n
            refine lv_aload_n C.x C.b dX4_add_89 rfl (lv_at hl 0 rfl) ?_
            refine lv_dup C.x C.b dX4_add_90 rfl ?_
            refine cg_X4_6 (v := (κ.1 7)) C hP rfl cw_476 dX4_add_91 ?_
            refine lv_iconst (v := 1) C.x C.b dX4_add_94 (by decide +kernel) ?_
            refine lv_iadd C.x C.b dX4_add_95 ?_
            refine lv_topi (fun x11 ex11 => ?_)
            have tx11 : x11.toInt = (κ.1 7).toInt + 1 := (vX4_add_7 κ x11 hpre_0 hpre_1 c2 c4 c6 c8 ex11)
            refine cp_X4_6 (v := x11) C hP hS cw_476 dX4_add_96 (fun H locs hP hS => ?_)
            have hP : CH D cy ad A (tQ (tA (tA (tA (tI κ 7 x11) 10 (upd (κ.2.2.1 10) (κ.1 7).toNatClampNeg k0)) 11 (upd (κ.2.2.1 11) (κ.1 7).toNatClampNeg k1)) 12 (upd (κ.2.2.1 12) (κ.1 7).toNatClampNeg k2)) 13 (va_up (κ.2.2.2.1 13) (κ.1 7).toNatClampNeg none)) H := CH.cong hP rfl rfl rfl rfl rfl rfl rfl rfl rfl rfl rfl rfl rfl rfl rfl rfl rfl rfl rfl rfl rfl rfl rfl rfl rfl rfl rfl
            exact c_retv C hsz hsl ⟨x11, (upd (κ.2.2.1 10) (κ.1 7).toNatClampNeg k0), (upd (κ.2.2.1 11) (κ.1 7).toNatClampNeg k1), (upd (κ.2.2.1 12) (κ.1 7).toNatClampNeg k2), (va_up (κ.2.2.2.1 13) (κ.1 7).toNatClampNeg none)⟩ ⟨⟨svz10, (vX4_add_8 κ x11 hpre_0 hpre_1 c2 c4 c6 c8 ex11 tx11)⟩, (vX4_add_9 ad κ k0 k1 k2 x11 ht3 hSV hpre_0 hpre_1 c2 c4 c6 c8 ex11 tx11)⟩ hP hS ⟨(Nat.le_of_ble_eq_true rfl), (Nat.le_of_ble_eq_true rfl)⟩ ⟨(Nat.le_of_ble_eq_true rfl), (Nat.le_of_ble_eq_true rfl)⟩ dX4_add_99
          | some b9 =>
            have hb9 : oT κ.2.2.2.2 b9 = 1 := ht3 b9 rfl
            refine cw_st13 (f := (κ.2.2.2.1 13)) C hP hS rfl (t20 (a := b9) (t := 1) hb9) (vX4_add_6 κ hpre_0 hpre_1 c2 c4 c6 c8) dX4_add_88 (fun H locs hP hS => ?_)
            have svz12 : SV ad κ.2.2.2.2 (κ.2.1 0) (κ.2.1 1) (κ.2.2.2.1 6) (κ.2.2.2.1 7) (κ.2.2.2.1 8) (va_up (κ.2.2.2.1 13) (κ.1 7).toNatClampNeg (some b9)) (κ.2.2.2.1 15) (κ.2.2.2.1 17) (κ.1 1).toInt := hSV.s13 (nt_s hb9)
            refine lv_aload_n C.x C.b dX4_add_89 rfl (lv_at hl 0 rfl) ?_
            refine lv_dup C.x C.b dX4_add_90 rfl ?_
            refine cg_X4_6 (v := (κ.1 7)) C hP rfl cw_476 dX4_add_91 ?_
            refine lv_iconst (v := 1) C.x C.b dX4_add_94 (by decide +kernel) ?_
            refine lv_iadd C.x C.b dX4_add_95 ?_
            refine lv_topi (fun x13 ex13 => ?_)
            have tx13 : x13.toInt = (κ.1 7).toInt + 1 := (vX4_add_10 κ x13 hpre_0 hpre_1 c2 c4 c6 c8 ex13)
            refine cp_X4_6 (v := x13) C hP hS cw_476 dX4_add_96 (fun H locs hP hS => ?_)
            have hP : CH D cy ad A (tQ (tA (tA (tA (tI κ 7 x13) 10 (upd (κ.2.2.1 10) (κ.1 7).toNatClampNeg k0)) 11 (upd (κ.2.2.1 11) (κ.1 7).toNatClampNeg k1)) 12 (upd (κ.2.2.1 12) (κ.1 7).toNatClampNeg k2)) 13 (va_up (κ.2.2.2.1 13) (κ.1 7).toNatClampNeg (some b9))) H := CH.cong hP rfl rfl rfl rfl rfl rfl rfl rfl rfl rfl rfl rfl rfl rfl rfl rfl rfl rfl rfl rfl rfl rfl rfl rfl rfl rfl rfl
            exact c_retv C hsz hsl ⟨x13, (upd (κ.2.2.1 10) (κ.1 7).toNatClampNeg k0), (upd (κ.2.2.1 11) (κ.1 7).toNatClampNeg k1), (upd (κ.2.2.1 12) (κ.1 7).toNatClampNeg k2), (va_up (κ.2.2.2.1 13) (κ.1 7).toNatClampNeg (some b9))⟩ ⟨⟨svz12, (vX4_add_11 κ x13 hpre_0 hpre_1 c2 c4 c6 c8 ex13 tx13)⟩, (vX4_add_12 ad κ k0 k1 k2 b9 x13 ht3 hSV hpre_0 hpre_1 c2 c4 c6 c8 ex13 tx13)⟩ hP hS ⟨(Nat.le_of_ble_eq_true rfl), (Nat.le_of_ble_eq_true rfl)⟩ ⟨(Nat.le_of_ble_eq_true rfl), (Nat.le_of_ble_eq_true rfl)⟩ dX4_add_99

-- init@4 @4
theorem vX4_name_1 (k0 : Int32) (hpre_5 : 0 ≤ k0.toInt) (hpre_6 : k0.toInt ≤ 40) : k0.toInt ≤ k0.toInt ∧ k0.toInt ≤ 40 := by
  refine ⟨?_, ?_⟩ <;> first | assumption | omega | (subst_vars; omega) | trivial
-- init2@4 @4
theorem vX4_name_2 (ad : Nat → Nat) (κ : KS) (k0 : Int32) (hSV : SV ad κ.2.2.2.2 (κ.2.1 0) (κ.2.1 1) (κ.2.2.2.1 6) (κ.2.2.2.1 7) (κ.2.2.2.1 8) (κ.2.2.2.1 13) (κ.2.2.2.1 15) (κ.2.2.2.1 17) (κ.1 1).toInt) (hpre_0 : L9 (κ.2.2.1 9)) (hpre_1 : 0 ≤ (κ.1 6).toInt) (hpre_2 : (κ.1 6).toInt ≤ 40) (hpre_3 : 0 ≤ (κ.1 7).toInt) (hpre_4 : (κ.1 7).toInt ≤ 41) (hpre_5 : 0 ≤ k0.toInt) (hpre_6 : k0.toInt ≤ 40) : RT lw (tx (κ.2.2.1 9) (κ.1 6)) k0.toInt k0.toInt ∧ (k0.toInt - k0.toInt ≤ 5 → (0 : Int32).toInt = nval (tx (κ.2.2.1 9) (κ.1 6)) k0.toInt (k0.toInt - k0.toInt).toNat) := by
  have q0 : (0 : Int32).toInt = 0 := by decide +kernel
  refine ⟨RT.at rfl, fun _ => ?_⟩
  rw [show (k0.toInt - k0.toInt).toNat = 0 by omega]; exact q0
-- nw@47 @47
theorem vX4_name_3 (κ : KS) (k0 : Int32) (y2 : Int32) (x4 : Int32) (hpre_1 : 0 ≤ (κ.1 6).toInt) (hpre_2 : (κ.1 6).toInt ≤ 40) (hpre_5 : 0 ≤ k0.toInt) (hpre_6 : k0.toInt ≤ 40) (hi4_0 : k0.toInt ≤ y2.toInt) (hi4_1 : y2.toInt ≤ 40) (c3 : (κ.1 6).toInt ≤ y2.toInt) (ex4 : x4 = y2 - k0) : x4.toInt = y2.toInt - k0.toInt := by
  rw [ex4, z_sub (by omega) (by omega)]; first | done | omega
-- pre:X4_add@59 @59
theorem vX4_name_4 (κ : KS) (hpre_3 : 0 ≤ (κ.1 7).toInt) (hpre_4 : (κ.1 7).toInt ≤ 41) : 0 ≤ (κ.1 7).toInt ∧ (κ.1 7).toInt ≤ 41 := by
  refine ⟨?_, ?_⟩ <;> first | assumption | omega | (subst_vars; omega) | trivial
-- post @63
theorem vX4_name_5 (κ : KS) (k0 : Int32) (y2 : Int32) (x4 : Int32) (n7 : Int32) (hpre_1 : 0 ≤ (κ.1 6).toInt) (hpre_2 : (κ.1 6).toInt ≤ 40) (hpre_5 : 0 ≤ k0.toInt) (hpre_6 : k0.toInt ≤ 40) (hi4_0 : k0.toInt ≤ y2.toInt) (hi4_1 : y2.toInt ≤ 40) (c3 : (κ.1 6).toInt ≤ y2.toInt) (ex4 : x4 = y2 - k0) (tx4 : x4.toInt = y2.toInt - k0.toInt) (c5 : x4.toInt ≤ 5) (hr6_1_0 : 0 ≤ n7.toInt) (hr6_1_1 : n7.toInt ≤ 41) : 0 ≤ n7.toInt ∧ n7.toInt ≤ 41 ∧ y2.toInt ≤ 40 := by
  refine ⟨?_, ?_, ?_⟩ <;> first | assumption | omega | (subst_vars; omega) | trivial
-- post2 @63
theorem vX4_name_6 (ad : Nat → Nat) (κ : KS) (k0 : Int32) (y1 : Int32) (y2 : Int32) (x4 : Int32) (n7 : Int32) (F8 : (Nat → Int32)) (F9 : (Nat → Int32)) (F10 : (Nat → Int32)) (hSV : SV ad κ.2.2.2.2 (κ.2.1 0) (κ.2.1 1) (κ.2.2.2.1 6) (κ.2.2.2.1 7) (κ.2.2.2.1 8) (κ.2.2.2.1 13) (κ.2.2.2.1 15) (κ.2.2.2.1 17) (κ.1 1).toInt) (hpre_0 : L9 (κ.2.2.1 9)) (hpre_1 : 0 ≤ (κ.1 6).toInt) (hpre_2 : (κ.1 6).toInt ≤ 40) (hpre_3 : 0 ≤ (κ.1 7).toInt) (hpre_4 : (κ.1 7).toInt ≤ 41) (hpre_5 : 0 ≤ k0.toInt) (hpre_6 : k0.toInt ≤ 40) (hi4_0 : k0.toInt ≤ y2.toInt) (hi4_1 : y2.toInt ≤ 40) (hi4y_0 : RT lw (tx (κ.2.2.1 9) (κ.1 6)) k0.toInt y2.toInt) (hi4y_1 : y2.toInt - k0.toInt ≤ 5 → y1.toInt = nval (tx (κ.2.2.1 9) (κ.1 6)) k0.toInt (y2.toInt - k0.toInt).toNat) (c3 : (κ.1 6).toInt ≤ y2.toInt) (ex4 : x4 = y2 - k0) (tx4 : x4.toInt = y2.toInt - k0.toInt) (c5 : x4.toInt ≤ 5) (hr6y : (κ.1 7).toInt < 41 → ADc (κ.2.2.1 10) (κ.2.2.1 11) (κ.2.2.1 12) (κ.1 7) F8 F9 F10 n7 (2 : Int32) k0 y1) (hr6_1_0 : 0 ≤ n7.toInt) (hr6_1_1 : n7.toInt ≤ 41) : (κ.1 7).toInt ≤ k0.toInt → k0.toInt < (κ.1 6).toInt → lw (tx (κ.2.2.1 9) (κ.1 6) k0.toInt) → ∃ t9, TokR (tx (κ.2.2.1 9) (κ.1 6)) (κ.1 6).toInt k0.toInt t9 ∧ LXc (κ.2.2.1 10) (κ.2.2.1 11) (κ.2.2.1 12) (κ.1 7) F8 F9 F10 n7 k0.toInt y2.toInt t9 := by
  have q2 : (2 : Int32).toInt = 2 := by decide +kernel
  intro h1 h2 h3
  have hl : ¬ lw (tx (κ.2.2.1 9) (κ.1 6) y2.toInt) := by
    first | omega | (rw [tx_o (by omega)]; omega)
  have lt := RT_lt hi4y_0 hl h3
  exact ⟨_, wrdN hi4y_0 hl (by omega) (hi4y_1 (by omega)) h3, LXc.add (hr6y (by omega)) rfl (by omega) (by omega) (by first | rfl | omega) rfl⟩
-- post @53
theorem vX4_name_7 (κ : KS) (hpre_3 : 0 ≤ (κ.1 7).toInt) (hpre_4 : (κ.1 7).toInt ≤ 41) : 0 ≤ (κ.1 7).toInt ∧ (κ.1 7).toInt ≤ 41 ∧ (-1 : Int32).toInt ≤ 40 := by
  have qm1 : (-1 : Int32).toInt = (-1) := by decide +kernel
  refine ⟨?_, ?_, ?_⟩ <;> first | assumption | omega | (subst_vars; omega) | trivial
-- post2 @53
theorem vX4_name_8 (ad : Nat → Nat) (κ : KS) (k0 : Int32) (y1 : Int32) (y2 : Int32) (x4 : Int32) (hSV : SV ad κ.2.2.2.2 (κ.2.1 0) (κ.2.1 1) (κ.2.2.2.1 6) (κ.2.2.2.1 7) (κ.2.2.2.1 8) (κ.2.2.2.1 13) (κ.2.2.2.1 15) (κ.2.2.2.1 17) (κ.1 1).toInt) (hpre_0 : L9 (κ.2.2.1 9)) (hpre_1 : 0 ≤ (κ.1 6).toInt) (hpre_2 : (κ.1 6).toInt ≤ 40) (hpre_3 : 0 ≤ (κ.1 7).toInt) (hpre_4 : (κ.1 7).toInt ≤ 41) (hpre_5 : 0 ≤ k0.toInt) (hpre_6 : k0.toInt ≤ 40) (hi4_0 : k0.toInt ≤ y2.toInt) (hi4_1 : y2.toInt ≤ 40) (hi4y_0 : RT lw (tx (κ.2.2.1 9) (κ.1 6)) k0.toInt y2.toInt) (hi4y_1 : y2.toInt - k0.toInt ≤ 5 → y1.toInt = nval (tx (κ.2.2.1 9) (κ.1 6)) k0.toInt (y2.toInt - k0.toInt).toNat) (c3 : (κ.1 6).toInt ≤ y2.toInt) (ex4 : x4 = y2 - k0) (tx4 : x4.toInt = y2.toInt - k0.toInt) (c5 : 5 < x4.toInt) : (κ.1 7).toInt ≤ k0.toInt → k0.toInt < (κ.1 6).toInt → lw (tx (κ.2.2.1 9) (κ.1 6) k0.toInt) → ∃ t9, TokR (tx (κ.2.2.1 9) (κ.1 6)) (κ.1 6).toInt k0.toInt t9 ∧ LXc (κ.2.2.1 10) (κ.2.2.1 11) (κ.2.2.1 12) (κ.1 7) (κ.2.2.1 10) (κ.2.2.1 11) (κ.2.2.1 12) (κ.1 7) k0.toInt (-1 : Int32).toInt t9 := by
  have qm1 : (-1 : Int32).toInt = (-1) := by decide +kernel
  intro h1 h2 h3
  have hl : ¬ lw (tx (κ.2.2.1 9) (κ.1 6) y2.toInt) := by
    first | omega | (rw [tx_o (by omega)]; omega)
  have lt := RT_lt hi4y_0 hl h3
  exact ⟨none, wrdX hi4y_0 hl (by omega) h3, by show (-1 : Int32).toInt ≤ _; omega⟩
-- pre:X4_peek@14 @14
theorem vX4_name_9 (κ : KS) (hpre_0 : L9 (κ.2.2.1 9)) : L9 (κ.2.2.1 9) := by
  first | assumption | omega | (subst_vars; omega) | trivial
-- nw@47 @47
theorem vX4_name_10 (κ : KS) (k0 : Int32) (y2 : Int32) (r12 : Int32) (x15 : Int32) (hpre_1 : 0 ≤ (κ.1 6).toInt) (hpre_2 : (κ.1 6).toInt ≤ 40) (hpre_5 : 0 ≤ k0.toInt) (hpre_6 : k0.toInt ≤ 40) (hi4_0 : k0.toInt ≤ y2.toInt) (hi4_1 : y2.toInt ≤ 40) (c3 : y2.toInt < (κ.1 6).toInt) (hr12_0 : 0 ≤ r12.toInt) (hr12_1 : r12.toInt ≤ 126) (hr12_2 : ¬ r12.toInt = 0 → 0 ≤ y2.toInt ∧ y2.toInt < (κ.1 6).toInt) (ex15 : x15 = y2 - k0) : x15.toInt = y2.toInt - k0.toInt := by
  rw [ex15, z_sub (by omega) (by omega)]; first | done | omega
-- post @63
theorem vX4_name_11 (κ : KS) (k0 : Int32) (y2 : Int32) (r12 : Int32) (x15 : Int32) (n18 : Int32) (hpre_1 : 0 ≤ (κ.1 6).toInt) (hpre_2 : (κ.1 6).toInt ≤ 40) (hpre_5 : 0 ≤ k0.toInt) (hpre_6 : k0.toInt ≤ 40) (hi4_0 : k0.toInt ≤ y2.toInt) (hi4_1 : y2.toInt ≤ 40) (c3 : y2.toInt < (κ.1 6).toInt) (hr12_0 : 0 ≤ r12.toInt) (hr12_1 : r12.toInt ≤ 126) (hr12_2 : ¬ r12.toInt = 0 → 0 ≤ y2.toInt ∧ y2.toInt < (κ.1 6).toInt) (ex15 : x15 = y2 - k0) (tx15 : x15.toInt = y2.toInt - k0.toInt) (c16 : x15.toInt ≤ 5) (hr17_1_0 : 0 ≤ n18.toInt) (hr17_1_1 : n18.toInt ≤ 41) : 0 ≤ n18.toInt ∧ n18.toInt ≤ 41 ∧ y2.toInt ≤ 40 := by
  refine ⟨?_, ?_, ?_⟩ <;> first | assumption | omega | (subst_vars; omega) | trivial
-- post2 @63
theorem vX4_name_12 (ad : Nat → Nat) (κ : KS) (k0 : Int32) (y1 : Int32) (y2 : Int32) (r12 : Int32) (r13 : Int32) (x15 : Int32) (n18 : Int32) (F19 : (Nat → Int32)) (F20 : (Nat → Int32)) (F21 : (Nat → Int32)) (hSV : SV ad κ.2.2.2.2 (κ.2.1 0) (κ.2.1 1) (κ.2.2.2.1 6) (κ.2.2.2.1 7) (κ.2.2.2.1 8) (κ.2.2.2.1 13) (κ.2.2.2.1 15) (κ.2.2.2.1 17) (κ.1 1).toInt) (hpre_0 : L9 (κ.2.2.1 9)) (hpre_1 : 0 ≤ (κ.1 6).toInt) (hpre_2 : (κ.1 6).toInt ≤ 40) (hpre_3 : 0 ≤ (κ.1 7).toInt) (hpre_4 : (κ.1 7).toInt ≤ 41) (hpre_5 : 0 ≤ k0.toInt) (hpre_6 : k0.toInt ≤ 40) (hi4_0 : k0.toInt ≤ y2.toInt) (hi4_1 : y2.toInt ≤ 40) (hi4y_0 : RT lw (tx (κ.2.2.1 9) (κ.1 6)) k0.toInt y2.toInt) (hi4y_1 : y2.toInt - k0.toInt ≤ 5 → y1.toInt = nval (tx (κ.2.2.1 9) (κ.1 6)) k0.toInt (y2.toInt - k0.toInt).toNat) (c3 : y2.toInt < (κ.1 6).toInt) (hr12y : (κ.1 6).toInt ≤ 40 → r12.toInt = tx (κ.2.2.1 9) (κ.1 6) y2.toInt) (hr12_0 : 0 ≤ r12.toInt) (hr12_1 : r12.toInt ≤ 126) (hr12_2 : ¬ r12.toInt = 0 → 0 ≤ y2.toInt ∧ y2.toInt < (κ.1 6).toInt) (hr13y_0 : ¬ r13.toInt = 0 → lw r12.toInt) (hr13y_1 : r13.toInt = 0 → ¬ lw r12.toInt) (hr13_0 : 0 ≤ r13.toInt) (hr13_1 : r13.toInt ≤ 1) (c14 : r13.toInt = 0) (ex15 : x15 = y2 - k0) (tx15 : x15.toInt = y2.toInt - k0.toInt) (c16 : x15.toInt ≤ 5) (hr17y : (κ.1 7).toInt < 41 → ADc (κ.2.2.1 10) (κ.2.2.1 11) (κ.2.2.1 12) (κ.1 7) F19 F20 F21 n18 (2 : Int32) k0 y1) (hr17_1_0 : 0 ≤ n18.toInt) (hr17_1_1 : n18.toInt ≤ 41) : (κ.1 7).toInt ≤ k0.toInt → k0.toInt < (κ.1 6).toInt → lw (tx (κ.2.2.1 9) (κ.1 6) k0.toInt) → ∃ t9, TokR (tx (κ.2.2.1 9) (κ.1 6)) (κ.1 6).toInt k0.toInt t9 ∧ LXc (κ.2.2.1 10) (κ.2.2.1 11) (κ.2.2.1 12) (κ.1 7) F19 F20 F21 n18 k0.toInt y2.toInt t9 := by
  have q2 : (2 : Int32).toInt = 2 := by decide +kernel
  intro h1 h2 h3
  have pk0 := hr12y (by omega)
  have hl : ¬ lw (tx (κ.2.2.1 9) (κ.1 6) y2.toInt) := by
    first | omega | (rw [tx_o (by omega)]; omega)
  have lt := RT_lt hi4y_0 hl h3
  exact ⟨_, wrdN hi4y_0 hl (by omega) (hi4y_1 (by omega)) h3, LXc.add (hr17y (by omega)) rfl (by omega) (by omega) (by first | rfl | omega) rfl⟩
-- post2 @53
theorem vX4_name_13 (ad : Nat → Nat) (κ : KS) (k0 : Int32) (y1 : Int32) (y2 : Int32) (r12 : Int32) (r13 : Int32) (x15 : Int32) (hSV : SV ad κ.2.2.2.2 (κ.2.1 0) (κ.2.1 1) (κ.2.2.2.1 6) (κ.2.2.2.1 7) (κ.2.2.2.1 8) (κ.2.2.2.1 13) (κ.2.2.2.1 15) (κ.2.2.2.1 17) (κ.1 1).toInt) (hpre_0 : L9 (κ.2.2.1 9)) (hpre_1 : 0 ≤ (κ.1 6).toInt) (hpre_2 : (κ.1 6).toInt ≤ 40) (hpre_3 : 0 ≤ (κ.1 7).toInt) (hpre_4 : (κ.1 7).toInt ≤ 41) (hpre_5 : 0 ≤ k0.toInt) (hpre_6 : k0.toInt ≤ 40) (hi4_0 : k0.toInt ≤ y2.toInt) (hi4_1 : y2.toInt ≤ 40) (hi4y_0 : RT lw (tx (κ.2.2.1 9) (κ.1 6)) k0.toInt y2.toInt) (hi4y_1 : y2.toInt - k0.toInt ≤ 5 → y1.toInt = nval (tx (κ.2.2.1 9) (κ.1 6)) k0.toInt (y2.toInt - k0.toInt).toNat) (c3 : y2.toInt < (κ.1 6).toInt) (hr12y : (κ.1 6).toInt ≤ 40 → r12.toInt = tx (κ.2.2.1 9) (κ.1 6) y2.toInt) (hr12_0 : 0 ≤ r12.toInt) (hr12_1 : r12.toInt ≤ 126) (hr12_2 : ¬ r12.toInt = 0 → 0 ≤ y2.toInt ∧ y2.toInt < (κ.1 6).toInt) (hr13y_0 : ¬ r13.toInt = 0 → lw r12.toInt) (hr13y_1 : r13.toInt = 0 → ¬ lw r12.toInt) (hr13_0 : 0 ≤ r13.toInt) (hr13_1 : r13.toInt ≤ 1) (c14 : r13.toInt = 0) (ex15 : x15 = y2 - k0) (tx15 : x15.toInt = y2.toInt - k0.toInt) (c16 : 5 < x15.toInt) : (κ.1 7).toInt ≤ k0.toInt → k0.toInt < (κ.1 6).toInt → lw (tx (κ.2.2.1 9) (κ.1 6) k0.toInt) → ∃ t9, TokR (tx (κ.2.2.1 9) (κ.1 6)) (κ.1 6).toInt k0.toInt t9 ∧ LXc (κ.2.2.1 10) (κ.2.2.1 11) (κ.2.2.1 12) (κ.1 7) (κ.2.2.1 10) (κ.2.2.1 11) (κ.2.2.1 12) (κ.1 7) k0.toInt (-1 : Int32).toInt t9 := by
  have qm1 : (-1 : Int32).toInt = (-1) := by decide +kernel
  intro h1 h2 h3
  have pk0 := hr12y (by omega)
  have hl : ¬ lw (tx (κ.2.2.1 9) (κ.1 6) y2.toInt) := by
    first | omega | (rw [tx_o (by omega)]; omega)
  have lt := RT_lt hi4y_0 hl h3
  exact ⟨none, wrdX hi4y_0 hl (by omega) h3, by show (-1 : Int32).toInt ≤ _; omega⟩
-- nw@39 @39
theorem vX4_name_14 (κ : KS) (k0 : Int32) (y1 : Int32) (y2 : Int32) (r12 : Int32) (x23 : Int32) (r24 : Int32) (x25 : Int32) (x26 : Int32) (x27 : Int32) (x28 : Int32) (hpre_1 : 0 ≤ (κ.1 6).toInt) (hpre_2 : (κ.1 6).toInt ≤ 40) (hpre_5 : 0 ≤ k0.toInt) (hpre_6 : k0.toInt ≤ 40) (hi4_0 : k0.toInt ≤ y2.toInt) (hi4_1 : y2.toInt ≤ 40) (c3 : y2.toInt < (κ.1 6).toInt) (hr12_0 : 0 ≤ r12.toInt) (hr12_1 : r12.toInt ≤ 126) (hr12_2 : ¬ r12.toInt = 0 → 0 ≤ y2.toInt ∧ y2.toInt < (κ.1 6).toInt) (ex23 : x23 = y1 * (27 : Int32)) (hr24_0 : 0 ≤ r24.toInt) (hr24_1 : r24.toInt ≤ 126) (hr24_2 : ¬ r24.toInt = 0 → 0 ≤ y2.toInt ∧ y2.toInt < (κ.1 6).toInt) (ex25 : x25 = r24 - (97 : Int32)) (ex26 : x26 = x25 + (1 : Int32)) (ex27 : x27 = x23 + x26) (ex28 : x28 = y2 + (1 : Int32)) : x28.toInt = y2.toInt + 1 := by
  have q1 : (1 : Int32).toInt = 1 := by decide +kernel
  have q27 : (27 : Int32).toInt = 27 := by decide +kernel
  have q97 : (97 : Int32).toInt = 97 := by decide +kernel
  have z9 : (1 : Int32).toInt = 1 := by decide +kernel
  rw [ex28, z_add (by omega) (by omega)]; first | done | omega
-- inv@4 @4
theorem vX4_name_15 (κ : KS) (k0 : Int32) (y1 : Int32) (y2 : Int32) (r12 : Int32) (x23 : Int32) (r24 : Int32) (x25 : Int32) (x26 : Int32) (x27 : Int32) (x28 : Int32) (hpre_1 : 0 ≤ (κ.1 6).toInt) (hpre_2 : (κ.1 6).toInt ≤ 40) (hpre_5 : 0 ≤ k0.toInt) (hpre_6 : k0.toInt ≤ 40) (hi4_0 : k0.toInt ≤ y2.toInt) (hi4_1 : y2.toInt ≤ 40) (c3 : y2.toInt < (κ.1 6).toInt) (hr12_0 : 0 ≤ r12.toInt) (hr12_1 : r12.toInt ≤ 126) (hr12_2 : ¬ r12.toInt = 0 → 0 ≤ y2.toInt ∧ y2.toInt < (κ.1 6).toInt) (ex23 : x23 = y1 * (27 : Int32)) (hr24_0 : 0 ≤ r24.toInt) (hr24_1 : r24.toInt ≤ 126) (hr24_2 : ¬ r24.toInt = 0 → 0 ≤ y2.toInt ∧ y2.toInt < (κ.1 6).toInt) (ex25 : x25 = r24 - (97 : Int32)) (ex26 : x26 = x25 + (1 : Int32)) (ex27 : x27 = x23 + x26) (ex28 : x28 = y2 + (1 : Int32)) (tx28 : x28.toInt = y2.toInt + 1) : k0.toInt ≤ x28.toInt ∧ x28.toInt ≤ 40 := by
  have q1 : (1 : Int32).toInt = 1 := by decide +kernel
  have q27 : (27 : Int32).toInt = 27 := by decide +kernel
  have q97 : (97 : Int32).toInt = 97 := by decide +kernel
  refine ⟨?_, ?_⟩ <;> first | assumption | omega | (subst_vars; omega) | trivial
-- inv2@4 @4
theorem vX4_name_16 (ad : Nat → Nat) (κ : KS) (k0 : Int32) (y1 : Int32) (y2 : Int32) (r12 : Int32) (r13 : Int32) (x23 : Int32) (r24 : Int32) (x25 : Int32) (x26 : Int32) (x27 : Int32) (x28 : Int32) (hSV : SV ad κ.2.2.2.2 (κ.2.1 0) (κ.2.1 1) (κ.2.2.2.1 6) (κ.2.2.2.1 7) (κ.2.2.2.1 8) (κ.2.2.2.1 13) (κ.2.2.2.1 15) (κ.2.2.2.1 17) (κ.1 1).toInt) (hpre_0 : L9 (κ.2.2.1 9)) (hpre_1 : 0 ≤ (κ.1 6).toInt) (hpre_2 : (κ.1 6).toInt ≤ 40) (hpre_3 : 0 ≤ (κ.1 7).toInt) (hpre_4 : (κ.1 7).toInt ≤ 41) (hpre_5 : 0 ≤ k0.toInt) (hpre_6 : k0.toInt ≤ 40) (hi4_0 : k0.toInt ≤ y2.toInt) (hi4_1 : y2.toInt ≤ 40) (hi4y_0 : RT lw (tx (κ.2.2.1 9) (κ.1 6)) k0.toInt y2.toInt) (hi4y_1 : y2.toInt - k0.toInt ≤ 5 → y1.toInt = nval (tx (κ.2.2.1 9) (κ.1 6)) k0.toInt (y2.toInt - k0.toInt).toNat) (c3 : y2.toInt < (κ.1 6).toInt) (hr12y : (κ.1 6).toInt ≤ 40 → r12.toInt = tx (κ.2.2.1 9) (κ.1 6) y2.toInt) (hr12_0 : 0 ≤ r12.toInt) (hr12_1 : r12.toInt ≤ 126) (hr12_2 : ¬ r12.toInt = 0 → 0 ≤ y2.toInt ∧ y2.toInt < (κ.1 6).toInt) (hr13y_0 : ¬ r13.toInt = 0 → lw r12.toInt) (hr13y_1 : r13.toInt = 0 → ¬ lw r12.toInt) (hr13_0 : 0 ≤ r13.toInt) (hr13_1 : r13.toInt ≤ 1) (c14 : ¬ r13.toInt = 0) (ex23 : x23 = y1 * (27 : Int32)) (hr24y : (κ.1 6).toInt ≤ 40 → r24.toInt = tx (κ.2.2.1 9) (κ.1 6) y2.toInt) (hr24_0 : 0 ≤ r24.toInt) (hr24_1 : r24.toInt ≤ 126) (hr24_2 : ¬ r24.toInt = 0 → 0 ≤ y2.toInt ∧ y2.toInt < (κ.1 6).toInt) (ex25 : x25 = r24 - (97 : Int32)) (ex26 : x26 = x25 + (1 : Int32)) (ex27 : x27 = x23 + x26) (ex28 : x28 = y2 + (1 : Int32)) (tx28 : x28.toInt = y2.toInt + 1) : RT lw (tx (κ.2.2.1 9) (κ.1 6)) k0.toInt x28.toInt ∧ (x28.toInt - k0.toInt ≤ 5 → x27.toInt = nval (tx (κ.2.2.1 9) (κ.1 6)) k0.toInt (x28.toInt - k0.toInt).toNat) := by
  have q1 : (1 : Int32).toInt = 1 := by decide +kernel
  have q27 : (27 : Int32).toInt = 27 := by decide +kernel
  have q97 : (97 : Int32).toInt = 97 := by decide +kernel
  have pk0 := hr12y (by omega)
  have pk1 := hr24y (by omega)
  refine ⟨RT.up hi4y_0 (by omega) (by omega), fun h9 => ?_⟩
  have nb := nval_b hi4y_0 (by omega)
  have e0 := hi4y_1 (by omega)
  have e1 : x23.toInt = 27 * y1.toInt := by rw [ex23, Int32.mul_comm]; exact z_mulc 27 (by decide +kernel) (by omega) (by omega)
  have w97 : (97 : Int32).toInt = 97 := by decide +kernel
  have e2 : x25.toInt = r24.toInt - 97 := by rw [ex25, z_sub (by omega) (by omega)]; omega
  have e3 : x26.toInt = x25.toInt + 1 := by rw [ex26, z_add (by omega) (by omega)]; omega
  have e4 : x27.toInt = x23.toInt + x26.toInt := by rw [ex27, z_add (by omega) (by omega)]
  exact nvl_up (k := y2.toInt) e0 (by omega) (by omega) (by omega)
-- meas@4 @4
theorem vX4_name_17 (κ : KS) (k0 : Int32) (y1 : Int32) (y2 : Int32) (r12 : Int32) (x23 : Int32) (r24 : Int32) (x25 : Int32) (x26 : Int32) (x27 : Int32) (x28 : Int32) (hpre_1 : 0 ≤ (κ.1 6).toInt) (hpre_2 : (κ.1 6).toInt ≤ 40) (hpre_5 : 0 ≤ k0.toInt) (hpre_6 : k0.toInt ≤ 40) (hi4_0 : k0.toInt ≤ y2.toInt) (hi4_1 : y2.toInt ≤ 40) (c3 : y2.toInt < (κ.1 6).toInt) (hr12_0 : 0 ≤ r12.toInt) (hr12_1 : r12.toInt ≤ 126) (hr12_2 : ¬ r12.toInt = 0 → 0 ≤ y2.toInt ∧ y2.toInt < (κ.1 6).toInt) (ex23 : x23 = y1 * (27 : Int32)) (hr24_0 : 0 ≤ r24.toInt) (hr24_1 : r24.toInt ≤ 126) (hr24_2 : ¬ r24.toInt = 0 → 0 ≤ y2.toInt ∧ y2.toInt < (κ.1 6).toInt) (ex25 : x25 = r24 - (97 : Int32)) (ex26 : x26 = x25 + (1 : Int32)) (ex27 : x27 = x23 + x26) (ex28 : x28 = y2 + (1 : Int32)) (tx28 : x28.toInt = y2.toInt + 1) : (40 - x28.toInt).toNat < (40 - y2.toInt).toNat := by
  have q1 : (1 : Int32).toInt = 1 := by decide +kernel
  have q27 : (27 : Int32).toInt = 27 := by decide +kernel
  have q97 : (97 : Int32).toInt = 97 := by decide +kernel
  first | assumption | omega | (subst_vars; omega) | trivial
set_option maxHeartbeats 4000000 in
set_option maxRecDepth 100000 in
theorem NX4_name (l : Launch) (D : va_G) (cy : Nat → ClassId) (ad : Nat → Nat) (A : Nat → Prop) (sz0 : Nat) (sa : Nat → Nat)  (κ : KS) (sz sl : Nat) (hAF : ∀ q, A q → Fr sz0 q) (hAn : ∀ q : Nat, sz ≤ q → A q) (k0 : Int32) (hSV : SV ad κ.2.2.2.2 (κ.2.1 0) (κ.2.1 1) (κ.2.2.2.1 6) (κ.2.2.2.1 7) (κ.2.2.2.1 8) (κ.2.2.2.1 13) (κ.2.2.2.1 15) (κ.2.2.2.1 17) (κ.1 1).toInt) (hpre : L9 (κ.2.2.1 9) ∧ 0 ≤ (κ.1 6).toInt ∧ (κ.1 6).toInt ≤ 40 ∧ 0 ≤ (κ.1 7).toInt ∧ (κ.1 7).toInt ≤ 41 ∧ 0 ≤ k0.toInt ∧ k0.toInt ≤ 40) : Met l yX4_name (Cond.code yX4_name cX4_name 4 (some .int) :: GWc) ({ frames := 1, cells := 0, slots := 0, locals := 24 }) (PcC D cy ad A sz0 sa [.ref (ad 2), .int k0] κ sz sl) (va_Qi (fun (r : Int32) (u : Int32 × (Nat → Int32) × (Nat → Int32) × (Nat → Int32) × (Nat → Option Nat)) => ((SV ad κ.2.2.2.2 (κ.2.1 0) (κ.2.1 1) (κ.2.2.2.1 6) (κ.2.2.2.1 7) (κ.2.2.2.1 8) u.2.2.2.2 (κ.2.2.2.1 15) (κ.2.2.2.1 17) (κ.1 1).toInt) ∧ (0 ≤ u.1.toInt ∧ u.1.toInt ≤ 41 ∧ r.toInt ≤ 40)) ∧ ((κ.1 7).toInt ≤ k0.toInt → k0.toInt < (κ.1 6).toInt → lw (tx (κ.2.2.1 9) (κ.1 6) k0.toInt) → ∃ t9, TokR (tx (κ.2.2.1 9) (κ.1 6)) (κ.1 6).toInt k0.toInt t9 ∧ LXc (κ.2.2.1 10) (κ.2.2.1 11) (κ.2.2.1 12) (κ.1 7) u.2.1 u.2.2.1 u.2.2.2.1 u.1 k0.toInt r.toInt t9)) (fun (u : Int32 × (Nat → Int32) × (Nat → Int32) × (Nat → Int32) × (Nat → Option Nat)) (t : State) => Bx D cy ad A sz sl (tQ (tA (tA (tA (tI κ 7 u.1) 10 u.2.1) 11 u.2.2.1) 12 u.2.2.2.1) 13 u.2.2.2.2) (0) (0) t) A) (0) (0) A := by
  refine CM_of (loc0 := [(0, .ref (ad 2)), (1, .int k0)]) (own := RX4) (nm := "name") (by decide) rfl rfl rfl (Nat.le_of_ble_eq_true rfl) hAF hAn ?_
  intro p e s m below meth c ls hsz hsl C hP hS hl
  obtain ⟨hpre_0, hpre_1, hpre_2, hpre_3, hpre_4, hpre_5, hpre_6⟩ := hpre
  refine lv_iconst (v := 0) C.x C.b dX4_name_0 (by decide +kernel) ?_
  refine lv_istore_n (lv' := [(2, .int 0), (0, .ref (ad 2)), (1, .int k0)]) C.x C.b dX4_name_1 rfl hl (by decide) rfl (fun ls hl => ?_)
  refine lv_iload_n C.x C.b dX4_name_2 rfl (lv_at hl 2 rfl) ?_
  refine lv_istore_n (lv' := [(3, .int k0), (2, .int 0), (0, .ref (ad 2)), (1, .int k0)]) C.x C.b dX4_name_3 rfl hl (by decide) rfl (fun ls hl => ?_)
  have lp4 : ∀ (n : Nat) (y1 : Int32) (y2 : Int32) (H : Heap) (locs : List Loc) (ls : Array Slot), (40 - y2.toInt).toNat < n → ((k0.toInt ≤ y2.toInt ∧ y2.toInt ≤ 40) ∧ (RT lw (tx (κ.2.2.1 9) (κ.1 6)) k0.toInt y2.toInt ∧ (y2.toInt - k0.toInt ≤ 5 → y1.toInt = nval (tx (κ.2.2.1 9) (κ.1 6)) k0.toInt (y2.toInt - k0.toInt).toNat))) → CH D cy ad A κ H → va_S A s.heap H locs → lv_has ls 4 [(3, .int y2), (2, .int y1), (0, .ref (ad 2)), (1, .int k0)] → W p l e (headSpec (Cond.code yX4_name cX4_name 4 (some .int) :: GWc) ({ frames := 1, cells := 0, slots := 0, locals := 24 })).room s m #[.ref (ad 2), .int k0] below meth c H locs (0) (0) (MQ below (va_Qi (fun (r : Int32) (u : Int32 × (Nat → Int32) × (Nat → Int32) × (Nat → Int32) × (Nat → Option Nat)) => ((SV ad κ.2.2.2.2 (κ.2.1 0) (κ.2.1 1) (κ.2.2.2.1 6) (κ.2.2.2.1 7) (κ.2.2.2.1 8) u.2.2.2.2 (κ.2.2.2.1 15) (κ.2.2.2.1 17) (κ.1 1).toInt) ∧ (0 ≤ u.1.toInt ∧ u.1.toInt ≤ 41 ∧ r.toInt ≤ 40)) ∧ ((κ.1 7).toInt ≤ k0.toInt → k0.toInt < (κ.1 6).toInt → lw (tx (κ.2.2.1 9) (κ.1 6) k0.toInt) → ∃ t9, TokR (tx (κ.2.2.1 9) (κ.1 6)) (κ.1 6).toInt k0.toInt t9 ∧ LXc (κ.2.2.1 10) (κ.2.2.1 11) (κ.2.2.1 12) (κ.1 7) u.2.1 u.2.2.1 u.2.2.2.1 u.1 k0.toInt r.toInt t9)) (fun (u : Int32 × (Nat → Int32) × (Nat → Int32) × (Nat → Int32) × (Nat → Option Nat)) (t : State) => Bx D cy ad A sz sl (tQ (tA (tA (tA (tI κ 7 u.1) 10 u.2.1) 11 u.2.2.1) 12 u.2.2.2.1) 13 u.2.2.2.2) (0) (0) t) A) #[.ref (ad 2), .int k0] s (0) (0) A) (F0 m 4 ls []) := by
    intro n
    induction n with
    | zero => intro y1 y2 H locs ls hn; exact absurd hn (Nat.not_lt_zero _)
    | succ n4 ih4 =>
      intro y1 y2 H locs ls hn4  hi4 hP hS hl
      obtain ⟨hi4, hi4y⟩ := hi4
      obtain ⟨hi4_0, hi4_1⟩ := hi4
      obtain ⟨hi4y_0, hi4y_1⟩ := hi4y
      refine lv_iload_n C.x C.b dX4_name_4 rfl (lv_at hl 0 rfl) ?_
      refine lv_aload_n C.x C.b dX4_name_5 rfl (lv_at hl 2 rfl) ?_
      refine cg_X4_1 (v := (κ.1 6)) C hP rfl cw_474 dX4_name_6 ?_
      refine lv_icmp_ge (tgt := 45) C.x C.b dX4_name_9 (by decide) (fun c3 => ?_) (fun c3 => ?_)
      · have c3 : (κ.1 6).toInt ≤ y2.toInt := by have h := z_le c3; exact h
        refine lv_iload_n C.x C.b dX4_name_45 rfl (lv_at hl 0 rfl) ?_
        refine lv_iload_n C.x C.b dX4_name_46 rfl (lv_at hl 3 rfl) ?_
        refine lv_isub C.x C.b dX4_name_47 ?_
        refine lv_topi (fun x4 ex4 => ?_)
        have tx4 : x4.toInt = y2.toInt - k0.toInt := (vX4_name_3 κ k0 y2 x4 hpre_1 hpre_2 hpre_5 hpre_6 hi4_0 hi4_1 c3 ex4)
        refine lv_iconst (v := 5) C.x C.b dX4_name_48 (by decide +kernel) ?_
        refine lv_icmp_le (tgt := 54) C.x C.b dX4_name_49 (by decide) (fun c5 => ?_) (fun c5 => ?_)
        · have c5 : x4.toInt ≤ 5 := by have h := z_le c5; rw [show (5 : Int32).toInt = 5 from by decide +kernel] at h; exact h
          refine lv_aload_n C.x C.b dX4_name_54 rfl (lv_at hl 2 rfl) ?_
          refine lv_iconst (v := 2) C.x C.b dX4_name_55 (by decide +kernel) ?_
          refine lv_iload_n C.x C.b dX4_name_56 rfl (lv_at hl 3 rfl) ?_
          refine lv_iload_n C.x C.b dX4_name_57 rfl (lv_at hl 1 rfl) ?_
          refine lv_null C.x C.b dX4_name_58 ?_
          refine c_callVv (n := 4) (As := [.int 2, .int k0, .int y1, .null]) (rest := []) C hP hS hl.1 (NX4_add l D cy ad A sz0 sa κ H.size (SLT H) C.f (fun q h => C.a q (Nat.le_trans hS.1 h)) (2 : Int32) k0 y1 none nt_n hSV (vX4_name_4 κ hpre_3 hpre_4)) ⟨cw_509, cw_512, by decide +kernel⟩ ⟨cw_510, cw_511, cw_484⟩ rfl (hP.recvS (k := 2) (ci := 6) C.K rfl rfl) rfl rfl (lv_room (Nat.le_of_ble_eq_true rfl)) ⟨Nat.le_of_ble_eq_true rfl, Nat.le_of_ble_eq_true rfl⟩ ⟨(Nat.le_of_ble_eq_true rfl), (Nat.le_of_ble_eq_true rfl)⟩ dX4_name_59 (fun u H locs hr6 hP hS => ?_)
          obtain ⟨n7, F8, F9, F10, Z11⟩ := u
          have hP : CH D cy ad A (tQ (tA (tA (tA (tI κ 7 n7) 10 F8) 11 F9) 12 F10) 13 Z11) H := hP
          obtain ⟨hr6, hr6y⟩ := hr6
          have hr6y : (κ.1 7).toInt < 41 → ADc (κ.2.2.1 10) (κ.2.2.1 11) (κ.2.2.1 12) (κ.1 7) F8 F9 F10 n7 (2 : Int32) k0 y1 := hr6y
          have hr6 : (SV ad κ.2.2.2.2 (κ.2.1 0) (κ.2.1 1) (κ.2.2.2.1 6) (κ.2.2.2.1 7) (κ.2.2.2.1 8) Z11 (κ.2.2.2.1 15) (κ.2.2.2.1 17) (κ.1 1).toInt) ∧ (0 ≤ n7.toInt ∧ n7.toInt ≤ 41) := hr6
          obtain ⟨hr6_0, hr6_1⟩ := hr6
          obtain ⟨hr6_1_0, hr6_1_1⟩ := hr6_1
          refine lv_iload_n C.x C.b dX4_name_62 rfl (lv_at hl 0 rfl) ?_
          exact c_reti C hsz hsl ⟨n7, F8, F9, F10, Z11⟩ ⟨⟨hr6_0, (vX4_name_5 κ k0 y2 x4 n7 hpre_1 hpre_2 hpre_5 hpre_6 hi4_0 hi4_1 c3 ex4 tx4 c5 hr6_1_0 hr6_1_1)⟩, (vX4_name_6 ad κ k0 y1 y2 x4 n7 F8 F9 F10 hSV hpre_0 hpre_1 hpre_2 hpre_3 hpre_4 hpre_5 hpre_6 hi4_0 hi4_1 hi4y_0 hi4y_1 c3 ex4 tx4 c5 hr6y hr6_1_0 hr6_1_1)⟩ hP hS ⟨(Nat.le_of_ble_eq_true rfl), (Nat.le_of_ble_eq_true rfl)⟩ ⟨(Nat.le_of_ble_eq_true rfl), (Nat.le_of_ble_eq_true rfl)⟩ dX4_name_63
        · have c5 : 5 < x4.toInt := by have h := z_nle c5; rw [show (5 : Int32).toInt = 5 from by decide +kernel] at h; exact h
          refine lv_iconst (v := (-1)) C.x C.b dX4_name_52 (by decide +kernel) ?_
          have hP : CH D cy ad A (tQ (tA (tA (tA (tI κ 7 (κ.1 7)) 10 (κ.2.2.1 10)) 11 (κ.2.2.1 11)) 12 (κ.2.2.1 12)) 13 (κ.2.2.2.1 13)) H := CH.cong hP rfl rfl rfl rfl rfl rfl rfl rfl rfl rfl rfl rfl rfl rfl rfl rfl rfl rfl rfl rfl rfl rfl rfl rfl rfl rfl rfl
          exact c_reti C hsz hsl ⟨(κ.1 7), (κ.2.2.1 10), (κ.2.2.1 11), (κ.2.2.1 12), (κ.2.2.2.1 13)⟩ ⟨⟨hSV, (vX4_name_7 κ hpre_3 hpre_4)⟩, (vX4_name_8 ad κ k0 y1 y2 x4 hSV hpre_0 hpre_1 hpre_2 hpre_3 hpre_4 hpre_5 hpre_6 hi4_0 hi4_1 hi4y_0 hi4y_1 c3 ex4 tx4 c5)⟩ hP hS ⟨(Nat.le_of_ble_eq_true rfl), (Nat.le_of_ble_eq_true rfl)⟩ ⟨(Nat.le_of_ble_eq_true rfl), (Nat.le_of_ble_eq_true rfl)⟩ dX4_name_53
      · have c3 : y2.toInt < (κ.1 6).toInt := by have h := z_nle c3; exact h
        refine lv_aload_n C.x C.b dX4_name_12 rfl (lv_at hl 2 rfl) ?_
        refine lv_iload_n C.x C.b dX4_name_13 rfl (lv_at hl 0 rfl) ?_
        refine c_callVi (n := 1) (As := [.int y2]) (rest := []) C hP hS hl.1 (NX4_peek l D cy ad A sz0 sa κ H.size (SLT H) C.f (fun q h => C.a q (Nat.le_trans hS.1 h)) y2 (vX4_name_9 κ hpre_0)) ⟨cw_481, cw_485, by decide +kernel⟩ ⟨cw_482, cw_483, cw_484⟩ rfl (hP.recvS (k := 2) (ci := 6) C.K rfl rfl) rfl rfl (lv_room (Nat.le_of_ble_eq_true rfl)) ⟨Nat.le_of_ble_eq_true rfl, Nat.le_of_ble_eq_true rfl⟩ ⟨(Nat.le_of_ble_eq_true rfl), (Nat.le_of_ble_eq_true rfl)⟩ dX4_name_14 (fun r12 u H locs hr12 hP hS => ?_)
        obtain ⟨hr12, hr12y⟩ := hr12
        have hr12y : (κ.1 6).toInt ≤ 40 → r12.toInt = tx (κ.2.2.1 9) (κ.1 6) y2.toInt := hr12y
        have hr12 : (0 ≤ r12.toInt ∧ r12.toInt ≤ 126 ∧ (¬ r12.toInt = 0 → 0 ≤ y2.toInt ∧ y2.toInt < (κ.1 6).toInt)) := hr12
        obtain ⟨hr12_0, hr12_1, hr12_2⟩ := hr12
        refine c_callSi (C2 := "") (b := 0) (n := 1) (As := [.int r12]) (rest := []) C hP hS hl.1 (NX4_isLowerCase l D cy ad A sz0 sa κ H.size (SLT H) C.f (fun q h => C.a q (Nat.le_trans hS.1 h)) r12 ) ⟨cw_514, cw_516, by decide +kernel⟩ ⟨cw_515, cw_484⟩ rfl rfl (lv_room (Nat.le_of_ble_eq_true rfl)) ⟨Nat.le_of_ble_eq_true rfl, Nat.le_of_ble_eq_true rfl⟩ ⟨(Nat.le_of_ble_eq_true rfl), (Nat.le_of_ble_eq_true rfl)⟩ dX4_name_17 (fun r13 u H locs hr13 hP hS => ?_)
        obtain ⟨hr13, hr13y⟩ := hr13
        have hr13y : (¬ r13.toInt = 0 → lw r12.toInt) ∧ (r13.toInt = 0 → ¬ lw r12.toInt) := hr13y
        have hr13 : (0 ≤ r13.toInt ∧ r13.toInt ≤ 1) := hr13
        obtain ⟨hr13y_0, hr13y_1⟩ := hr13y
        obtain ⟨hr13_0, hr13_1⟩ := hr13
        refine lv_if_eq (tgt := 45) C.x C.b dX4_name_20 (by decide) (fun c14 => ?_) (fun c14 => ?_)
        · have c14 : r13.toInt = 0 := by have h := z_eq c14; rw [show (0 : Int32).toInt = 0 from by decide +kernel] at h; exact h
          refine lv_iload_n C.x C.b dX4_name_45 rfl (lv_at hl 0 rfl) ?_
          refine lv_iload_n C.x C.b dX4_name_46 rfl (lv_at hl 3 rfl) ?_
          refine lv_isub C.x C.b dX4_name_47 ?_
          refine lv_topi (fun x15 ex15 => ?_)
          have tx15 : x15.toInt = y2.toInt - k0.toInt := (vX4_name_10 κ k0 y2 r12 x15 hpre_1 hpre_2 hpre_5 hpre_6 hi4_0 hi4_1 c3 hr12_0 hr12_1 hr12_2 ex15)
          refine lv_iconst (v := 5) C.x C.b dX4_name_48 (by decide +kernel) ?_
          refine lv_icmp_le (tgt := 54) C.x C.b dX4_name_49 (by decide) (fun c16 => ?_) (fun c16 => ?_)
          · have c16 : x15.toInt ≤ 5 := by have h := z_le c16; rw [show (5 : Int32).toInt = 5 from by decide +kernel] at h; exact h
            refine lv_aload_n C.x C.b dX4_name_54 rfl (lv_at hl 2 rfl) ?_
            refine lv_iconst (v := 2) C.x C.b dX4_name_55 (by decide +kernel) ?_
            refine lv_iload_n C.x C.b dX4_name_56 rfl (lv_at hl 3 rfl) ?_
            refine lv_iload_n C.x C.b dX4_name_57 rfl (lv_at hl 1 rfl) ?_
            refine lv_null C.x C.b dX4_name_58 ?_
            refine c_callVv (n := 4) (As := [.int 2, .int k0, .int y1, .null]) (rest := []) C hP hS hl.1 (NX4_add l D cy ad A sz0 sa κ H.size (SLT H) C.f (fun q h => C.a q (Nat.le_trans hS.1 h)) (2 : Int32) k0 y1 none nt_n hSV (vX4_name_4 κ hpre_3 hpre_4)) ⟨cw_509, cw_512, by decide +kernel⟩ ⟨cw_510, cw_511, cw_484⟩ rfl (hP.recvS (k := 2) (ci := 6) C.K rfl rfl) rfl rfl (lv_room (Nat.le_of_ble_eq_true rfl)) ⟨Nat.le_of_ble_eq_true rfl, Nat.le_of_ble_eq_true rfl⟩ ⟨(Nat.le_of_ble_eq_true rfl), (Nat.le_of_ble_eq_true rfl)⟩ dX4_name_59 (fun u H locs hr17 hP hS => ?_)
            obtain ⟨n18, F19, F20, F21, Z22⟩ := u
            have hP : CH D cy ad A (tQ (tA (tA (tA (tI κ 7 n18) 10 F19) 11 F20) 12 F21) 13 Z22) H := hP
            obtain ⟨hr17, hr17y⟩ := hr17
            have hr17y : (κ.1 7).toInt < 41 → ADc (κ.2.2.1 10) (κ.2.2.1 11) (κ.2.2.1 12) (κ.1 7) F19 F20 F21 n18 (2 : Int32) k0 y1 := hr17y
            have hr17 : (SV ad κ.2.2.2.2 (κ.2.1 0) (κ.2.1 1) (κ.2.2.2.1 6) (κ.2.2.2.1 7) (κ.2.2.2.1 8) Z22 (κ.2.2.2.1 15) (κ.2.2.2.1 17) (κ.1 1).toInt) ∧ (0 ≤ n18.toInt ∧ n18.toInt ≤ 41) := hr17
            obtain ⟨hr17_0, hr17_1⟩ := hr17
            obtain ⟨hr17_1_0, hr17_1_1⟩ := hr17_1
            refine lv_iload_n C.x C.b dX4_name_62 rfl (lv_at hl 0 rfl) ?_
            exact c_reti C hsz hsl ⟨n18, F19, F20, F21, Z22⟩ ⟨⟨hr17_0, (vX4_name_11 κ k0 y2 r12 x15 n18 hpre_1 hpre_2 hpre_5 hpre_6 hi4_0 hi4_1 c3 hr12_0 hr12_1 hr12_2 ex15 tx15 c16 hr17_1_0 hr17_1_1)⟩, (vX4_name_12 ad κ k0 y1 y2 r12 r13 x15 n18 F19 F20 F21 hSV hpre_0 hpre_1 hpre_2 hpre_3 hpre_4 hpre_5 hpre_6 hi4_0 hi4_1 hi4y_0 hi4y_1 c3 hr12y hr12_0 hr12_1 hr12_2 hr13y_0 hr13y_1 hr13_0 hr13_1 c14 ex15 tx15 c16 hr17y hr17_1_0 hr17_1_1)⟩ hP hS ⟨(Nat.le_of_ble_eq_true rfl), (Nat.le_of_ble_eq_true rfl)⟩ ⟨(Nat.le_of_ble_eq_true rfl), (Nat.le_of_ble_eq_true rfl)⟩ dX4_name_63
          · have c16 : 5 < x15.toInt := by have h := z_nle c16; rw [show (5 : Int32).toInt = 5 from by decide +kernel] at h; exact h
            refine lv_iconst (v := (-1)) C.x C.b dX4_name_52 (by decide +kernel) ?_
            have hP : CH D cy ad A (tQ (tA (tA (tA (tI κ 7 (κ.1 7)) 10 (κ.2.2.1 10)) 11 (κ.2.2.1 11)) 12 (κ.2.2.1 12)) 13 (κ.2.2.2.1 13)) H := CH.cong hP rfl rfl rfl rfl rfl rfl rfl rfl rfl rfl rfl rfl rfl rfl rfl rfl rfl rfl rfl rfl rfl rfl rfl rfl rfl rfl rfl
            exact c_reti C hsz hsl ⟨(κ.1 7), (κ.2.2.1 10), (κ.2.2.1 11), (κ.2.2.1 12), (κ.2.2.2.1 13)⟩ ⟨⟨hSV, (vX4_name_7 κ hpre_3 hpre_4)⟩, (vX4_name_13 ad κ k0 y1 y2 r12 r13 x15 hSV hpre_0 hpre_1 hpre_2 hpre_3 hpre_4 hpre_5 hpre_6 hi4_0 hi4_1 hi4y_0 hi4y_1 c3 hr12y hr12_0 hr12_1 hr12_2 hr13y_0 hr13y_1 hr13_0 hr13_1 c14 ex15 tx15 c16)⟩ hP hS ⟨(Nat.le_of_ble_eq_true rfl), (Nat.le_of_ble_eq_true rfl)⟩ ⟨(Nat.le_of_ble_eq_true rfl), (Nat.le_of_ble_eq_true rfl)⟩ dX4_name_53
        · have c14 : ¬ r13.toInt = 0 := by have h := z_ne c14; rw [show (0 : Int32).toInt = 0 from by decide +kernel] at h; exact h
          refine lv_iload_n C.x C.b dX4_name_23 rfl (lv_at hl 1 rfl) ?_
          refine lv_bipush (v := 27) C.x C.b dX4_name_24 (by decide +kernel) ?_
          refine lv_imul C.x C.b dX4_name_26 ?_
          refine lv_topi (fun x23 ex23 => ?_)
          refine lv_aload_n C.x C.b dX4_name_27 rfl (lv_at hl 2 rfl) ?_
          refine lv_iload_n C.x C.b dX4_name_28 rfl (lv_at hl 0 rfl) ?_
          refine c_callVi (n := 1) (As := [.int y2]) (rest := [.int x23]) C hP hS hl.1 (NX4_peek l D cy ad A sz0 sa κ H.size (SLT H) C.f (fun q h => C.a q (Nat.le_trans hS.1 h)) y2 (vX4_name_9 κ hpre_0)) ⟨cw_481, cw_485, by decide +kernel⟩ ⟨cw_482, cw_483, cw_484⟩ rfl (hP.recvS (k := 2) (ci := 6) C.K rfl rfl) rfl rfl (lv_room (Nat.le_of_ble_eq_true rfl)) ⟨Nat.le_of_ble_eq_true rfl, Nat.le_of_ble_eq_true rfl⟩ ⟨(Nat.le_of_ble_eq_true rfl), (Nat.le_of_ble_eq_true rfl)⟩ dX4_name_29 (fun r24 u H locs hr24 hP hS => ?_)
          obtain ⟨hr24, hr24y⟩ := hr24
          have hr24y : (κ.1 6).toInt ≤ 40 → r24.toInt = tx (κ.2.2.1 9) (κ.1 6) y2.toInt := hr24y
          have hr24 : (0 ≤ r24.toInt ∧ r24.toInt ≤ 126 ∧ (¬ r24.toInt = 0 → 0 ≤ y2.toInt ∧ y2.toInt < (κ.1 6).toInt)) := hr24
          obtain ⟨hr24_0, hr24_1, hr24_2⟩ := hr24
          refine lv_bipush (v := 97) C.x C.b dX4_name_32 (by decide +kernel) ?_
          refine lv_isub C.x C.b dX4_name_34 ?_
          refine lv_topi (fun x25 ex25 => ?_)
          refine lv_iconst (v := 1) C.x C.b dX4_name_35 (by decide +kernel) ?_
          refine lv_iadd C.x C.b dX4_name_36 ?_
          refine lv_topi (fun x26 ex26 => ?_)
          refine lv_iadd C.x C.b dX4_name_37 ?_
          refine lv_topi (fun x27 ex27 => ?_)
          refine lv_istore_n (lv' := [(2, .int x27), (3, .int y2), (0, .ref (ad 2)), (1, .int k0)]) C.x C.b dX4_name_38 rfl hl (by decide) rfl (fun ls hl => ?_)
          obtain ⟨x28, ex28⟩ : ∃ y : Int32, y = y2 + (1 : Int32) := ⟨_, rfl⟩
          have tx28 : x28.toInt = y2.toInt + 1 := (vX4_name_14 κ k0 y1 y2 r12 x23 r24 x25 x26 x27 x28 hpre_1 hpre_2 hpre_5 hpre_6 hi4_0 hi4_1 c3 hr12_0 hr12_1 hr12_2 ex23 hr24_0 hr24_1 hr24_2 ex25 ex26 ex27 ex28)
          refine lv_iinc (v := x28) (lv' := [(3, .int x28), (2, .int x27), (0, .ref (ad 2)), (1, .int k0)]) C.x C.b dX4_name_39 hl (k := 1) rfl (by rw [ex28]; rfl) (by decide) rfl (fun ls hl => ?_)
          refine lv_goto (tgt := 4) C.x C.b dX4_name_42 (by decide) ?_
          refine W.widen (k := 0) (n := 0) (Nat.le_of_ble_eq_true rfl) (Nat.le_of_ble_eq_true rfl) ?_
          exact ih4 x27 x28 _ _ _ (Nat.lt_of_lt_of_le (vX4_name_17 κ k0 y1 y2 r12 x23 r24 x25 x26 x27 x28 hpre_1 hpre_2 hpre_5 hpre_6 hi4_0 hi4_1 c3 hr12_0 hr12_1 hr12_2 ex23 hr24_0 hr24_1 hr24_2 ex25 ex26 ex27 ex28 tx28) (Nat.le_of_lt_succ hn4))  ⟨(vX4_name_15 κ k0 y1 y2 r12 x23 r24 x25 x26 x27 x28 hpre_1 hpre_2 hpre_5 hpre_6 hi4_0 hi4_1 c3 hr12_0 hr12_1 hr12_2 ex23 hr24_0 hr24_1 hr24_2 ex25 ex26 ex27 ex28 tx28), (vX4_name_16 ad κ k0 y1 y2 r12 r13 x23 r24 x25 x26 x27 x28 hSV hpre_0 hpre_1 hpre_2 hpre_3 hpre_4 hpre_5 hpre_6 hi4_0 hi4_1 hi4y_0 hi4y_1 c3 hr12y hr12_0 hr12_1 hr12_2 hr13y_0 hr13y_1 hr13_0 hr13_1 c14 ex23 hr24y hr24_0 hr24_1 hr24_2 ex25 ex26 ex27 ex28 tx28)⟩ hP hS (lv_sub hl [0, 1, 2, 3] rfl)
  refine W.widen (k := 0) (n := 0) (Nat.le_of_ble_eq_true rfl) (Nat.le_of_ble_eq_true rfl) ?_
  exact lp4 ((40 - k0.toInt).toNat + 1) (0 : Int32) k0 _ _ _ (Nat.lt_succ_self _)  ⟨(vX4_name_1 k0 hpre_5 hpre_6), (vX4_name_2 ad κ k0 hSV hpre_0 hpre_1 hpre_2 hpre_3 hpre_4 hpre_5 hpre_6)⟩ hP hS (lv_sub hl [0, 1, 2, 3] rfl)

-- pre:X4_peek@2 @2
theorem vX4_sign_1 (κ : KS) (hpre_0 : L9 (κ.2.2.1 9)) : L9 (κ.2.2.1 9) := by
  first | assumption | omega | (subst_vars; omega) | trivial
-- nw@8 @8
theorem vX4_sign_2 (κ : KS) (k0 : Int32) (r1 : Int32) (x2 : Int32) (hpre_1 : 0 ≤ (κ.1 6).toInt) (hpre_2 : (κ.1 6).toInt ≤ 40) (hpre_5 : 0 ≤ k0.toInt) (hpre_6 : k0.toInt ≤ 40) (hr1_0 : 0 ≤ r1.toInt) (hr1_1 : r1.toInt ≤ 126) (hr1_2 : ¬ r1.toInt = 0 → 0 ≤ k0.toInt ∧ k0.toInt < (κ.1 6).toInt) (ex2 : x2 = r1 * (256 : Int32)) : x2.toInt = r1.toInt * 256 := by
  have q256 : (256 : Int32).toInt = 256 := by decide +kernel
  have w1 : (256 : Int32).toInt = 256 := by decide +kernel
  rw [ex2, Int32.mul_comm, z_mulc 256 w1 (by omega) (by omega)]; omega
-- nw@12 @12
theorem vX4_sign_3 (κ : KS) (k0 : Int32) (r1 : Int32) (x2 : Int32) (x3 : Int32) (hpre_1 : 0 ≤ (κ.1 6).toInt) (hpre_2 : (κ.1 6).toInt ≤ 40) (hpre_5 : 0 ≤ k0.toInt) (hpre_6 : k0.toInt ≤ 40) (hr1_0 : 0 ≤ r1.toInt) (hr1_1 : r1.toInt ≤ 126) (hr1_2 : ¬ r1.toInt = 0 → 0 ≤ k0.toInt ∧ k0.toInt < (κ.1 6).toInt) (ex2 : x2 = r1 * (256 : Int32)) (tx2 : x2.toInt = r1.toInt * 256) (ex3 : x3 = k0 + (1 : Int32)) : x3.toInt = k0.toInt + 1 := by
  have q1 : (1 : Int32).toInt = 1 := by decide +kernel
  have q256 : (256 : Int32).toInt = 256 := by decide +kernel
  have w1 : (1 : Int32).toInt = 1 := by decide +kernel
  rw [ex3, z_add (by omega) (by omega)]; first | done | omega
-- nw@16 @16
theorem vX4_sign_4 (κ : KS) (k0 : Int32) (r1 : Int32) (x2 : Int32) (x3 : Int32) (r4 : Int32) (x5 : Int32) (hpre_1 : 0 ≤ (κ.1 6).toInt) (hpre_2 : (κ.1 6).toInt ≤ 40) (hpre_5 : 0 ≤ k0.toInt) (hpre_6 : k0.toInt ≤ 40) (hr1_0 : 0 ≤ r1.toInt) (hr1_1 : r1.toInt ≤ 126) (hr1_2 : ¬ r1.toInt = 0 → 0 ≤ k0.toInt ∧ k0.toInt < (κ.1 6).toInt) (ex2 : x2 = r1 * (256 : Int32)) (tx2 : x2.toInt = r1.toInt * 256) (ex3 : x3 = k0 + (1 : Int32)) (tx3 : x3.toInt = k0.toInt + 1) (hr4_0 : 0 ≤ r4.toInt) (hr4_1 : r4.toInt ≤ 126) (hr4_2 : ¬ r4.toInt = 0 → 0 ≤ x3.toInt ∧ x3.toInt < (κ.1 6).toInt) (ex5 : x5 = x2 + r4) : x5.toInt = x2.toInt + r4.toInt := by
  have q1 : (1 : Int32).toInt = 1 := by decide +kernel
  have q256 : (256 : Int32).toInt = 256 := by decide +kernel
  rw [ex5, z_add (by omega) (by omega)]; first | done | omega
-- post @65
theorem vX4_sign_5 (κ : KS) (hpre_3 : 0 ≤ (κ.1 7).toInt) (hpre_4 : (κ.1 7).toInt ≤ 41) : 0 ≤ (κ.1 7).toInt ∧ (κ.1 7).toInt ≤ 41 ∧ (-1 : Int32).toInt ≤ 42 := by
  have qm1 : (-1 : Int32).toInt = (-1) := by decide +kernel
  refine ⟨?_, ?_, ?_⟩ <;> first | assumption | omega | (subst_vars; omega) | trivial
-- post2 @65
theorem vX4_sign_6 (ad : Nat → Nat) (κ : KS) (k0 : Int32) (r1 : Int32) (x2 : Int32) (x3 : Int32) (r4 : Int32) (x5 : Int32) (r6 : Int32) (r8 : Int32) (r9 : Int32) (hSV : SV ad κ.2.2.2.2 (κ.2.1 0) (κ.2.1 1) (κ.2.2.2.1 6) (κ.2.2.2.1 7) (κ.2.2.2.1 8) (κ.2.2.2.1 13) (κ.2.2.2.1 15) (κ.2.2.2.1 17) (κ.1 1).toInt) (hpre_0 : L9 (κ.2.2.1 9)) (hpre_1 : 0 ≤ (κ.1 6).toInt) (hpre_2 : (κ.1 6).toInt ≤ 40) (hpre_3 : 0 ≤ (κ.1 7).toInt) (hpre_4 : (κ.1 7).toInt ≤ 41) (hpre_5 : 0 ≤ k0.toInt) (hpre_6 : k0.toInt ≤ 40) (hr1y : (κ.1 6).toInt ≤ 40 → r1.toInt = tx (κ.2.2.1 9) (κ.1 6) k0.toInt) (hr1_0 : 0 ≤ r1.toInt) (hr1_1 : r1.toInt ≤ 126) (hr1_2 : ¬ r1.toInt = 0 → 0 ≤ k0.toInt ∧ k0.toInt < (κ.1 6).toInt) (ex2 : x2 = r1 * (256 : Int32)) (tx2 : x2.toInt = r1.toInt * 256) (ex3 : x3 = k0 + (1 : Int32)) (tx3 : x3.toInt = k0.toInt + 1) (hr4y : (κ.1 6).toInt ≤ 40 → r4.toInt = tx (κ.2.2.1 9) (κ.1 6) x3.toInt) (hr4_0 : 0 ≤ r4.toInt) (hr4_1 : r4.toInt ≤ 126) (hr4_2 : ¬ r4.toInt = 0 → 0 ≤ x3.toInt ∧ x3.toInt < (κ.1 6).toInt) (ex5 : x5 = x2 + r4) (tx5 : x5.toInt = x2.toInt + r4.toInt) (hr6y_0 : ¬ r6.toInt = 0 → PV9 x5.toInt) (hr6y_1 : r6.toInt = 0 → ¬ PV9 x5.toInt) (hr6_0 : 0 ≤ r6.toInt) (hr6_1 : r6.toInt ≤ 1) (c7 : r6.toInt = 0) (hr8y : (κ.1 6).toInt ≤ 40 → r8.toInt = tx (κ.2.2.1 9) (κ.1 6) k0.toInt) (hr8_0 : 0 ≤ r8.toInt) (hr8_1 : r8.toInt ≤ 126) (hr8_2 : ¬ r8.toInt = 0 → 0 ≤ k0.toInt ∧ k0.toInt < (κ.1 6).toInt) (hr9y_0 : ¬ r9.toInt = 0 → SI r8.toInt) (hr9y_1 : r9.toInt = 0 → ¬ SI r8.toInt) (hr9_0 : 0 ≤ r9.toInt) (hr9_1 : r9.toInt ≤ 1) (c10 : r9.toInt = 0) : (κ.1 7).toInt ≤ k0.toInt → k0.toInt < (κ.1 6).toInt → ¬ dg (tx (κ.2.2.1 9) (κ.1 6) k0.toInt) → ¬ lw (tx (κ.2.2.1 9) (κ.1 6) k0.toInt) → ¬ tx (κ.2.2.1 9) (κ.1 6) k0.toInt = 39 → ∃ t9, TokR (tx (κ.2.2.1 9) (κ.1 6)) (κ.1 6).toInt k0.toInt t9 ∧ LXc (κ.2.2.1 10) (κ.2.2.1 11) (κ.2.2.1 12) (κ.1 7) (κ.2.2.1 10) (κ.2.2.1 11) (κ.2.2.1 12) (κ.1 7) k0.toInt (-1 : Int32).toInt t9 := by
  have qm1 : (-1 : Int32).toInt = (-1) := by decide +kernel
  have q1 : (1 : Int32).toInt = 1 := by decide +kernel
  have q256 : (256 : Int32).toInt = 256 := by decide +kernel
  intro h1 h2 h3 h4 h5
  have pk0 := hr1y (by omega)
  have pk1 := hr4y (by omega)
  have pk2 := hr8y (by omega)
  have z3 : tx (κ.2.2.1 9) (κ.1 6) (k0.toInt + 1) = tx (κ.2.2.1 9) (κ.1 6) x3.toInt := by rw [tx3]
  have ev : x5.toInt = 256 * r1.toInt + r4.toInt := by omega
  have htw : ¬ TW (tx (κ.2.2.1 9) (κ.1 6) k0.toInt) (tx (κ.2.2.1 9) (κ.1 6) (k0.toInt + 1)) := by
    have q9 := hr6y_1 (by omega)
    rw [ev] at q9
    rw [z3, show tx (κ.2.2.1 9) (κ.1 6) k0.toInt = r1.toInt by omega, show tx (κ.2.2.1 9) (κ.1 6) x3.toInt = r4.toInt by omega]
    exact fun y => q9 ((PV9_tw (by omega) (by omega) (by omega) (by omega)).mpr y)
  have hsi := hr9y_1 (by omega)
  rw [show r8.toInt = tx (κ.2.2.1 9) (κ.1 6) k0.toInt by omega] at hsi
  exact ⟨none, sgnX h3 h4 h5 htw hsi, by show (-1 : Int32).toInt ≤ _; omega⟩
-- pre:X4_add@57 @57
theorem vX4_sign_7 (κ : KS) (hpre_3 : 0 ≤ (κ.1 7).toInt) (hpre_4 : (κ.1 7).toInt ≤ 41) : 0 ≤ (κ.1 7).toInt ∧ (κ.1 7).toInt ≤ 41 := by
  refine ⟨?_, ?_⟩ <;> first | assumption | omega | (subst_vars; omega) | trivial
-- nw@62 @62
theorem vX4_sign_8 (κ : KS) (k0 : Int32) (r1 : Int32) (x2 : Int32) (x3 : Int32) (r4 : Int32) (x5 : Int32) (r8 : Int32) (r11 : Int32) (x18 : Int32) (hpre_1 : 0 ≤ (κ.1 6).toInt) (hpre_2 : (κ.1 6).toInt ≤ 40) (hpre_5 : 0 ≤ k0.toInt) (hpre_6 : k0.toInt ≤ 40) (hr1_0 : 0 ≤ r1.toInt) (hr1_1 : r1.toInt ≤ 126) (hr1_2 : ¬ r1.toInt = 0 → 0 ≤ k0.toInt ∧ k0.toInt < (κ.1 6).toInt) (ex2 : x2 = r1 * (256 : Int32)) (tx2 : x2.toInt = r1.toInt * 256) (ex3 : x3 = k0 + (1 : Int32)) (tx3 : x3.toInt = k0.toInt + 1) (hr4_0 : 0 ≤ r4.toInt) (hr4_1 : r4.toInt ≤ 126) (hr4_2 : ¬ r4.toInt = 0 → 0 ≤ x3.toInt ∧ x3.toInt < (κ.1 6).toInt) (ex5 : x5 = x2 + r4) (tx5 : x5.toInt = x2.toInt + r4.toInt) (hr8_0 : 0 ≤ r8.toInt) (hr8_1 : r8.toInt ≤ 126) (hr8_2 : ¬ r8.toInt = 0 → 0 ≤ k0.toInt ∧ k0.toInt < (κ.1 6).toInt) (hr11_0 : 0 ≤ r11.toInt) (hr11_1 : r11.toInt ≤ 126) (hr11_2 : ¬ r11.toInt = 0 → 0 ≤ k0.toInt ∧ k0.toInt < (κ.1 6).toInt) (ex18 : x18 = k0 + (1 : Int32)) : x18.toInt = k0.toInt + 1 := by
  have q1 : (1 : Int32).toInt = 1 := by decide +kernel
  have q256 : (256 : Int32).toInt = 256 := by decide +kernel
  have w1 : (1 : Int32).toInt = 1 := by decide +kernel
  rw [ex18, z_add (by omega) (by omega)]; first | done | omega
-- post @63
theorem vX4_sign_9 (κ : KS) (k0 : Int32) (r1 : Int32) (x2 : Int32) (x3 : Int32) (r4 : Int32) (x5 : Int32) (r8 : Int32) (r11 : Int32) (n13 : Int32) (x18 : Int32) (hpre_1 : 0 ≤ (κ.1 6).toInt) (hpre_2 : (κ.1 6).toInt ≤ 40) (hpre_5 : 0 ≤ k0.toInt) (hpre_6 : k0.toInt ≤ 40) (hr1_0 : 0 ≤ r1.toInt) (hr1_1 : r1.toInt ≤ 126) (hr1_2 : ¬ r1.toInt = 0 → 0 ≤ k0.toInt ∧ k0.toInt < (κ.1 6).toInt) (ex2 : x2 = r1 * (256 : Int32)) (tx2 : x2.toInt = r1.toInt * 256) (ex3 : x3 = k0 + (1 : Int32)) (tx3 : x3.toInt = k0.toInt + 1) (hr4_0 : 0 ≤ r4.toInt) (hr4_1 : r4.toInt ≤ 126) (ex5 : x5 = x2 + r4) (tx5 : x5.toInt = x2.toInt + r4.toInt) (hr8_0 : 0 ≤ r8.toInt) (hr8_1 : r8.toInt ≤ 126) (hr8_2 : ¬ r8.toInt = 0 → 0 ≤ k0.toInt ∧ k0.toInt < (κ.1 6).toInt) (hr11_0 : 0 ≤ r11.toInt) (hr11_1 : r11.toInt ≤ 126) (hr11_2 : ¬ r11.toInt = 0 → 0 ≤ k0.toInt ∧ k0.toInt < (κ.1 6).toInt) (hr12_1_0 : 0 ≤ n13.toInt) (hr12_1_1 : n13.toInt ≤ 41) (ex18 : x18 = k0 + (1 : Int32)) (tx18 : x18.toInt = k0.toInt + 1) : 0 ≤ n13.toInt ∧ n13.toInt ≤ 41 ∧ x18.toInt ≤ 42 := by
  have q1 : (1 : Int32).toInt = 1 := by decide +kernel
  have q256 : (256 : Int32).toInt = 256 := by decide +kernel
  refine ⟨?_, ?_, ?_⟩ <;> first | assumption | omega | (subst_vars; omega) | trivial
-- post2 @63
theorem vX4_sign_10 (ad : Nat → Nat) (κ : KS) (k0 : Int32) (r1 : Int32) (x2 : Int32) (x3 : Int32) (r4 : Int32) (x5 : Int32) (r6 : Int32) (r8 : Int32) (r9 : Int32) (r11 : Int32) (n13 : Int32) (F14 : (Nat → Int32)) (F15 : (Nat → Int32)) (F16 : (Nat → Int32)) (x18 : Int32) (hSV : SV ad κ.2.2.2.2 (κ.2.1 0) (κ.2.1 1) (κ.2.2.2.1 6) (κ.2.2.2.1 7) (κ.2.2.2.1 8) (κ.2.2.2.1 13) (κ.2.2.2.1 15) (κ.2.2.2.1 17) (κ.1 1).toInt) (hpre_0 : L9 (κ.2.2.1 9)) (hpre_1 : 0 ≤ (κ.1 6).toInt) (hpre_2 : (κ.1 6).toInt ≤ 40) (hpre_3 : 0 ≤ (κ.1 7).toInt) (hpre_4 : (κ.1 7).toInt ≤ 41) (hpre_5 : 0 ≤ k0.toInt) (hpre_6 : k0.toInt ≤ 40) (hr1y : (κ.1 6).toInt ≤ 40 → r1.toInt = tx (κ.2.2.1 9) (κ.1 6) k0.toInt) (hr1_0 : 0 ≤ r1.toInt) (hr1_1 : r1.toInt ≤ 126) (hr1_2 : ¬ r1.toInt = 0 → 0 ≤ k0.toInt ∧ k0.toInt < (κ.1 6).toInt) (ex2 : x2 = r1 * (256 : Int32)) (tx2 : x2.toInt = r1.toInt * 256) (ex3 : x3 = k0 + (1 : Int32)) (tx3 : x3.toInt = k0.toInt + 1) (hr4y : (κ.1 6).toInt ≤ 40 → r4.toInt = tx (κ.2.2.1 9) (κ.1 6) x3.toInt) (hr4_0 : 0 ≤ r4.toInt) (hr4_1 : r4.toInt ≤ 126) (hr4_2 : ¬ r4.toInt = 0 → 0 ≤ x3.toInt ∧ x3.toInt < (κ.1 6).toInt) (ex5 : x5 = x2 + r4) (tx5 : x5.toInt = x2.toInt + r4.toInt) (hr6y_0 : ¬ r6.toInt = 0 → PV9 x5.toInt) (hr6y_1 : r6.toInt = 0 → ¬ PV9 x5.toInt) (hr6_0 : 0 ≤ r6.toInt) (hr6_1 : r6.toInt ≤ 1) (c7 : r6.toInt = 0) (hr8y : (κ.1 6).toInt ≤ 40 → r8.toInt = tx (κ.2.2.1 9) (κ.1 6) k0.toInt) (hr8_0 : 0 ≤ r8.toInt) (hr8_1 : r8.toInt ≤ 126) (hr8_2 : ¬ r8.toInt = 0 → 0 ≤ k0.toInt ∧ k0.toInt < (κ.1 6).toInt) (hr9y_0 : ¬ r9.toInt = 0 → SI r8.toInt) (hr9y_1 : r9.toInt = 0 → ¬ SI r8.toInt) (hr9_0 : 0 ≤ r9.toInt) (hr9_1 : r9.toInt ≤ 1) (c10 : ¬ r9.toInt = 0) (hr11y : (κ.1 6).toInt ≤ 40 → r11.toInt = tx (κ.2.2.1 9) (κ.1 6) k0.toInt) (hr11_0 : 0 ≤ r11.toInt) (hr11_1 : r11.toInt ≤ 126) (hr11_2 : ¬ r11.toInt = 0 → 0 ≤ k0.toInt ∧ k0.toInt < (κ.1 6).toInt) (hr12y : (κ.1 7).toInt < 41 → ADc (κ.2.2.1 10) (κ.2.2.1 11) (κ.2.2.1 12) (κ.1 7) F14 F15 F16 n13 r11 k0 (0 : Int32)) (hr12_1_0 : 0 ≤ n13.toInt) (hr12_1_1 : n13.toInt ≤ 41) (ex18 : x18 = k0 + (1 : Int32)) (tx18 : x18.toInt = k0.toInt + 1) : (κ.1 7).toInt ≤ k0.toInt → k0.toInt < (κ.1 6).toInt → ¬ dg (tx (κ.2.2.1 9) (κ.1 6) k0.toInt) → ¬ lw (tx (κ.2.2.1 9) (κ.1 6) k0.toInt) → ¬ tx (κ.2.2.1 9) (κ.1 6) k0.toInt = 39 → ∃ t9, TokR (tx (κ.2.2.1 9) (κ.1 6)) (κ.1 6).toInt k0.toInt t9 ∧ LXc (κ.2.2.1 10) (κ.2.2.1 11) (κ.2.2.1 12) (κ.1 7) F14 F15 F16 n13 k0.toInt x18.toInt t9 := by
  have q0 : (0 : Int32).toInt = 0 := by decide +kernel
  have q1 : (1 : Int32).toInt = 1 := by decide +kernel
  have q256 : (256 : Int32).toInt = 256 := by decide +kernel
  intro h1 h2 h3 h4 h5
  have pk0 := hr1y (by omega)
  have pk1 := hr4y (by omega)
  have pk2 := hr8y (by omega)
  have pk3 := hr11y (by omega)
  have z3 : tx (κ.2.2.1 9) (κ.1 6) (k0.toInt + 1) = tx (κ.2.2.1 9) (κ.1 6) x3.toInt := by rw [tx3]
  have ev : x5.toInt = 256 * r1.toInt + r4.toInt := by omega
  have htw : ¬ TW (tx (κ.2.2.1 9) (κ.1 6) k0.toInt) (tx (κ.2.2.1 9) (κ.1 6) (k0.toInt + 1)) := by
    have q9 := hr6y_1 (by omega)
    rw [ev] at q9
    rw [z3, show tx (κ.2.2.1 9) (κ.1 6) k0.toInt = r1.toInt by omega, show tx (κ.2.2.1 9) (κ.1 6) x3.toInt = r4.toInt by omega]
    exact fun y => q9 ((PV9_tw (by omega) (by omega) (by omega) (by omega)).mpr y)
  have hsi := hr9y_0 (by omega)
  rw [show r8.toInt = tx (κ.2.2.1 9) (κ.1 6) k0.toInt by omega] at hsi
  exact ⟨_, sgn1 h3 h4 h5 htw hsi rfl rfl, LXc.add (hr12y (by omega)) (by omega) (by omega) (by omega) (by omega) rfl⟩
-- nw@35 @35
theorem vX4_sign_11 (κ : KS) (k0 : Int32) (r1 : Int32) (x2 : Int32) (x3 : Int32) (r4 : Int32) (x5 : Int32) (x25 : Int32) (hpre_1 : 0 ≤ (κ.1 6).toInt) (hpre_2 : (κ.1 6).toInt ≤ 40) (hpre_5 : 0 ≤ k0.toInt) (hpre_6 : k0.toInt ≤ 40) (hr1_0 : 0 ≤ r1.toInt) (hr1_1 : r1.toInt ≤ 126) (hr1_2 : ¬ r1.toInt = 0 → 0 ≤ k0.toInt ∧ k0.toInt < (κ.1 6).toInt) (ex2 : x2 = r1 * (256 : Int32)) (tx2 : x2.toInt = r1.toInt * 256) (ex3 : x3 = k0 + (1 : Int32)) (tx3 : x3.toInt = k0.toInt + 1) (hr4_0 : 0 ≤ r4.toInt) (hr4_1 : r4.toInt ≤ 126) (hr4_2 : ¬ r4.toInt = 0 → 0 ≤ x3.toInt ∧ x3.toInt < (κ.1 6).toInt) (ex5 : x5 = x2 + r4) (tx5 : x5.toInt = x2.toInt + r4.toInt) (ex25 : x25 = k0 + (2 : Int32)) : x25.toInt = k0.toInt + 2 := by
  have q1 : (1 : Int32).toInt = 1 := by decide +kernel
  have q2 : (2 : Int32).toInt = 2 := by decide +kernel
  have q256 : (256 : Int32).toInt = 256 := by decide +kernel
  have w1 : (2 : Int32).toInt = 2 := by decide +kernel
  rw [ex25, z_add (by omega) (by omega)]; first | done | omega
-- post @36
theorem vX4_sign_12 (κ : KS) (k0 : Int32) (r1 : Int32) (x2 : Int32) (x3 : Int32) (r4 : Int32) (x5 : Int32) (n20 : Int32) (x25 : Int32) (hpre_1 : 0 ≤ (κ.1 6).toInt) (hpre_2 : (κ.1 6).toInt ≤ 40) (hpre_5 : 0 ≤ k0.toInt) (hpre_6 : k0.toInt ≤ 40) (hr1_0 : 0 ≤ r1.toInt) (hr1_1 : r1.toInt ≤ 126) (hr1_2 : ¬ r1.toInt = 0 → 0 ≤ k0.toInt ∧ k0.toInt < (κ.1 6).toInt) (ex2 : x2 = r1 * (256 : Int32)) (tx2 : x2.toInt = r1.toInt * 256) (ex3 : x3 = k0 + (1 : Int32)) (tx3 : x3.toInt = k0.toInt + 1) (hr4_0 : 0 ≤ r4.toInt) (hr4_1 : r4.toInt ≤ 126) (ex5 : x5 = x2 + r4) (tx5 : x5.toInt = x2.toInt + r4.toInt) (hr19_1_0 : 0 ≤ n20.toInt) (hr19_1_1 : n20.toInt ≤ 41) (ex25 : x25 = k0 + (2 : Int32)) (tx25 : x25.toInt = k0.toInt + 2) : 0 ≤ n20.toInt ∧ n20.toInt ≤ 41 ∧ x25.toInt ≤ 42 := by
  have q1 : (1 : Int32).toInt = 1 := by decide +kernel
  have q2 : (2 : Int32).toInt = 2 := by decide +kernel
  have q256 : (256 : Int32).toInt = 256 := by decide +kernel
  refine ⟨?_, ?_, ?_⟩ <;> first | assumption | omega | (subst_vars; omega) | trivial
-- post2 @36
theorem vX4_sign_13 (ad : Nat → Nat) (κ : KS) (k0 : Int32) (r1 : Int32) (x2 : Int32) (x3 : Int32) (r4 : Int32) (x5 : Int32) (r6 : Int32) (n20 : Int32) (F21 : (Nat → Int32)) (F22 : (Nat → Int32)) (F23 : (Nat → Int32)) (x25 : Int32) (hSV : SV ad κ.2.2.2.2 (κ.2.1 0) (κ.2.1 1) (κ.2.2.2.1 6) (κ.2.2.2.1 7) (κ.2.2.2.1 8) (κ.2.2.2.1 13) (κ.2.2.2.1 15) (κ.2.2.2.1 17) (κ.1 1).toInt) (hpre_0 : L9 (κ.2.2.1 9)) (hpre_1 : 0 ≤ (κ.1 6).toInt) (hpre_2 : (κ.1 6).toInt ≤ 40) (hpre_3 : 0 ≤ (κ.1 7).toInt) (hpre_4 : (κ.1 7).toInt ≤ 41) (hpre_5 : 0 ≤ k0.toInt) (hpre_6 : k0.toInt ≤ 40) (hr1y : (κ.1 6).toInt ≤ 40 → r1.toInt = tx (κ.2.2.1 9) (κ.1 6) k0.toInt) (hr1_0 : 0 ≤ r1.toInt) (hr1_1 : r1.toInt ≤ 126) (hr1_2 : ¬ r1.toInt = 0 → 0 ≤ k0.toInt ∧ k0.toInt < (κ.1 6).toInt) (ex2 : x2 = r1 * (256 : Int32)) (tx2 : x2.toInt = r1.toInt * 256) (ex3 : x3 = k0 + (1 : Int32)) (tx3 : x3.toInt = k0.toInt + 1) (hr4y : (κ.1 6).toInt ≤ 40 → r4.toInt = tx (κ.2.2.1 9) (κ.1 6) x3.toInt) (hr4_0 : 0 ≤ r4.toInt) (hr4_1 : r4.toInt ≤ 126) (hr4_2 : ¬ r4.toInt = 0 → 0 ≤ x3.toInt ∧ x3.toInt < (κ.1 6).toInt) (ex5 : x5 = x2 + r4) (tx5 : x5.toInt = x2.toInt + r4.toInt) (hr6y_0 : ¬ r6.toInt = 0 → PV9 x5.toInt) (hr6y_1 : r6.toInt = 0 → ¬ PV9 x5.toInt) (hr6_0 : 0 ≤ r6.toInt) (hr6_1 : r6.toInt ≤ 1) (c7 : ¬ r6.toInt = 0) (hr19y : (κ.1 7).toInt < 41 → ADc (κ.2.2.1 10) (κ.2.2.1 11) (κ.2.2.1 12) (κ.1 7) F21 F22 F23 n20 x5 k0 (0 : Int32)) (hr19_1_0 : 0 ≤ n20.toInt) (hr19_1_1 : n20.toInt ≤ 41) (ex25 : x25 = k0 + (2 : Int32)) (tx25 : x25.toInt = k0.toInt + 2) : (κ.1 7).toInt ≤ k0.toInt → k0.toInt < (κ.1 6).toInt → ¬ dg (tx (κ.2.2.1 9) (κ.1 6) k0.toInt) → ¬ lw (tx (κ.2.2.1 9) (κ.1 6) k0.toInt) → ¬ tx (κ.2.2.1 9) (κ.1 6) k0.toInt = 39 → ∃ t9, TokR (tx (κ.2.2.1 9) (κ.1 6)) (κ.1 6).toInt k0.toInt t9 ∧ LXc (κ.2.2.1 10) (κ.2.2.1 11) (κ.2.2.1 12) (κ.1 7) F21 F22 F23 n20 k0.toInt x25.toInt t9 := by
  have q0 : (0 : Int32).toInt = 0 := by decide +kernel
  have q1 : (1 : Int32).toInt = 1 := by decide +kernel
  have q2 : (2 : Int32).toInt = 2 := by decide +kernel
  have q256 : (256 : Int32).toInt = 256 := by decide +kernel
  intro h1 h2 h3 h4 h5
  have pk0 := hr1y (by omega)
  have pk1 := hr4y (by omega)
  have z3 : tx (κ.2.2.1 9) (κ.1 6) (k0.toInt + 1) = tx (κ.2.2.1 9) (κ.1 6) x3.toInt := by rw [tx3]
  have ev : x5.toInt = 256 * r1.toInt + r4.toInt := by omega
  have htw : TW (tx (κ.2.2.1 9) (κ.1 6) k0.toInt) (tx (κ.2.2.1 9) (κ.1 6) (k0.toInt + 1)) := by
    have q9 := hr6y_0 (by omega)
    rw [ev] at q9
    rw [z3, show tx (κ.2.2.1 9) (κ.1 6) k0.toInt = r1.toInt by omega, show tx (κ.2.2.1 9) (κ.1 6) x3.toInt = r4.toInt by omega]
    exact (PV9_tw (by omega) (by omega) (by omega) (by omega)).mp q9
  exact ⟨_, sgnN h3 h4 h5 htw rfl rfl, LXc.add (hr19y (by omega)) (by omega) (by omega) (by omega) (by omega) rfl⟩
set_option maxHeartbeats 4000000 in
set_option maxRecDepth 100000 in
theorem NX4_sign (l : Launch) (D : va_G) (cy : Nat → ClassId) (ad : Nat → Nat) (A : Nat → Prop) (sz0 : Nat) (sa : Nat → Nat)  (κ : KS) (sz sl : Nat) (hAF : ∀ q, A q → Fr sz0 q) (hAn : ∀ q : Nat, sz ≤ q → A q) (k0 : Int32) (hSV : SV ad κ.2.2.2.2 (κ.2.1 0) (κ.2.1 1) (κ.2.2.2.1 6) (κ.2.2.2.1 7) (κ.2.2.2.1 8) (κ.2.2.2.1 13) (κ.2.2.2.1 15) (κ.2.2.2.1 17) (κ.1 1).toInt) (hpre : L9 (κ.2.2.1 9) ∧ 0 ≤ (κ.1 6).toInt ∧ (κ.1 6).toInt ≤ 40 ∧ 0 ≤ (κ.1 7).toInt ∧ (κ.1 7).toInt ≤ 41 ∧ 0 ≤ k0.toInt ∧ k0.toInt ≤ 40) : Met l yX4_sign (Cond.code yX4_sign cX4_sign 3 (some .int) :: GWc) ({ frames := 1, cells := 0, slots := 0, locals := 24 }) (PcC D cy ad A sz0 sa [.ref (ad 2), .int k0] κ sz sl) (va_Qi (fun (r : Int32) (u : Int32 × (Nat → Int32) × (Nat → Int32) × (Nat → Int32) × (Nat → Option Nat)) => ((SV ad κ.2.2.2.2 (κ.2.1 0) (κ.2.1 1) (κ.2.2.2.1 6) (κ.2.2.2.1 7) (κ.2.2.2.1 8) u.2.2.2.2 (κ.2.2.2.1 15) (κ.2.2.2.1 17) (κ.1 1).toInt) ∧ (0 ≤ u.1.toInt ∧ u.1.toInt ≤ 41 ∧ r.toInt ≤ 42)) ∧ ((κ.1 7).toInt ≤ k0.toInt → k0.toInt < (κ.1 6).toInt → ¬ dg (tx (κ.2.2.1 9) (κ.1 6) k0.toInt) → ¬ lw (tx (κ.2.2.1 9) (κ.1 6) k0.toInt) → ¬ tx (κ.2.2.1 9) (κ.1 6) k0.toInt = 39 → ∃ t9, TokR (tx (κ.2.2.1 9) (κ.1 6)) (κ.1 6).toInt k0.toInt t9 ∧ LXc (κ.2.2.1 10) (κ.2.2.1 11) (κ.2.2.1 12) (κ.1 7) u.2.1 u.2.2.1 u.2.2.2.1 u.1 k0.toInt r.toInt t9)) (fun (u : Int32 × (Nat → Int32) × (Nat → Int32) × (Nat → Int32) × (Nat → Option Nat)) (t : State) => Bx D cy ad A sz sl (tQ (tA (tA (tA (tI κ 7 u.1) 10 u.2.1) 11 u.2.2.1) 12 u.2.2.2.1) 13 u.2.2.2.2) (0) (0) t) A) (0) (0) A := by
  refine CM_of (loc0 := [(0, .ref (ad 2)), (1, .int k0)]) (own := RX4) (nm := "sign") (by decide) rfl rfl rfl (Nat.le_of_ble_eq_true rfl) hAF hAn ?_
  intro p e s m below meth c ls hsz hsl C hP hS hl
  obtain ⟨hpre_0, hpre_1, hpre_2, hpre_3, hpre_4, hpre_5, hpre_6⟩ := hpre
  refine lv_aload_n C.x C.b dX4_sign_0 rfl (lv_at hl 0 rfl) ?_
  refine lv_iload_n C.x C.b dX4_sign_1 rfl (lv_at hl 1 rfl) ?_
  refine c_callVi (n := 1) (As := [.int k0]) (rest := []) C hP hS hl.1 (NX4_peek l D cy ad A sz0 sa κ s.heap.size (SLT s.heap) C.f (fun q h => C.a q (Nat.le_trans hS.1 h)) k0 (vX4_sign_1 κ hpre_0)) ⟨cw_481, cw_485, by decide +kernel⟩ ⟨cw_482, cw_483, cw_484⟩ rfl (hP.recvS (k := 2) (ci := 6) C.K rfl rfl) rfl rfl (lv_room (Nat.le_of_ble_eq_true rfl)) ⟨Nat.le_of_ble_eq_true rfl, Nat.le_of_ble_eq_true rfl⟩ ⟨(Nat.le_of_ble_eq_true rfl), (Nat.le_of_ble_eq_true rfl)⟩ dX4_sign_2 (fun r1 u H locs hr1 hP hS => ?_)
  obtain ⟨hr1, hr1y⟩ := hr1
  have hr1y : (κ.1 6).toInt ≤ 40 → r1.toInt = tx (κ.2.2.1 9) (κ.1 6) k0.toInt := hr1y
  have hr1 : (0 ≤ r1.toInt ∧ r1.toInt ≤ 126 ∧ (¬ r1.toInt = 0 → 0 ≤ k0.toInt ∧ k0.toInt < (κ.1 6).toInt)) := hr1
  obtain ⟨hr1_0, hr1_1, hr1_2⟩ := hr1
  refine lv_sipush (v := 256) C.x C.b dX4_sign_5 (by decide +kernel) ?_
  refine lv_imul C.x C.b dX4_sign_8 ?_
  refine lv_topi (fun x2 ex2 => ?_)
  have tx2 : x2.toInt = r1.toInt * 256 := (vX4_sign_2 κ k0 r1 x2 hpre_1 hpre_2 hpre_5 hpre_6 hr1_0 hr1_1 hr1_2 ex2)
  refine lv_aload_n C.x C.b dX4_sign_9 rfl (lv_at hl 0 rfl) ?_
  refine lv_iload_n C.x C.b dX4_sign_10 rfl (lv_at hl 1 rfl) ?_
  refine lv_iconst (v := 1) C.x C.b dX4_sign_11 (by decide +kernel) ?_
  refine lv_iadd C.x C.b dX4_sign_12 ?_
  refine lv_topi (fun x3 ex3 => ?_)
  have tx3 : x3.toInt = k0.toInt + 1 := (vX4_sign_3 κ k0 r1 x2 x3 hpre_1 hpre_2 hpre_5 hpre_6 hr1_0 hr1_1 hr1_2 ex2 tx2 ex3)
  refine c_callVi (n := 1) (As := [.int x3]) (rest := [.int x2]) C hP hS hl.1 (NX4_peek l D cy ad A sz0 sa κ H.size (SLT H) C.f (fun q h => C.a q (Nat.le_trans hS.1 h)) x3 (vX4_sign_1 κ hpre_0)) ⟨cw_481, cw_485, by decide +kernel⟩ ⟨cw_482, cw_483, cw_484⟩ rfl (hP.recvS (k := 2) (ci := 6) C.K rfl rfl) rfl rfl (lv_room (Nat.le_of_ble_eq_true rfl)) ⟨Nat.le_of_ble_eq_true rfl, Nat.le_of_ble_eq_true rfl⟩ ⟨(Nat.le_of_ble_eq_true rfl), (Nat.le_of_ble_eq_true rfl)⟩ dX4_sign_13 (fun r4 u H locs hr4 hP hS => ?_)
  obtain ⟨hr4, hr4y⟩ := hr4
  have hr4y : (κ.1 6).toInt ≤ 40 → r4.toInt = tx (κ.2.2.1 9) (κ.1 6) x3.toInt := hr4y
  have hr4 : (0 ≤ r4.toInt ∧ r4.toInt ≤ 126 ∧ (¬ r4.toInt = 0 → 0 ≤ x3.toInt ∧ x3.toInt < (κ.1 6).toInt)) := hr4
  obtain ⟨hr4_0, hr4_1, hr4_2⟩ := hr4
  refine lv_iadd C.x C.b dX4_sign_16 ?_
  refine lv_topi (fun x5 ex5 => ?_)
  have tx5 : x5.toInt = x2.toInt + r4.toInt := (vX4_sign_4 κ k0 r1 x2 x3 r4 x5 hpre_1 hpre_2 hpre_5 hpre_6 hr1_0 hr1_1 hr1_2 ex2 tx2 ex3 tx3 hr4_0 hr4_1 hr4_2 ex5)
  refine lv_istore_n (lv' := [(2, .int x5), (0, .ref (ad 2)), (1, .int k0)]) C.x C.b dX4_sign_17 rfl hl (by decide) rfl (fun ls hl => ?_)
  refine lv_iload_n C.x C.b dX4_sign_18 rfl (lv_at hl 0 rfl) ?_
  refine c_callSi (C2 := "") (b := 0) (n := 1) (As := [.int x5]) (rest := []) C hP hS hl.1 (NX4_isPair l D cy ad A sz0 sa κ H.size (SLT H) C.f (fun q h => C.a q (Nat.le_trans hS.1 h)) x5 ) ⟨cw_535, cw_537, by decide +kernel⟩ ⟨cw_536, cw_484⟩ rfl rfl (lv_room (Nat.le_of_ble_eq_true rfl)) ⟨Nat.le_of_ble_eq_true rfl, Nat.le_of_ble_eq_true rfl⟩ ⟨(Nat.le_of_ble_eq_true rfl), (Nat.le_of_ble_eq_true rfl)⟩ dX4_sign_19 (fun r6 u H locs hr6 hP hS => ?_)
  obtain ⟨hr6, hr6y⟩ := hr6
  have hr6y : (¬ r6.toInt = 0 → PV9 x5.toInt) ∧ (r6.toInt = 0 → ¬ PV9 x5.toInt) := hr6y
  have hr6 : (0 ≤ r6.toInt ∧ r6.toInt ≤ 1) := hr6
  obtain ⟨hr6y_0, hr6y_1⟩ := hr6y
  obtain ⟨hr6_0, hr6_1⟩ := hr6
  refine lv_if_eq (tgt := 37) C.x C.b dX4_sign_22 (by decide) (fun c7 => ?_) (fun c7 => ?_)
  · have c7 : r6.toInt = 0 := by have h := z_eq c7; rw [show (0 : Int32).toInt = 0 from by decide +kernel] at h; exact h
    refine lv_aload_n C.x C.b dX4_sign_37 rfl (lv_at hl 1 rfl) ?_
    refine lv_iload_n C.x C.b dX4_sign_38 rfl (lv_at hl 2 rfl) ?_
    refine c_callVi (n := 1) (As := [.int k0]) (rest := []) C hP hS hl.1 (NX4_peek l D cy ad A sz0 sa κ H.size (SLT H) C.f (fun q h => C.a q (Nat.le_trans hS.1 h)) k0 (vX4_sign_1 κ hpre_0)) ⟨cw_481, cw_485, by decide +kernel⟩ ⟨cw_482, cw_483, cw_484⟩ rfl (hP.recvS (k := 2) (ci := 6) C.K rfl rfl) rfl rfl (lv_room (Nat.le_of_ble_eq_true rfl)) ⟨Nat.le_of_ble_eq_true rfl, Nat.le_of_ble_eq_true rfl⟩ ⟨(Nat.le_of_ble_eq_true rfl), (Nat.le_of_ble_eq_true rfl)⟩ dX4_sign_39 (fun r8 u H locs hr8 hP hS => ?_)
    obtain ⟨hr8, hr8y⟩ := hr8
    have hr8y : (κ.1 6).toInt ≤ 40 → r8.toInt = tx (κ.2.2.1 9) (κ.1 6) k0.toInt := hr8y
    have hr8 : (0 ≤ r8.toInt ∧ r8.toInt ≤ 126 ∧ (¬ r8.toInt = 0 → 0 ≤ k0.toInt ∧ k0.toInt < (κ.1 6).toInt)) := hr8
    obtain ⟨hr8_0, hr8_1, hr8_2⟩ := hr8
    refine c_callSi (C2 := "") (b := 0) (n := 1) (As := [.int r8]) (rest := []) C hP hS hl.1 (NX4_isSingle l D cy ad A sz0 sa κ H.size (SLT H) C.f (fun q h => C.a q (Nat.le_trans hS.1 h)) r8 ) ⟨cw_538, cw_540, by decide +kernel⟩ ⟨cw_539, cw_484⟩ rfl rfl (lv_room (Nat.le_of_ble_eq_true rfl)) ⟨Nat.le_of_ble_eq_true rfl, Nat.le_of_ble_eq_true rfl⟩ ⟨(Nat.le_of_ble_eq_true rfl), (Nat.le_of_ble_eq_true rfl)⟩ dX4_sign_42 (fun r9 u H locs hr9 hP hS => ?_)
    obtain ⟨hr9, hr9y⟩ := hr9
    have hr9y : (¬ r9.toInt = 0 → SI r8.toInt) ∧ (r9.toInt = 0 → ¬ SI r8.toInt) := hr9y
    have hr9 : (0 ≤ r9.toInt ∧ r9.toInt ≤ 1) := hr9
    obtain ⟨hr9y_0, hr9y_1⟩ := hr9y
    obtain ⟨hr9_0, hr9_1⟩ := hr9
    refine lv_if_eq (tgt := 64) C.x C.b dX4_sign_45 (by decide) (fun c10 => ?_) (fun c10 => ?_)
    · have c10 : r9.toInt = 0 := by have h := z_eq c10; rw [show (0 : Int32).toInt = 0 from by decide +kernel] at h; exact h
      refine lv_iconst (v := (-1)) C.x C.b dX4_sign_64 (by decide +kernel) ?_
      have hP : CH D cy ad A (tQ (tA (tA (tA (tI κ 7 (κ.1 7)) 10 (κ.2.2.1 10)) 11 (κ.2.2.1 11)) 12 (κ.2.2.1 12)) 13 (κ.2.2.2.1 13)) H := CH.cong hP rfl rfl rfl rfl rfl rfl rfl rfl rfl rfl rfl rfl rfl rfl rfl rfl rfl rfl rfl rfl rfl rfl rfl rfl rfl rfl rfl
      exact c_reti C hsz hsl ⟨(κ.1 7), (κ.2.2.1 10), (κ.2.2.1 11), (κ.2.2.1 12), (κ.2.2.2.1 13)⟩ ⟨⟨hSV, (vX4_sign_5 κ hpre_3 hpre_4)⟩, (vX4_sign_6 ad κ k0 r1 x2 x3 r4 x5 r6 r8 r9 hSV hpre_0 hpre_1 hpre_2 hpre_3 hpre_4 hpre_5 hpre_6 hr1y hr1_0 hr1_1 hr1_2 ex2 tx2 ex3 tx3 hr4y hr4_0 hr4_1 hr4_2 ex5 tx5 hr6y_0 hr6y_1 hr6_0 hr6_1 c7 hr8y hr8_0 hr8_1 hr8_2 hr9y_0 hr9y_1 hr9_0 hr9_1 c10)⟩ hP hS ⟨(Nat.le_of_ble_eq_true rfl), (Nat.le_of_ble_eq_true rfl)⟩ ⟨(Nat.le_of_ble_eq_true rfl), (Nat.le_of_ble_eq_true rfl)⟩ dX4_sign_65
    · have c10 : ¬ r9.toInt = 0 := by have h := z_ne c10; rw [show (0 : Int32).toInt = 0 from by decide +kernel] at h; exact h
      refine lv_aload_n C.x C.b dX4_sign_48 rfl (lv_at hl 1 rfl) ?_
      refine lv_aload_n C.x C.b dX4_sign_49 rfl (lv_at hl 1 rfl) ?_
      refine lv_iload_n C.x C.b dX4_sign_50 rfl (lv_at hl 2 rfl) ?_
      refine c_callVi (n := 1) (As := [.int k0]) (rest := [.ref (ad 2)]) C hP hS hl.1 (NX4_peek l D cy ad A sz0 sa κ H.size (SLT H) C.f (fun q h => C.a q (Nat.le_trans hS.1 h)) k0 (vX4_sign_1 κ hpre_0)) ⟨cw_481, cw_485, by decide +kernel⟩ ⟨cw_482, cw_483, cw_484⟩ rfl (hP.recvS (k := 2) (ci := 6) C.K rfl rfl) rfl rfl (lv_room (Nat.le_of_ble_eq_true rfl)) ⟨Nat.le_of_ble_eq_true rfl, Nat.le_of_ble_eq_true rfl⟩ ⟨(Nat.le_of_ble_eq_true rfl), (Nat.le_of_ble_eq_true rfl)⟩ dX4_sign_51 (fun r11 u H locs hr11 hP hS => ?_)
      obtain ⟨hr11, hr11y⟩ := hr11
      have hr11y : (κ.1 6).toInt ≤ 40 → r11.toInt = tx (κ.2.2.1 9) (κ.1 6) k0.toInt := hr11y
      have hr11 : (0 ≤ r11.toInt ∧ r11.toInt ≤ 126 ∧ (¬ r11.toInt = 0 → 0 ≤ k0.toInt ∧ k0.toInt < (κ.1 6).toInt)) := hr11
      obtain ⟨hr11_0, hr11_1, hr11_2⟩ := hr11
      refine lv_iload_n C.x C.b dX4_sign_54 rfl (lv_at hl 2 rfl) ?_
      refine lv_iconst (v := 0) C.x C.b dX4_sign_55 (by decide +kernel) ?_
      refine lv_null C.x C.b dX4_sign_56 ?_
      refine c_callVv (n := 4) (As := [.int r11, .int k0, .int 0, .null]) (rest := []) C hP hS hl.1 (NX4_add l D cy ad A sz0 sa κ H.size (SLT H) C.f (fun q h => C.a q (Nat.le_trans hS.1 h)) r11 k0 (0 : Int32) none nt_n hSV (vX4_sign_7 κ hpre_3 hpre_4)) ⟨cw_509, cw_512, by decide +kernel⟩ ⟨cw_510, cw_511, cw_484⟩ rfl (hP.recvS (k := 2) (ci := 6) C.K rfl rfl) rfl rfl (lv_room (Nat.le_of_ble_eq_true rfl)) ⟨Nat.le_of_ble_eq_true rfl, Nat.le_of_ble_eq_true rfl⟩ ⟨(Nat.le_of_ble_eq_true rfl), (Nat.le_of_ble_eq_true rfl)⟩ dX4_sign_57 (fun u H locs hr12 hP hS => ?_)
      obtain ⟨n13, F14, F15, F16, Z17⟩ := u
      have hP : CH D cy ad A (tQ (tA (tA (tA (tI κ 7 n13) 10 F14) 11 F15) 12 F16) 13 Z17) H := hP
      obtain ⟨hr12, hr12y⟩ := hr12
      have hr12y : (κ.1 7).toInt < 41 → ADc (κ.2.2.1 10) (κ.2.2.1 11) (κ.2.2.1 12) (κ.1 7) F14 F15 F16 n13 r11 k0 (0 : Int32) := hr12y
      have hr12 : (SV ad κ.2.2.2.2 (κ.2.1 0) (κ.2.1 1) (κ.2.2.2.1 6) (κ.2.2.2.1 7) (κ.2.2.2.1 8) Z17 (κ.2.2.2.1 15) (κ.2.2.2.1 17) (κ.1 1).toInt) ∧ (0 ≤ n13.toInt ∧ n13.toInt ≤ 41) := hr12
      obtain ⟨hr12_0, hr12_1⟩ := hr12
      obtain ⟨hr12_1_0, hr12_1_1⟩ := hr12_1
      refine lv_iload_n C.x C.b dX4_sign_60 rfl (lv_at hl 2 rfl) ?_
      refine lv_iconst (v := 1) C.x C.b dX4_sign_61 (by decide +kernel) ?_
      refine lv_iadd C.x C.b dX4_sign_62 ?_
      refine lv_topi (fun x18 ex18 => ?_)
      have tx18 : x18.toInt = k0.toInt + 1 := (vX4_sign_8 κ k0 r1 x2 x3 r4 x5 r8 r11 x18 hpre_1 hpre_2 hpre_5 hpre_6 hr1_0 hr1_1 hr1_2 ex2 tx2 ex3 tx3 hr4_0 hr4_1 hr4_2 ex5 tx5 hr8_0 hr8_1 hr8_2 hr11_0 hr11_1 hr11_2 ex18)
      exact c_reti C hsz hsl ⟨n13, F14, F15, F16, Z17⟩ ⟨⟨hr12_0, (vX4_sign_9 κ k0 r1 x2 x3 r4 x5 r8 r11 n13 x18 hpre_1 hpre_2 hpre_5 hpre_6 hr1_0 hr1_1 hr1_2 ex2 tx2 ex3 tx3 hr4_0 hr4_1 ex5 tx5 hr8_0 hr8_1 hr8_2 hr11_0 hr11_1 hr11_2 hr12_1_0 hr12_1_1 ex18 tx18)⟩, (vX4_sign_10 ad κ k0 r1 x2 x3 r4 x5 r6 r8 r9 r11 n13 F14 F15 F16 x18 hSV hpre_0 hpre_1 hpre_2 hpre_3 hpre_4 hpre_5 hpre_6 hr1y hr1_0 hr1_1 hr1_2 ex2 tx2 ex3 tx3 hr4y hr4_0 hr4_1 hr4_2 ex5 tx5 hr6y_0 hr6y_1 hr6_0 hr6_1 c7 hr8y hr8_0 hr8_1 hr8_2 hr9y_0 hr9y_1 hr9_0 hr9_1 c10 hr11y hr11_0 hr11_1 hr11_2 hr12y hr12_1_0 hr12_1_1 ex18 tx18)⟩ hP hS ⟨(Nat.le_of_ble_eq_true rfl), (Nat.le_of_ble_eq_true rfl)⟩ ⟨(Nat.le_of_ble_eq_true rfl), (Nat.le_of_ble_eq_true rfl)⟩ dX4_sign_63
  · have c7 : ¬ r6.toInt = 0 := by have h := z_ne c7; rw [show (0 : Int32).toInt = 0 from by decide +kernel] at h; exact h
    refine lv_aload_n C.x C.b dX4_sign_25 rfl (lv_at hl 1 rfl) ?_
    refine lv_iload_n C.x C.b dX4_sign_26 rfl (lv_at hl 0 rfl) ?_
    refine lv_iload_n C.x C.b dX4_sign_27 rfl (lv_at hl 2 rfl) ?_
    refine lv_iconst (v := 0) C.x C.b dX4_sign_28 (by decide +kernel) ?_
    refine lv_null C.x C.b dX4_sign_29 ?_
    refine c_callVv (n := 4) (As := [.int x5, .int k0, .int 0, .null]) (rest := []) C hP hS hl.1 (NX4_add l D cy ad A sz0 sa κ H.size (SLT H) C.f (fun q h => C.a q (Nat.le_trans hS.1 h)) x5 k0 (0 : Int32) none nt_n hSV (vX4_sign_7 κ hpre_3 hpre_4)) ⟨cw_509, cw_512, by decide +kernel⟩ ⟨cw_510, cw_511, cw_484⟩ rfl (hP.recvS (k := 2) (ci := 6) C.K rfl rfl) rfl rfl (lv_room (Nat.le_of_ble_eq_true rfl)) ⟨Nat.le_of_ble_eq_true rfl, Nat.le_of_ble_eq_true rfl⟩ ⟨(Nat.le_of_ble_eq_true rfl), (Nat.le_of_ble_eq_true rfl)⟩ dX4_sign_30 (fun u H locs hr19 hP hS => ?_)
    obtain ⟨n20, F21, F22, F23, Z24⟩ := u
    have hP : CH D cy ad A (tQ (tA (tA (tA (tI κ 7 n20) 10 F21) 11 F22) 12 F23) 13 Z24) H := hP
    obtain ⟨hr19, hr19y⟩ := hr19
    have hr19y : (κ.1 7).toInt < 41 → ADc (κ.2.2.1 10) (κ.2.2.1 11) (κ.2.2.1 12) (κ.1 7) F21 F22 F23 n20 x5 k0 (0 : Int32) := hr19y
    have hr19 : (SV ad κ.2.2.2.2 (κ.2.1 0) (κ.2.1 1) (κ.2.2.2.1 6) (κ.2.2.2.1 7) (κ.2.2.2.1 8) Z24 (κ.2.2.2.1 15) (κ.2.2.2.1 17) (κ.1 1).toInt) ∧ (0 ≤ n20.toInt ∧ n20.toInt ≤ 41) := hr19
    obtain ⟨hr19_0, hr19_1⟩ := hr19
    obtain ⟨hr19_1_0, hr19_1_1⟩ := hr19_1
    refine lv_iload_n C.x C.b dX4_sign_33 rfl (lv_at hl 2 rfl) ?_
    refine lv_iconst (v := 2) C.x C.b dX4_sign_34 (by decide +kernel) ?_
    refine lv_iadd C.x C.b dX4_sign_35 ?_
    refine lv_topi (fun x25 ex25 => ?_)
    have tx25 : x25.toInt = k0.toInt + 2 := (vX4_sign_11 κ k0 r1 x2 x3 r4 x5 x25 hpre_1 hpre_2 hpre_5 hpre_6 hr1_0 hr1_1 hr1_2 ex2 tx2 ex3 tx3 hr4_0 hr4_1 hr4_2 ex5 tx5 ex25)
    exact c_reti C hsz hsl ⟨n20, F21, F22, F23, Z24⟩ ⟨⟨hr19_0, (vX4_sign_12 κ k0 r1 x2 x3 r4 x5 n20 x25 hpre_1 hpre_2 hpre_5 hpre_6 hr1_0 hr1_1 hr1_2 ex2 tx2 ex3 tx3 hr4_0 hr4_1 ex5 tx5 hr19_1_0 hr19_1_1 ex25 tx25)⟩, (vX4_sign_13 ad κ k0 r1 x2 x3 r4 x5 r6 n20 F21 F22 F23 x25 hSV hpre_0 hpre_1 hpre_2 hpre_3 hpre_4 hpre_5 hpre_6 hr1y hr1_0 hr1_1 hr1_2 ex2 tx2 ex3 tx3 hr4y hr4_0 hr4_1 hr4_2 ex5 tx5 hr6y_0 hr6y_1 hr6_0 hr6_1 c7 hr19y hr19_1_0 hr19_1_1 ex25 tx25)⟩ hP hS ⟨(Nat.le_of_ble_eq_true rfl), (Nat.le_of_ble_eq_true rfl)⟩ ⟨(Nat.le_of_ble_eq_true rfl), (Nat.le_of_ble_eq_true rfl)⟩ dX4_sign_36

-- pre:X4_endOfDigits@2 @2
theorem vX4_number_1 (κ : KS) (k0 : Int32) (hpre_0 : L9 (κ.2.2.1 9)) (hpre_1 : 0 ≤ (κ.1 6).toInt) (hpre_2 : (κ.1 6).toInt ≤ 40) (hpre_5 : 0 ≤ k0.toInt) (hpre_6 : k0.toInt ≤ 40) : L9 (κ.2.2.1 9) ∧ 0 ≤ (κ.1 6).toInt ∧ (κ.1 6).toInt ≤ 40 ∧ 0 ≤ k0.toInt ∧ k0.toInt ≤ 41 := by
  refine ⟨?_, ?_, ?_, ?_, ?_⟩ <;> first | assumption | omega | (subst_vars; omega) | trivial
-- nw@8 @8
theorem vX4_number_2 (κ : KS) (k0 : Int32) (r1 : Int32) (x2 : Int32) (hpre_1 : 0 ≤ (κ.1 6).toInt) (hpre_2 : (κ.1 6).toInt ≤ 40) (hpre_5 : 0 ≤ k0.toInt) (hpre_6 : k0.toInt ≤ 40) (hr1_0 : k0.toInt ≤ r1.toInt) (hr1_1 : r1.toInt ≤ max k0.toInt (κ.1 6).toInt) (ex2 : x2 = r1 - k0) : x2.toInt = r1.toInt - k0.toInt := by
  rw [ex2, z_sub (by omega) (by omega)]; first | done | omega
-- pre:X4_peek@18 @18
theorem vX4_number_3 (κ : KS) (hpre_0 : L9 (κ.2.2.1 9)) : L9 (κ.2.2.1 9) := by
  first | assumption | omega | (subst_vars; omega) | trivial
-- nw@41 @41
theorem vX4_number_4 (κ : KS) (k0 : Int32) (r1 : Int32) (x2 : Int32) (r4 : Int32) (x6 : Int32) (hpre_1 : 0 ≤ (κ.1 6).toInt) (hpre_2 : (κ.1 6).toInt ≤ 40) (hpre_5 : 0 ≤ k0.toInt) (hpre_6 : k0.toInt ≤ 40) (hr1_0 : k0.toInt ≤ r1.toInt) (hr1_1 : r1.toInt ≤ max k0.toInt (κ.1 6).toInt) (ex2 : x2 = r1 - k0) (tx2 : x2.toInt = r1.toInt - k0.toInt) (c3 : x2.toInt ≤ 6) (hr4_0 : 0 ≤ r4.toInt) (hr4_1 : r4.toInt ≤ 126) (hr4_2 : ¬ r4.toInt = 0 → 0 ≤ r1.toInt ∧ r1.toInt < (κ.1 6).toInt) (c5 : ¬ r4.toInt = 46) (ex6 : x6 = r1 + (1 : Int32)) : x6.toInt = r1.toInt + 1 := by
  have q1 : (1 : Int32).toInt = 1 := by decide +kernel
  have w1 : (1 : Int32).toInt = 1 := by decide +kernel
  rw [ex6, z_add (by omega) (by omega)]; first | done | omega
-- nw@66 @66
theorem vX4_number_5 (κ : KS) (k0 : Int32) (r1 : Int32) (x2 : Int32) (r4 : Int32) (x6 : Int32) (x8 : Int32) (hpre_1 : 0 ≤ (κ.1 6).toInt) (hpre_2 : (κ.1 6).toInt ≤ 40) (hpre_5 : 0 ≤ k0.toInt) (hpre_6 : k0.toInt ≤ 40) (hr1_0 : k0.toInt ≤ r1.toInt) (hr1_1 : r1.toInt ≤ max k0.toInt (κ.1 6).toInt) (ex2 : x2 = r1 - k0) (tx2 : x2.toInt = r1.toInt - k0.toInt) (c3 : x2.toInt ≤ 6) (hr4_0 : 0 ≤ r4.toInt) (hr4_1 : r4.toInt ≤ 126) (hr4_2 : ¬ r4.toInt = 0 → 0 ≤ r1.toInt ∧ r1.toInt < (κ.1 6).toInt) (c5 : ¬ r4.toInt = 46) (ex6 : x6 = r1 + (1 : Int32)) (tx6 : x6.toInt = r1.toInt + 1) (c7 : x6.toInt < r1.toInt) (ex8 : x8 = r1 - r1) : x8.toInt = r1.toInt - r1.toInt := by
  have q1 : (1 : Int32).toInt = 1 := by decide +kernel
  rw [ex8, z_sub (by omega) (by omega)]; first | done | omega
-- nw@68 @68
theorem vX4_number_6 (κ : KS) (k0 : Int32) (r1 : Int32) (x2 : Int32) (r4 : Int32) (x6 : Int32) (x8 : Int32) (x9 : Int32) (hpre_1 : 0 ≤ (κ.1 6).toInt) (hpre_2 : (κ.1 6).toInt ≤ 40) (hpre_5 : 0 ≤ k0.toInt) (hpre_6 : k0.toInt ≤ 40) (hr1_0 : k0.toInt ≤ r1.toInt) (hr1_1 : r1.toInt ≤ max k0.toInt (κ.1 6).toInt) (ex2 : x2 = r1 - k0) (tx2 : x2.toInt = r1.toInt - k0.toInt) (c3 : x2.toInt ≤ 6) (hr4_0 : 0 ≤ r4.toInt) (hr4_1 : r4.toInt ≤ 126) (hr4_2 : ¬ r4.toInt = 0 → 0 ≤ r1.toInt ∧ r1.toInt < (κ.1 6).toInt) (c5 : ¬ r4.toInt = 46) (ex6 : x6 = r1 + (1 : Int32)) (tx6 : x6.toInt = r1.toInt + 1) (c7 : x6.toInt < r1.toInt) (ex8 : x8 = r1 - r1) (tx8 : x8.toInt = r1.toInt - r1.toInt) (ex9 : x9 = x8 - (1 : Int32)) : x9.toInt = x8.toInt - 1 := by
  have q1 : (1 : Int32).toInt = 1 := by decide +kernel
  have w1 : (1 : Int32).toInt = 1 := by decide +kernel
  rw [ex9, z_sub (by omega) (by omega)]; first | done | omega
-- nw@111 @111
theorem vX4_number_7 (κ : KS) (k0 : Int32) (r1 : Int32) (x2 : Int32) (r4 : Int32) (x6 : Int32) (x8 : Int32) (x9 : Int32) (x13 : Int32) (hpre_1 : 0 ≤ (κ.1 6).toInt) (hpre_2 : (κ.1 6).toInt ≤ 40) (hpre_5 : 0 ≤ k0.toInt) (hpre_6 : k0.toInt ≤ 40) (hr1_0 : k0.toInt ≤ r1.toInt) (hr1_1 : r1.toInt ≤ max k0.toInt (κ.1 6).toInt) (ex2 : x2 = r1 - k0) (tx2 : x2.toInt = r1.toInt - k0.toInt) (c3 : x2.toInt ≤ 6) (hr4_0 : 0 ≤ r4.toInt) (hr4_1 : r4.toInt ≤ 126) (hr4_2 : ¬ r4.toInt = 0 → 0 ≤ r1.toInt ∧ r1.toInt < (κ.1 6).toInt) (c5 : ¬ r4.toInt = 46) (ex6 : x6 = r1 + (1 : Int32)) (tx6 : x6.toInt = r1.toInt + 1) (c7 : x6.toInt < r1.toInt) (ex8 : x8 = r1 - r1) (tx8 : x8.toInt = r1.toInt - r1.toInt) (ex9 : x9 = x8 - (1 : Int32)) (tx9 : x9.toInt = x8.toInt - 1) (c10 : x9.toInt ≤ 3) (c11 : ¬ x9.toInt = 1) (c12 : ¬ x9.toInt = 2) (ex13 : x13 = r1 + (1 : Int32)) : x13.toInt = r1.toInt + 1 := by
  have q1 : (1 : Int32).toInt = 1 := by decide +kernel
  have w1 : (1 : Int32).toInt = 1 := by decide +kernel
  rw [ex13, z_add (by omega) (by omega)]; first | done | omega
-- pre:X4_digits@117 @117
theorem vX4_number_8 (κ : KS) (k0 : Int32) (r1 : Int32) (x2 : Int32) (r4 : Int32) (x6 : Int32) (x8 : Int32) (x9 : Int32) (x13 : Int32) (hpre_0 : L9 (κ.2.2.1 9)) (hpre_1 : 0 ≤ (κ.1 6).toInt) (hpre_2 : (κ.1 6).toInt ≤ 40) (hpre_5 : 0 ≤ k0.toInt) (hpre_6 : k0.toInt ≤ 40) (hr1_0 : k0.toInt ≤ r1.toInt) (hr1_1 : r1.toInt ≤ max k0.toInt (κ.1 6).toInt) (ex2 : x2 = r1 - k0) (tx2 : x2.toInt = r1.toInt - k0.toInt) (c3 : x2.toInt ≤ 6) (hr4_0 : 0 ≤ r4.toInt) (hr4_1 : r4.toInt ≤ 126) (hr4_2 : ¬ r4.toInt = 0 → 0 ≤ r1.toInt ∧ r1.toInt < (κ.1 6).toInt) (c5 : ¬ r4.toInt = 46) (ex6 : x6 = r1 + (1 : Int32)) (tx6 : x6.toInt = r1.toInt + 1) (c7 : x6.toInt < r1.toInt) (ex8 : x8 = r1 - r1) (tx8 : x8.toInt = r1.toInt - r1.toInt) (ex9 : x9 = x8 - (1 : Int32)) (tx9 : x9.toInt = x8.toInt - 1) (c10 : x9.toInt ≤ 3) (c11 : ¬ x9.toInt = 1) (c12 : ¬ x9.toInt = 2) (ex13 : x13 = r1 + (1 : Int32)) (tx13 : x13.toInt = r1.toInt + 1) : L9 (κ.2.2.1 9) ∧ 0 ≤ k0.toInt ∧ r1.toInt ≤ 41 := by
  have q1 : (1 : Int32).toInt = 1 := by decide +kernel
  refine ⟨?_, ?_, ?_⟩ <;> first | assumption | omega | (subst_vars; omega) | trivial
-- pre:X4_digits@120 @120
theorem vX4_number_9 (κ : KS) (k0 : Int32) (r1 : Int32) (x2 : Int32) (r4 : Int32) (x6 : Int32) (x8 : Int32) (x9 : Int32) (x13 : Int32) (hpre_0 : L9 (κ.2.2.1 9)) (hpre_1 : 0 ≤ (κ.1 6).toInt) (hpre_2 : (κ.1 6).toInt ≤ 40) (hpre_5 : 0 ≤ k0.toInt) (hpre_6 : k0.toInt ≤ 40) (hr1_0 : k0.toInt ≤ r1.toInt) (hr1_1 : r1.toInt ≤ max k0.toInt (κ.1 6).toInt) (ex2 : x2 = r1 - k0) (tx2 : x2.toInt = r1.toInt - k0.toInt) (c3 : x2.toInt ≤ 6) (hr4_0 : 0 ≤ r4.toInt) (hr4_1 : r4.toInt ≤ 126) (hr4_2 : ¬ r4.toInt = 0 → 0 ≤ r1.toInt ∧ r1.toInt < (κ.1 6).toInt) (c5 : ¬ r4.toInt = 46) (ex6 : x6 = r1 + (1 : Int32)) (tx6 : x6.toInt = r1.toInt + 1) (c7 : x6.toInt < r1.toInt) (ex8 : x8 = r1 - r1) (tx8 : x8.toInt = r1.toInt - r1.toInt) (ex9 : x9 = x8 - (1 : Int32)) (tx9 : x9.toInt = x8.toInt - 1) (c10 : x9.toInt ≤ 3) (c11 : ¬ x9.toInt = 1) (c12 : ¬ x9.toInt = 2) (ex13 : x13 = r1 + (1 : Int32)) (tx13 : x13.toInt = r1.toInt + 1) : L9 (κ.2.2.1 9) ∧ 0 ≤ x13.toInt ∧ r1.toInt ≤ 41 := by
  have q1 : (1 : Int32).toInt = 1 := by decide +kernel
  refine ⟨?_, ?_, ?_⟩ <;> first | assumption | omega | (subst_vars; omega) | trivial
-- nan@134 @134
theorem vX4_number_10 (r15 : Int32) (x16 : UInt64) (ex16 : x16 = FP.i2d r15) (fx16 : FN x16) : vf_n64 (FP.ddiv x16 (4652007308841189376 : UInt64)) := by
  obtain ⟨s, c, q, hx⟩ : FN x16 := by assumption
  obtain ⟨d, g1, g2⟩ := fp_div hx (show Jvm.FP.Core.decode Jvm.FP.Core.b64 (4652007308841189376 : UInt64).toNat = .fin false 8796093022208000 (-43) by decide +kernel) (by omega)
  exact fp_n g1 g2
-- pre:X10_ofReal@135 @135
theorem vX4_number_11 (r15 : Int32) (x16 : UInt64) (x17 : UInt64) (ex16 : x16 = FP.i2d r15) (fx16 : FN x16) (ex17 : x17 = FP.ddiv x16 (4652007308841189376 : UInt64)) : FN x17 := by
  subst ex17
  first | exact fp_d10 (by assumption) | exact fp_d100 (by assumption) | exact fp_d1000 (by assumption)
-- pre:X4_add@138 @138
theorem vX4_number_12 (κ : KS) (hpre_3 : 0 ≤ (κ.1 7).toInt) (hpre_4 : (κ.1 7).toInt ≤ 41) : 0 ≤ (κ.1 7).toInt ∧ (κ.1 7).toInt ≤ 41 := by
  refine ⟨?_, ?_⟩ <;> first | assumption | omega | (subst_vars; omega) | trivial
-- post @142
theorem vX4_number_13 (κ : KS) (k0 : Int32) (r1 : Int32) (x2 : Int32) (r4 : Int32) (x6 : Int32) (x8 : Int32) (x9 : Int32) (x13 : Int32) (n24 : Int32) (hpre_1 : 0 ≤ (κ.1 6).toInt) (hpre_2 : (κ.1 6).toInt ≤ 40) (hpre_5 : 0 ≤ k0.toInt) (hpre_6 : k0.toInt ≤ 40) (hr1_0 : k0.toInt ≤ r1.toInt) (hr1_1 : r1.toInt ≤ max k0.toInt (κ.1 6).toInt) (ex2 : x2 = r1 - k0) (tx2 : x2.toInt = r1.toInt - k0.toInt) (c3 : x2.toInt ≤ 6) (hr4_0 : 0 ≤ r4.toInt) (hr4_1 : r4.toInt ≤ 126) (hr4_2 : ¬ r4.toInt = 0 → 0 ≤ r1.toInt ∧ r1.toInt < (κ.1 6).toInt) (c5 : ¬ r4.toInt = 46) (ex6 : x6 = r1 + (1 : Int32)) (tx6 : x6.toInt = r1.toInt + 1) (c7 : x6.toInt < r1.toInt) (ex8 : x8 = r1 - r1) (tx8 : x8.toInt = r1.toInt - r1.toInt) (ex9 : x9 = x8 - (1 : Int32)) (tx9 : x9.toInt = x8.toInt - 1) (c10 : x9.toInt ≤ 3) (c11 : ¬ x9.toInt = 1) (c12 : ¬ x9.toInt = 2) (ex13 : x13 = r1 + (1 : Int32)) (tx13 : x13.toInt = r1.toInt + 1) (hr23_1_0 : 0 ≤ n24.toInt) (hr23_1_1 : n24.toInt ≤ 41) : 0 ≤ n24.toInt ∧ n24.toInt ≤ 41 ∧ r1.toInt ≤ 40 := by
  have q1 : (1 : Int32).toInt = 1 := by decide +kernel
  refine ⟨?_, ?_, ?_⟩ <;> first | assumption | omega | (subst_vars; omega) | trivial
-- post2 @142
theorem vX4_number_14 (ad : Nat → Nat) (sa : Nat → Nat) (κ : KS) (k0 : Int32) (r1 : Int32) (x2 : Int32) (r4 : Int32) (x6 : Int32) (x8 : Int32) (x9 : Int32) (x13 : Int32) (r15 : Int32) (x16 : UInt64) (x17 : UInt64) (P19 : PL) (b21 : Nat) (n24 : Int32) (F25 : (Nat → Int32)) (F26 : (Nat → Int32)) (F27 : (Nat → Int32)) (hPV : PV sa κ.2.2.2.2) (hSV : SV ad κ.2.2.2.2 (κ.2.1 0) (κ.2.1 1) (κ.2.2.2.1 6) (κ.2.2.2.1 7) (κ.2.2.2.1 8) (κ.2.2.2.1 13) (κ.2.2.2.1 15) (κ.2.2.2.1 17) (κ.1 1).toInt) (hpre_0 : L9 (κ.2.2.1 9)) (hpre_1 : 0 ≤ (κ.1 6).toInt) (hpre_2 : (κ.1 6).toInt ≤ 40) (hpre_3 : 0 ≤ (κ.1 7).toInt) (hpre_4 : (κ.1 7).toInt ≤ 41) (hpre_5 : 0 ≤ k0.toInt) (hpre_6 : k0.toInt ≤ 40) (hr1y : (κ.1 6).toInt ≤ 40 → RT dg (tx (κ.2.2.1 9) (κ.1 6)) k0.toInt r1.toInt ∧ ¬ dg (tx (κ.2.2.1 9) (κ.1 6) r1.toInt)) (hr1_0 : k0.toInt ≤ r1.toInt) (hr1_1 : r1.toInt ≤ max k0.toInt (κ.1 6).toInt) (ex2 : x2 = r1 - k0) (tx2 : x2.toInt = r1.toInt - k0.toInt) (c3 : x2.toInt ≤ 6) (hr4y : (κ.1 6).toInt ≤ 40 → r4.toInt = tx (κ.2.2.1 9) (κ.1 6) r1.toInt) (hr4_0 : 0 ≤ r4.toInt) (hr4_1 : r4.toInt ≤ 126) (hr4_2 : ¬ r4.toInt = 0 → 0 ≤ r1.toInt ∧ r1.toInt < (κ.1 6).toInt) (c5 : ¬ r4.toInt = 46) (ex6 : x6 = r1 + (1 : Int32)) (tx6 : x6.toInt = r1.toInt + 1) (c7 : x6.toInt < r1.toInt) (ex8 : x8 = r1 - r1) (tx8 : x8.toInt = r1.toInt - r1.toInt) (ex9 : x9 = x8 - (1 : Int32)) (tx9 : x9.toInt = x8.toInt - 1) (c10 : x9.toInt ≤ 3) (c11 : ¬ x9.toInt = 1) (c12 : ¬ x9.toInt = 2) (ex13 : x13 = r1 + (1 : Int32)) (tx13 : x13.toInt = r1.toInt + 1) (ex16 : x16 = FP.i2d r15) (fx16 : FN x16) (ex17 : x17 = FP.ddiv x16 (4652007308841189376 : UInt64)) (hr18_0 : EX κ.2.2.2.2 P19) (hr18_2 : KPx True κ.2.2.2.2 P19) (hr18y : ∀ q7 q8 : Nat → Option Nat, VALq P19 sa q7 q8 b21 (qReal x17)) (hr23y : (κ.1 7).toInt < 41 → ADc (κ.2.2.1 10) (κ.2.2.1 11) (κ.2.2.1 12) (κ.1 7) F25 F26 F27 n24 (1 : Int32) k0 (0 : Int32)) (hr23_1_0 : 0 ≤ n24.toInt) (hr23_1_1 : n24.toInt ≤ 41) : (κ.1 7).toInt ≤ k0.toInt → k0.toInt < (κ.1 6).toInt → dg (tx (κ.2.2.1 9) (κ.1 6) k0.toInt) → ∃ t9, TokR (tx (κ.2.2.1 9) (κ.1 6)) (κ.1 6).toInt k0.toInt t9 ∧ LXc (κ.2.2.1 10) (κ.2.2.1 11) (κ.2.2.1 12) (κ.1 7) F25 F26 F27 n24 k0.toInt r1.toInt t9 := by
  have q0 : (0 : Int32).toInt = 0 := by decide +kernel
  have q1 : (1 : Int32).toInt = 1 := by decide +kernel
  intro h1 h2 h3
  have a := hr1y (by omega)
  have lt := RT_lt a.1 a.2 h3
  have pk0 := hr4y (by omega)
  first | (exfalso; omega) | exact ⟨_, numN a.1 a.2 rfl (by omega) (by omega) h3, LXc.add (hr23y (by omega)) rfl (by omega) (by omega) (by first | rfl | omega) rfl⟩
-- nw@111 @111
theorem vX4_number_15 (κ : KS) (k0 : Int32) (r1 : Int32) (x2 : Int32) (r4 : Int32) (x6 : Int32) (x8 : Int32) (x9 : Int32) (x29 : Int32) (hpre_1 : 0 ≤ (κ.1 6).toInt) (hpre_2 : (κ.1 6).toInt ≤ 40) (hpre_5 : 0 ≤ k0.toInt) (hpre_6 : k0.toInt ≤ 40) (hr1_0 : k0.toInt ≤ r1.toInt) (hr1_1 : r1.toInt ≤ max k0.toInt (κ.1 6).toInt) (ex2 : x2 = r1 - k0) (tx2 : x2.toInt = r1.toInt - k0.toInt) (c3 : x2.toInt ≤ 6) (hr4_0 : 0 ≤ r4.toInt) (hr4_1 : r4.toInt ≤ 126) (hr4_2 : ¬ r4.toInt = 0 → 0 ≤ r1.toInt ∧ r1.toInt < (κ.1 6).toInt) (c5 : ¬ r4.toInt = 46) (ex6 : x6 = r1 + (1 : Int32)) (tx6 : x6.toInt = r1.toInt + 1) (c7 : x6.toInt < r1.toInt) (ex8 : x8 = r1 - r1) (tx8 : x8.toInt = r1.toInt - r1.toInt) (ex9 : x9 = x8 - (1 : Int32)) (tx9 : x9.toInt = x8.toInt - 1) (c10 : x9.toInt ≤ 3) (c11 : ¬ x9.toInt = 1) (c12 : x9.toInt = 2) (ex29 : x29 = r1 + (1 : Int32)) : x29.toInt = r1.toInt + 1 := by
  have q1 : (1 : Int32).toInt = 1 := by decide +kernel
  have w1 : (1 : Int32).toInt = 1 := by decide +kernel
  rw [ex29, z_add (by omega) (by omega)]; first | done | omega
-- pre:X4_digits@117 @117
theorem vX4_number_16 (κ : KS) (k0 : Int32) (r1 : Int32) (x2 : Int32) (r4 : Int32) (x6 : Int32) (x8 : Int32) (x9 : Int32) (x29 : Int32) (hpre_0 : L9 (κ.2.2.1 9)) (hpre_1 : 0 ≤ (κ.1 6).toInt) (hpre_2 : (κ.1 6).toInt ≤ 40) (hpre_5 : 0 ≤ k0.toInt) (hpre_6 : k0.toInt ≤ 40) (hr1_0 : k0.toInt ≤ r1.toInt) (hr1_1 : r1.toInt ≤ max k0.toInt (κ.1 6).toInt) (ex2 : x2 = r1 - k0) (tx2 : x2.toInt = r1.toInt - k0.toInt) (c3 : x2.toInt ≤ 6) (hr4_0 : 0 ≤ r4.toInt) (hr4_1 : r4.toInt ≤ 126) (hr4_2 : ¬ r4.toInt = 0 → 0 ≤ r1.toInt ∧ r1.toInt < (κ.1 6).toInt) (c5 : ¬ r4.toInt = 46) (ex6 : x6 = r1 + (1 : Int32)) (tx6 : x6.toInt = r1.toInt + 1) (c7 : x6.toInt < r1.toInt) (ex8 : x8 = r1 - r1) (tx8 : x8.toInt = r1.toInt - r1.toInt) (ex9 : x9 = x8 - (1 : Int32)) (tx9 : x9.toInt = x8.toInt - 1) (c10 : x9.toInt ≤ 3) (c11 : ¬ x9.toInt = 1) (c12 : x9.toInt = 2) (ex29 : x29 = r1 + (1 : Int32)) (tx29 : x29.toInt = r1.toInt + 1) : L9 (κ.2.2.1 9) ∧ 0 ≤ k0.toInt ∧ r1.toInt ≤ 41 := by
  have q1 : (1 : Int32).toInt = 1 := by decide +kernel
  refine ⟨?_, ?_, ?_⟩ <;> first | assumption | omega | (subst_vars; omega) | trivial
-- pre:X4_digits@120 @120
theorem vX4_number_17 (κ : KS) (k0 : Int32) (r1 : Int32) (x2 : Int32) (r4 : Int32) (x6 : Int32) (x8 : Int32) (x9 : Int32) (x29 : Int32) (hpre_0 : L9 (κ.2.2.1 9)) (hpre_1 : 0 ≤ (κ.1 6).toInt) (hpre_2 : (κ.1 6).toInt ≤ 40) (hpre_5 : 0 ≤ k0.toInt) (hpre_6 : k0.toInt ≤ 40) (hr1_0 : k0.toInt ≤ r1.toInt) (hr1_1 : r1.toInt ≤ max k0.toInt (κ.1 6).toInt) (ex2 : x2 = r1 - k0) (tx2 : x2.toInt = r1.toInt - k0.toInt) (c3 : x2.toInt ≤ 6) (hr4_0 : 0 ≤ r4.toInt) (hr4_1 : r4.toInt ≤ 126) (hr4_2 : ¬ r4.toInt = 0 → 0 ≤ r1.toInt ∧ r1.toInt < (κ.1 6).toInt) (c5 : ¬ r4.toInt = 46) (ex6 : x6 = r1 + (1 : Int32)) (tx6 : x6.toInt = r1.toInt + 1) (c7 : x6.toInt < r1.toInt) (ex8 : x8 = r1 - r1) (tx8 : x8.toInt = r1.toInt - r1.toInt) (ex9 : x9 = x8 - (1 : Int32)) (tx9 : x9.toInt = x8.toInt - 1) (c10 : x9.toInt ≤ 3) (c11 : ¬ x9.toInt = 1) (c12 : x9.toInt = 2) (ex29 : x29 = r1 + (1 : Int32)) (tx29 : x29.toInt = r1.toInt + 1) : L9 (κ.2.2.1 9) ∧ 0 ≤ x29.toInt ∧ r1.toInt ≤ 41 := by
  have q1 : (1 : Int32).toInt = 1 := by decide +kernel
  refine ⟨?_, ?_, ?_⟩ <;> first | assumption | omega | (subst_vars; omega) | trivial
-- nan@134 @134
theorem vX4_number_18 (r31 : Int32) (x32 : UInt64) (ex32 : x32 = FP.i2d r31) (fx32 : FN x32) : vf_n64 (FP.ddiv x32 (4636737291354636288 : UInt64)) := by
  obtain ⟨s, c, q, hx⟩ : FN x32 := by assumption
  obtain ⟨d, g1, g2⟩ := fp_div hx (show Jvm.FP.Core.decode Jvm.FP.Core.b64 (4636737291354636288 : UInt64).toNat = .fin false 7036874417766400 (-46) by decide +kernel) (by omega)
  exact fp_n g1 g2
-- pre:X10_ofReal@135 @135
theorem vX4_number_19 (r31 : Int32) (x32 : UInt64) (x33 : UInt64) (ex32 : x32 = FP.i2d r31) (fx32 : FN x32) (ex33 : x33 = FP.ddiv x32 (4636737291354636288 : UInt64)) : FN x33 := by
  subst ex33
  first | exact fp_d10 (by assumption) | exact fp_d100 (by assumption) | exact fp_d1000 (by assumption)
-- post @142
theorem vX4_number_20 (κ : KS) (k0 : Int32) (r1 : Int32) (x2 : Int32) (r4 : Int32) (x6 : Int32) (x8 : Int32) (x9 : Int32) (x29 : Int32) (n40 : Int32) (hpre_1 : 0 ≤ (κ.1 6).toInt) (hpre_2 : (κ.1 6).toInt ≤ 40) (hpre_5 : 0 ≤ k0.toInt) (hpre_6 : k0.toInt ≤ 40) (hr1_0 : k0.toInt ≤ r1.toInt) (hr1_1 : r1.toInt ≤ max k0.toInt (κ.1 6).toInt) (ex2 : x2 = r1 - k0) (tx2 : x2.toInt = r1.toInt - k0.toInt) (c3 : x2.toInt ≤ 6) (hr4_0 : 0 ≤ r4.toInt) (hr4_1 : r4.toInt ≤ 126) (hr4_2 : ¬ r4.toInt = 0 → 0 ≤ r1.toInt ∧ r1.toInt < (κ.1 6).toInt) (c5 : ¬ r4.toInt = 46) (ex6 : x6 = r1 + (1 : Int32)) (tx6 : x6.toInt = r1.toInt + 1) (c7 : x6.toInt < r1.toInt) (ex8 : x8 = r1 - r1) (tx8 : x8.toInt = r1.toInt - r1.toInt) (ex9 : x9 = x8 - (1 : Int32)) (tx9 : x9.toInt = x8.toInt - 1) (c10 : x9.toInt ≤ 3) (c11 : ¬ x9.toInt = 1) (c12 : x9.toInt = 2) (ex29 : x29 = r1 + (1 : Int32)) (tx29 : x29.toInt = r1.toInt + 1) (hr39_1_0 : 0 ≤ n40.toInt) (hr39_1_1 : n40.toInt ≤ 41) : 0 ≤ n40.toInt ∧ n40.toInt ≤ 41 ∧ r1.toInt ≤ 40 := by
  have q1 : (1 : Int32).toInt = 1 := by decide +kernel
  refine ⟨?_, ?_, ?_⟩ <;> first | assumption | omega | (subst_vars; omega) | trivial
-- post2 @142
theorem vX4_number_21 (ad : Nat → Nat) (sa : Nat → Nat) (κ : KS) (k0 : Int32) (r1 : Int32) (x2 : Int32) (r4 : Int32) (x6 : Int32) (x8 : Int32) (x9 : Int32) (x29 : Int32) (r31 : Int32) (x32 : UInt64) (x33 : UInt64) (P35 : PL) (b37 : Nat) (n40 : Int32) (F41 : (Nat → Int32)) (F42 : (Nat → Int32)) (F43 : (Nat → Int32)) (hPV : PV sa κ.2.2.2.2) (hSV : SV ad κ.2.2.2.2 (κ.2.1 0) (κ.2.1 1) (κ.2.2.2.1 6) (κ.2.2.2.1 7) (κ.2.2.2.1 8) (κ.2.2.2.1 13) (κ.2.2.2.1 15) (κ.2.2.2.1 17) (κ.1 1).toInt) (hpre_0 : L9 (κ.2.2.1 9)) (hpre_1 : 0 ≤ (κ.1 6).toInt) (hpre_2 : (κ.1 6).toInt ≤ 40) (hpre_3 : 0 ≤ (κ.1 7).toInt) (hpre_4 : (κ.1 7).toInt ≤ 41) (hpre_5 : 0 ≤ k0.toInt) (hpre_6 : k0.toInt ≤ 40) (hr1y : (κ.1 6).toInt ≤ 40 → RT dg (tx (κ.2.2.1 9) (κ.1 6)) k0.toInt r1.toInt ∧ ¬ dg (tx (κ.2.2.1 9) (κ.1 6) r1.toInt)) (hr1_0 : k0.toInt ≤ r1.toInt) (hr1_1 : r1.toInt ≤ max k0.toInt (κ.1 6).toInt) (ex2 : x2 = r1 - k0) (tx2 : x2.toInt = r1.toInt - k0.toInt) (c3 : x2.toInt ≤ 6) (hr4y : (κ.1 6).toInt ≤ 40 → r4.toInt = tx (κ.2.2.1 9) (κ.1 6) r1.toInt) (hr4_0 : 0 ≤ r4.toInt) (hr4_1 : r4.toInt ≤ 126) (hr4_2 : ¬ r4.toInt = 0 → 0 ≤ r1.toInt ∧ r1.toInt < (κ.1 6).toInt) (c5 : ¬ r4.toInt = 46) (ex6 : x6 = r1 + (1 : Int32)) (tx6 : x6.toInt = r1.toInt + 1) (c7 : x6.toInt < r1.toInt) (ex8 : x8 = r1 - r1) (tx8 : x8.toInt = r1.toInt - r1.toInt) (ex9 : x9 = x8 - (1 : Int32)) (tx9 : x9.toInt = x8.toInt - 1) (c10 : x9.toInt ≤ 3) (c11 : ¬ x9.toInt = 1) (c12 : x9.toInt = 2) (ex29 : x29 = r1 + (1 : Int32)) (tx29 : x29.toInt = r1.toInt + 1) (ex32 : x32 = FP.i2d r31) (fx32 : FN x32) (ex33 : x33 = FP.ddiv x32 (4636737291354636288 : UInt64)) (hr34_0 : EX κ.2.2.2.2 P35) (hr34_2 : KPx True κ.2.2.2.2 P35) (hr34y : ∀ q7 q8 : Nat → Option Nat, VALq P35 sa q7 q8 b37 (qReal x33)) (hr39y : (κ.1 7).toInt < 41 → ADc (κ.2.2.1 10) (κ.2.2.1 11) (κ.2.2.1 12) (κ.1 7) F41 F42 F43 n40 (1 : Int32) k0 (0 : Int32)) (hr39_1_0 : 0 ≤ n40.toInt) (hr39_1_1 : n40.toInt ≤ 41) : (κ.1 7).toInt ≤ k0.toInt → k0.toInt < (κ.1 6).toInt → dg (tx (κ.2.2.1 9) (κ.1 6) k0.toInt) → ∃ t9, TokR (tx (κ.2.2.1 9) (κ.1 6)) (κ.1 6).toInt k0.toInt t9 ∧ LXc (κ.2.2.1 10) (κ.2.2.1 11) (κ.2.2.1 12) (κ.1 7) F41 F42 F43 n40 k0.toInt r1.toInt t9 := by
  have q0 : (0 : Int32).toInt = 0 := by decide +kernel
  have q1 : (1 : Int32).toInt = 1 := by decide +kernel
  intro h1 h2 h3
  have a := hr1y (by omega)
  have lt := RT_lt a.1 a.2 h3
  have pk0 := hr4y (by omega)
  first | (exfalso; omega) | exact ⟨_, numN a.1 a.2 rfl (by omega) (by omega) h3, LXc.add (hr39y (by omega)) rfl (by omega) (by omega) (by first | rfl | omega) rfl⟩
-- nw@111 @111
theorem vX4_number_22 (κ : KS) (k0 : Int32) (r1 : Int32) (x2 : Int32) (r4 : Int32) (x6 : Int32) (x8 : Int32) (x9 : Int32) (x45 : Int32) (hpre_1 : 0 ≤ (κ.1 6).toInt) (hpre_2 : (κ.1 6).toInt ≤ 40) (hpre_5 : 0 ≤ k0.toInt) (hpre_6 : k0.toInt ≤ 40) (hr1_0 : k0.toInt ≤ r1.toInt) (hr1_1 : r1.toInt ≤ max k0.toInt (κ.1 6).toInt) (ex2 : x2 = r1 - k0) (tx2 : x2.toInt = r1.toInt - k0.toInt) (c3 : x2.toInt ≤ 6) (hr4_0 : 0 ≤ r4.toInt) (hr4_1 : r4.toInt ≤ 126) (hr4_2 : ¬ r4.toInt = 0 → 0 ≤ r1.toInt ∧ r1.toInt < (κ.1 6).toInt) (c5 : ¬ r4.toInt = 46) (ex6 : x6 = r1 + (1 : Int32)) (tx6 : x6.toInt = r1.toInt + 1) (c7 : x6.toInt < r1.toInt) (ex8 : x8 = r1 - r1) (tx8 : x8.toInt = r1.toInt - r1.toInt) (ex9 : x9 = x8 - (1 : Int32)) (tx9 : x9.toInt = x8.toInt - 1) (c10 : x9.toInt ≤ 3) (c11 : x9.toInt = 1) (ex45 : x45 = r1 + (1 : Int32)) : x45.toInt = r1.toInt + 1 := by
  have q1 : (1 : Int32).toInt = 1 := by decide +kernel
  have w1 : (1 : Int32).toInt = 1 := by decide +kernel
  rw [ex45, z_add (by omega) (by omega)]; first | done | omega
-- pre:X4_digits@117 @117
theorem vX4_number_23 (κ : KS) (k0 : Int32) (r1 : Int32) (x2 : Int32) (r4 : Int32) (x6 : Int32) (x8 : Int32) (x9 : Int32) (x45 : Int32) (hpre_0 : L9 (κ.2.2.1 9)) (hpre_1 : 0 ≤ (κ.1 6).toInt) (hpre_2 : (κ.1 6).toInt ≤ 40) (hpre_5 : 0 ≤ k0.toInt) (hpre_6 : k0.toInt ≤ 40) (hr1_0 : k0.toInt ≤ r1.toInt) (hr1_1 : r1.toInt ≤ max k0.toInt (κ.1 6).toInt) (ex2 : x2 = r1 - k0) (tx2 : x2.toInt = r1.toInt - k0.toInt) (c3 : x2.toInt ≤ 6) (hr4_0 : 0 ≤ r4.toInt) (hr4_1 : r4.toInt ≤ 126) (hr4_2 : ¬ r4.toInt = 0 → 0 ≤ r1.toInt ∧ r1.toInt < (κ.1 6).toInt) (c5 : ¬ r4.toInt = 46) (ex6 : x6 = r1 + (1 : Int32)) (tx6 : x6.toInt = r1.toInt + 1) (c7 : x6.toInt < r1.toInt) (ex8 : x8 = r1 - r1) (tx8 : x8.toInt = r1.toInt - r1.toInt) (ex9 : x9 = x8 - (1 : Int32)) (tx9 : x9.toInt = x8.toInt - 1) (c10 : x9.toInt ≤ 3) (c11 : x9.toInt = 1) (ex45 : x45 = r1 + (1 : Int32)) (tx45 : x45.toInt = r1.toInt + 1) : L9 (κ.2.2.1 9) ∧ 0 ≤ k0.toInt ∧ r1.toInt ≤ 41 := by
  have q1 : (1 : Int32).toInt = 1 := by decide +kernel
  refine ⟨?_, ?_, ?_⟩ <;> first | assumption | omega | (subst_vars; omega) | trivial
-- pre:X4_digits@120 @120
theorem vX4_number_24 (κ : KS) (k0 : Int32) (r1 : Int32) (x2 : Int32) (r4 : Int32) (x6 : Int32) (x8 : Int32) (x9 : Int32) (x45 : Int32) (hpre_0 : L9 (κ.2.2.1 9)) (hpre_1 : 0 ≤ (κ.1 6).toInt) (hpre_2 : (κ.1 6).toInt ≤ 40) (hpre_5 : 0 ≤ k0.toInt) (hpre_6 : k0.toInt ≤ 40) (hr1_0 : k0.toInt ≤ r1.toInt) (hr1_1 : r1.toInt ≤ max k0.toInt (κ.1 6).toInt) (ex2 : x2 = r1 - k0) (tx2 : x2.toInt = r1.toInt - k0.toInt) (c3 : x2.toInt ≤ 6) (hr4_0 : 0 ≤ r4.toInt) (hr4_1 : r4.toInt ≤ 126) (hr4_2 : ¬ r4.toInt = 0 → 0 ≤ r1.toInt ∧ r1.toInt < (κ.1 6).toInt) (c5 : ¬ r4.toInt = 46) (ex6 : x6 = r1 + (1 : Int32)) (tx6 : x6.toInt = r1.toInt + 1) (c7 : x6.toInt < r1.toInt) (ex8 : x8 = r1 - r1) (tx8 : x8.toInt = r1.toInt - r1.toInt) (ex9 : x9 = x8 - (1 : Int32)) (tx9 : x9.toInt = x8.toInt - 1) (c10 : x9.toInt ≤ 3) (c11 : x9.toInt = 1) (ex45 : x45 = r1 + (1 : Int32)) (tx45 : x45.toInt = r1.toInt + 1) : L9 (κ.2.2.1 9) ∧ 0 ≤ x45.toInt ∧ r1.toInt ≤ 41 := by
  have q1 : (1 : Int32).toInt = 1 := by decide +kernel
  refine ⟨?_, ?_, ?_⟩ <;> first | assumption | omega | (subst_vars; omega) | trivial
-- nan@134 @134
theorem vX4_number_25 (r47 : Int32) (x48 : UInt64) (ex48 : x48 = FP.i2d r47) (fx48 : FN x48) : vf_n64 (FP.ddiv x48 (4621819117588971520 : UInt64)) := by
  obtain ⟨s, c, q, hx⟩ : FN x48 := by assumption
  obtain ⟨d, g1, g2⟩ := fp_div hx (show Jvm.FP.Core.decode Jvm.FP.Core.b64 (4621819117588971520 : UInt64).toNat = .fin false 5629499534213120 (-49) by decide +kernel) (by omega)
  exact fp_n g1 g2
-- pre:X10_ofReal@135 @135
theorem vX4_number_26 (r47 : Int32) (x48 : UInt64) (x49 : UInt64) (ex48 : x48 = FP.i2d r47) (fx48 : FN x48) (ex49 : x49 = FP.ddiv x48 (4621819117588971520 : UInt64)) : FN x49 := by
  subst ex49
  first | exact fp_d10 (by assumption) | exact fp_d100 (by assumption) | exact fp_d1000 (by assumption)
-- post @142
theorem vX4_number_27 (κ : KS) (k0 : Int32) (r1 : Int32) (x2 : Int32) (r4 : Int32) (x6 : Int32) (x8 : Int32) (x9 : Int32) (x45 : Int32) (n56 : Int32) (hpre_1 : 0 ≤ (κ.1 6).toInt) (hpre_2 : (κ.1 6).toInt ≤ 40) (hpre_5 : 0 ≤ k0.toInt) (hpre_6 : k0.toInt ≤ 40) (hr1_0 : k0.toInt ≤ r1.toInt) (hr1_1 : r1.toInt ≤ max k0.toInt (κ.1 6).toInt) (ex2 : x2 = r1 - k0) (tx2 : x2.toInt = r1.toInt - k0.toInt) (c3 : x2.toInt ≤ 6) (hr4_0 : 0 ≤ r4.toInt) (hr4_1 : r4.toInt ≤ 126) (hr4_2 : ¬ r4.toInt = 0 → 0 ≤ r1.toInt ∧ r1.toInt < (κ.1 6).toInt) (c5 : ¬ r4.toInt = 46) (ex6 : x6 = r1 + (1 : Int32)) (tx6 : x6.toInt = r1.toInt + 1) (c7 : x6.toInt < r1.toInt) (ex8 : x8 = r1 - r1) (tx8 : x8.toInt = r1.toInt - r1.toInt) (ex9 : x9 = x8 - (1 : Int32)) (tx9 : x9.toInt = x8.toInt - 1) (c10 : x9.toInt ≤ 3) (c11 : x9.toInt = 1) (ex45 : x45 = r1 + (1 : Int32)) (tx45 : x45.toInt = r1.toInt + 1) (hr55_1_0 : 0 ≤ n56.toInt) (hr55_1_1 : n56.toInt ≤ 41) : 0 ≤ n56.toInt ∧ n56.toInt ≤ 41 ∧ r1.toInt ≤ 40 := by
  have q1 : (1 : Int32).toInt = 1 := by decide +kernel
  refine ⟨?_, ?_, ?_⟩ <;> first | assumption | omega | (subst_vars; omega) | trivial
-- post2 @142
theorem vX4_number_28 (ad : Nat → Nat) (sa : Nat → Nat) (κ : KS) (k0 : Int32) (r1 : Int32) (x2 : Int32) (r4 : Int32) (x6 : Int32) (x8 : Int32) (x9 : Int32) (x45 : Int32) (r47 : Int32) (x48 : UInt64) (x49 : UInt64) (P51 : PL) (b53 : Nat) (n56 : Int32) (F57 : (Nat → Int32)) (F58 : (Nat → Int32)) (F59 : (Nat → Int32)) (hPV : PV sa κ.2.2.2.2) (hSV : SV ad κ.2.2.2.2 (κ.2.1 0) (κ.2.1 1) (κ.2.2.2.1 6) (κ.2.2.2.1 7) (κ.2.2.2.1 8) (κ.2.2.2.1 13) (κ.2.2.2.1 15) (κ.2.2.2.1 17) (κ.1 1).toInt) (hpre_0 : L9 (κ.2.2.1 9)) (hpre_1 : 0 ≤ (κ.1 6).toInt) (hpre_2 : (κ.1 6).toInt ≤ 40) (hpre_3 : 0 ≤ (κ.1 7).toInt) (hpre_4 : (κ.1 7).toInt ≤ 41) (hpre_5 : 0 ≤ k0.toInt) (hpre_6 : k0.toInt ≤ 40) (hr1y : (κ.1 6).toInt ≤ 40 → RT dg (tx (κ.2.2.1 9) (κ.1 6)) k0.toInt r1.toInt ∧ ¬ dg (tx (κ.2.2.1 9) (κ.1 6) r1.toInt)) (hr1_0 : k0.toInt ≤ r1.toInt) (hr1_1 : r1.toInt ≤ max k0.toInt (κ.1 6).toInt) (ex2 : x2 = r1 - k0) (tx2 : x2.toInt = r1.toInt - k0.toInt) (c3 : x2.toInt ≤ 6) (hr4y : (κ.1 6).toInt ≤ 40 → r4.toInt = tx (κ.2.2.1 9) (κ.1 6) r1.toInt) (hr4_0 : 0 ≤ r4.toInt) (hr4_1 : r4.toInt ≤ 126) (hr4_2 : ¬ r4.toInt = 0 → 0 ≤ r1.toInt ∧ r1.toInt < (κ.1 6).toInt) (c5 : ¬ r4.toInt = 46) (ex6 : x6 = r1 + (1 : Int32)) (tx6 : x6.toInt = r1.toInt + 1) (c7 : x6.toInt < r1.toInt) (ex8 : x8 = r1 - r1) (tx8 : x8.toInt = r1.toInt - r1.toInt) (ex9 : x9 = x8 - (1 : Int32)) (tx9 : x9.toInt = x8.toInt - 1) (c10 : x9.toInt ≤ 3) (c11 : x9.toInt = 1) (ex45 : x45 = r1 + (1 : Int32)) (tx45 : x45.toInt = r1.toInt + 1) (ex48 : x48 = FP.i2d r47) (fx48 : FN x48) (ex49 : x49 = FP.ddiv x48 (4621819117588971520 : UInt64)) (hr50_0 : EX κ.2.2.2.2 P51) (hr50_2 : KPx True κ.2.2.2.2 P51) (hr50y : ∀ q7 q8 : Nat → Option Nat, VALq P51 sa q7 q8 b53 (qReal x49)) (hr55y : (κ.1 7).toInt < 41 → ADc (κ.2.2.1 10) (κ.2.2.1 11) (κ.2.2.1 12) (κ.1 7) F57 F58 F59 n56 (1 : Int32) k0 (0 : Int32)) (hr55_1_0 : 0 ≤ n56.toInt) (hr55_1_1 : n56.toInt ≤ 41) : (κ.1 7).toInt ≤ k0.toInt → k0.toInt < (κ.1 6).toInt → dg (tx (κ.2.2.1 9) (κ.1 6) k0.toInt) → ∃ t9, TokR (tx (κ.2.2.1 9) (κ.1 6)) (κ.1 6).toInt k0.toInt t9 ∧ LXc (κ.2.2.1 10) (κ.2.2.1 11) (κ.2.2.1 12) (κ.1 7) F57 F58 F59 n56 k0.toInt r1.toInt t9 := by
  have q0 : (0 : Int32).toInt = 0 := by decide +kernel
  have q1 : (1 : Int32).toInt = 1 := by decide +kernel
  intro h1 h2 h3
  have a := hr1y (by omega)
  have lt := RT_lt a.1 a.2 h3
  have pk0 := hr4y (by omega)
  first | (exfalso; omega) | exact ⟨_, numN a.1 a.2 rfl (by omega) (by omega) h3, LXc.add (hr55y (by omega)) rfl (by omega) (by omega) (by first | rfl | omega) rfl⟩
-- post @78
theorem vX4_number_29 (κ : KS) (hpre_3 : 0 ≤ (κ.1 7).toInt) (hpre_4 : (κ.1 7).toInt ≤ 41) : 0 ≤ (κ.1 7).toInt ∧ (κ.1 7).toInt ≤ 41 ∧ (-1 : Int32).toInt ≤ 40 := by
  have qm1 : (-1 : Int32).toInt = (-1) := by decide +kernel
  refine ⟨?_, ?_, ?_⟩ <;> first | assumption | omega | (subst_vars; omega) | trivial
-- post2 @78
theorem vX4_number_30 (ad : Nat → Nat) (sa : Nat → Nat) (κ : KS) (k0 : Int32) (r1 : Int32) (x2 : Int32) (r4 : Int32) (x6 : Int32) (x8 : Int32) (x9 : Int32) (hPV : PV sa κ.2.2.2.2) (hSV : SV ad κ.2.2.2.2 (κ.2.1 0) (κ.2.1 1) (κ.2.2.2.1 6) (κ.2.2.2.1 7) (κ.2.2.2.1 8) (κ.2.2.2.1 13) (κ.2.2.2.1 15) (κ.2.2.2.1 17) (κ.1 1).toInt) (hpre_0 : L9 (κ.2.2.1 9)) (hpre_1 : 0 ≤ (κ.1 6).toInt) (hpre_2 : (κ.1 6).toInt ≤ 40) (hpre_3 : 0 ≤ (κ.1 7).toInt) (hpre_4 : (κ.1 7).toInt ≤ 41) (hpre_5 : 0 ≤ k0.toInt) (hpre_6 : k0.toInt ≤ 40) (hr1y : (κ.1 6).toInt ≤ 40 → RT dg (tx (κ.2.2.1 9) (κ.1 6)) k0.toInt r1.toInt ∧ ¬ dg (tx (κ.2.2.1 9) (κ.1 6) r1.toInt)) (hr1_0 : k0.toInt ≤ r1.toInt) (hr1_1 : r1.toInt ≤ max k0.toInt (κ.1 6).toInt) (ex2 : x2 = r1 - k0) (tx2 : x2.toInt = r1.toInt - k0.toInt) (c3 : x2.toInt ≤ 6) (hr4y : (κ.1 6).toInt ≤ 40 → r4.toInt = tx (κ.2.2.1 9) (κ.1 6) r1.toInt) (hr4_0 : 0 ≤ r4.toInt) (hr4_1 : r4.toInt ≤ 126) (hr4_2 : ¬ r4.toInt = 0 → 0 ≤ r1.toInt ∧ r1.toInt < (κ.1 6).toInt) (c5 : ¬ r4.toInt = 46) (ex6 : x6 = r1 + (1 : Int32)) (tx6 : x6.toInt = r1.toInt + 1) (c7 : x6.toInt < r1.toInt) (ex8 : x8 = r1 - r1) (tx8 : x8.toInt = r1.toInt - r1.toInt) (ex9 : x9 = x8 - (1 : Int32)) (tx9 : x9.toInt = x8.toInt - 1) (c10 : 3 < x9.toInt) : (κ.1 7).toInt ≤ k0.toInt → k0.toInt < (κ.1 6).toInt → dg (tx (κ.2.2.1 9) (κ.1 6) k0.toInt) → ∃ t9, TokR (tx (κ.2.2.1 9) (κ.1 6)) (κ.1 6).toInt k0.toInt t9 ∧ LXc (κ.2.2.1 10) (κ.2.2.1 11) (κ.2.2.1 12) (κ.1 7) (κ.2.2.1 10) (κ.2.2.1 11) (κ.2.2.1 12) (κ.1 7) k0.toInt (-1 : Int32).toInt t9 := by
  have qm1 : (-1 : Int32).toInt = (-1) := by decide +kernel
  have q1 : (1 : Int32).toInt = 1 := by decide +kernel
  intro h1 h2 h3
  have a := hr1y (by omega)
  have lt := RT_lt a.1 a.2 h3
  have pk0 := hr4y (by omega)
  first | (exfalso; omega) | exact ⟨none, numX a.1 a.2 (by omega) h3, by show (-1 : Int32).toInt ≤ _; omega⟩
-- pre:X4_digits@53 @53
theorem vX4_number_31 (κ : KS) (k0 : Int32) (r1 : Int32) (x2 : Int32) (r4 : Int32) (x6 : Int32) (hpre_0 : L9 (κ.2.2.1 9)) (hpre_1 : 0 ≤ (κ.1 6).toInt) (hpre_2 : (κ.1 6).toInt ≤ 40) (hpre_5 : 0 ≤ k0.toInt) (hpre_6 : k0.toInt ≤ 40) (hr1_0 : k0.toInt ≤ r1.toInt) (hr1_1 : r1.toInt ≤ max k0.toInt (κ.1 6).toInt) (ex2 : x2 = r1 - k0) (tx2 : x2.toInt = r1.toInt - k0.toInt) (c3 : x2.toInt ≤ 6) (hr4_0 : 0 ≤ r4.toInt) (hr4_1 : r4.toInt ≤ 126) (hr4_2 : ¬ r4.toInt = 0 → 0 ≤ r1.toInt ∧ r1.toInt < (κ.1 6).toInt) (c5 : ¬ r4.toInt = 46) (ex6 : x6 = r1 + (1 : Int32)) (tx6 : x6.toInt = r1.toInt + 1) (c7 : r1.toInt ≤ x6.toInt) : L9 (κ.2.2.1 9) ∧ 0 ≤ k0.toInt ∧ r1.toInt ≤ 41 := by
  have q1 : (1 : Int32).toInt = 1 := by decide +kernel
  refine ⟨?_, ?_, ?_⟩ <;> first | assumption | omega | (subst_vars; omega) | trivial
-- post @63
theorem vX4_number_32 (κ : KS) (k0 : Int32) (r1 : Int32) (x2 : Int32) (r4 : Int32) (x6 : Int32) (n68 : Int32) (hpre_1 : 0 ≤ (κ.1 6).toInt) (hpre_2 : (κ.1 6).toInt ≤ 40) (hpre_5 : 0 ≤ k0.toInt) (hpre_6 : k0.toInt ≤ 40) (hr1_0 : k0.toInt ≤ r1.toInt) (hr1_1 : r1.toInt ≤ max k0.toInt (κ.1 6).toInt) (ex2 : x2 = r1 - k0) (tx2 : x2.toInt = r1.toInt - k0.toInt) (c3 : x2.toInt ≤ 6) (hr4_0 : 0 ≤ r4.toInt) (hr4_1 : r4.toInt ≤ 126) (hr4_2 : ¬ r4.toInt = 0 → 0 ≤ r1.toInt ∧ r1.toInt < (κ.1 6).toInt) (c5 : ¬ r4.toInt = 46) (ex6 : x6 = r1 + (1 : Int32)) (tx6 : x6.toInt = r1.toInt + 1) (c7 : r1.toInt ≤ x6.toInt) (hr67_1_0 : 0 ≤ n68.toInt) (hr67_1_1 : n68.toInt ≤ 41) : 0 ≤ n68.toInt ∧ n68.toInt ≤ 41 ∧ r1.toInt ≤ 40 := by
  have q1 : (1 : Int32).toInt = 1 := by decide +kernel
  refine ⟨?_, ?_, ?_⟩ <;> first | assumption | omega | (subst_vars; omega) | trivial
-- post2 @63
theorem vX4_number_33 (ad : Nat → Nat) (sa : Nat → Nat) (κ : KS) (k0 : Int32) (r1 : Int32) (x2 : Int32) (r4 : Int32) (x6 : Int32) (r61 : Int32) (P63 : PL) (b65 : Nat) (n68 : Int32) (F69 : (Nat → Int32)) (F70 : (Nat → Int32)) (F71 : (Nat → Int32)) (hPV : PV sa κ.2.2.2.2) (hSV : SV ad κ.2.2.2.2 (κ.2.1 0) (κ.2.1 1) (κ.2.2.2.1 6) (κ.2.2.2.1 7) (κ.2.2.2.1 8) (κ.2.2.2.1 13) (κ.2.2.2.1 15) (κ.2.2.2.1 17) (κ.1 1).toInt) (hpre_0 : L9 (κ.2.2.1 9)) (hpre_1 : 0 ≤ (κ.1 6).toInt) (hpre_2 : (κ.1 6).toInt ≤ 40) (hpre_3 : 0 ≤ (κ.1 7).toInt) (hpre_4 : (κ.1 7).toInt ≤ 41) (hpre_5 : 0 ≤ k0.toInt) (hpre_6 : k0.toInt ≤ 40) (hr1y : (κ.1 6).toInt ≤ 40 → RT dg (tx (κ.2.2.1 9) (κ.1 6)) k0.toInt r1.toInt ∧ ¬ dg (tx (κ.2.2.1 9) (κ.1 6) r1.toInt)) (hr1_0 : k0.toInt ≤ r1.toInt) (hr1_1 : r1.toInt ≤ max k0.toInt (κ.1 6).toInt) (ex2 : x2 = r1 - k0) (tx2 : x2.toInt = r1.toInt - k0.toInt) (c3 : x2.toInt ≤ 6) (hr4y : (κ.1 6).toInt ≤ 40 → r4.toInt = tx (κ.2.2.1 9) (κ.1 6) r1.toInt) (hr4_0 : 0 ≤ r4.toInt) (hr4_1 : r4.toInt ≤ 126) (hr4_2 : ¬ r4.toInt = 0 → 0 ≤ r1.toInt ∧ r1.toInt < (κ.1 6).toInt) (c5 : ¬ r4.toInt = 46) (ex6 : x6 = r1 + (1 : Int32)) (tx6 : x6.toInt = r1.toInt + 1) (c7 : r1.toInt ≤ x6.toInt) (hr62_0 : EX κ.2.2.2.2 P63) (hr62_2 : KPx True κ.2.2.2.2 P63) (hr62y : ∀ q7 q8 : Nat → Option Nat, VALq P63 sa q7 q8 b65 (qInt r61)) (hr67y : (κ.1 7).toInt < 41 → ADc (κ.2.2.1 10) (κ.2.2.1 11) (κ.2.2.1 12) (κ.1 7) F69 F70 F71 n68 (1 : Int32) k0 (0 : Int32)) (hr67_1_0 : 0 ≤ n68.toInt) (hr67_1_1 : n68.toInt ≤ 41) : (κ.1 7).toInt ≤ k0.toInt → k0.toInt < (κ.1 6).toInt → dg (tx (κ.2.2.1 9) (κ.1 6) k0.toInt) → ∃ t9, TokR (tx (κ.2.2.1 9) (κ.1 6)) (κ.1 6).toInt k0.toInt t9 ∧ LXc (κ.2.2.1 10) (κ.2.2.1 11) (κ.2.2.1 12) (κ.1 7) F69 F70 F71 n68 k0.toInt r1.toInt t9 := by
  have q0 : (0 : Int32).toInt = 0 := by decide +kernel
  have q1 : (1 : Int32).toInt = 1 := by decide +kernel
  intro h1 h2 h3
  have a := hr1y (by omega)
  have lt := RT_lt a.1 a.2 h3
  have pk0 := hr4y (by omega)
  first | (exfalso; omega) | exact ⟨_, numN a.1 a.2 rfl (by omega) (by omega) h3, LXc.add (hr67y (by omega)) rfl (by omega) (by omega) (by first | rfl | omega) rfl⟩
-- nw@29 @29
theorem vX4_number_34 (κ : KS) (k0 : Int32) (r1 : Int32) (x2 : Int32) (r4 : Int32) (x73 : Int32) (hpre_1 : 0 ≤ (κ.1 6).toInt) (hpre_2 : (κ.1 6).toInt ≤ 40) (hpre_5 : 0 ≤ k0.toInt) (hpre_6 : k0.toInt ≤ 40) (hr1_0 : k0.toInt ≤ r1.toInt) (hr1_1 : r1.toInt ≤ max k0.toInt (κ.1 6).toInt) (ex2 : x2 = r1 - k0) (tx2 : x2.toInt = r1.toInt - k0.toInt) (c3 : x2.toInt ≤ 6) (hr4_0 : 0 ≤ r4.toInt) (hr4_1 : r4.toInt ≤ 126) (hr4_2 : ¬ r4.toInt = 0 → 0 ≤ r1.toInt ∧ r1.toInt < (κ.1 6).toInt) (c5 : r4.toInt = 46) (ex73 : x73 = r1 + (1 : Int32)) : x73.toInt = r1.toInt + 1 := by
  have q1 : (1 : Int32).toInt = 1 := by decide +kernel
  have w1 : (1 : Int32).toInt = 1 := by decide +kernel
  rw [ex73, z_add (by omega) (by omega)]; first | done | omega
-- pre:X4_endOfDigits@30 @30
theorem vX4_number_35 (κ : KS) (k0 : Int32) (r1 : Int32) (x2 : Int32) (r4 : Int32) (x73 : Int32) (hpre_0 : L9 (κ.2.2.1 9)) (hpre_1 : 0 ≤ (κ.1 6).toInt) (hpre_2 : (κ.1 6).toInt ≤ 40) (hpre_5 : 0 ≤ k0.toInt) (hpre_6 : k0.toInt ≤ 40) (hr1_0 : k0.toInt ≤ r1.toInt) (hr1_1 : r1.toInt ≤ max k0.toInt (κ.1 6).toInt) (ex2 : x2 = r1 - k0) (tx2 : x2.toInt = r1.toInt - k0.toInt) (c3 : x2.toInt ≤ 6) (hr4_0 : 0 ≤ r4.toInt) (hr4_1 : r4.toInt ≤ 126) (hr4_2 : ¬ r4.toInt = 0 → 0 ≤ r1.toInt ∧ r1.toInt < (κ.1 6).toInt) (c5 : r4.toInt = 46) (ex73 : x73 = r1 + (1 : Int32)) (tx73 : x73.toInt = r1.toInt + 1) : L9 (κ.2.2.1 9) ∧ 0 ≤ (κ.1 6).toInt ∧ (κ.1 6).toInt ≤ 40 ∧ 0 ≤ x73.toInt ∧ x73.toInt ≤ 41 := by
  have q1 : (1 : Int32).toInt = 1 := by decide +kernel
  refine ⟨?_, ?_, ?_, ?_, ?_⟩ <;> first | assumption | omega | (subst_vars; omega) | trivial
-- nw@41 @41
theorem vX4_number_36 (κ : KS) (k0 : Int32) (r1 : Int32) (x2 : Int32) (r4 : Int32) (x73 : Int32) (r74 : Int32) (x75 : Int32) (hpre_1 : 0 ≤ (κ.1 6).toInt) (hpre_2 : (κ.1 6).toInt ≤ 40) (hpre_5 : 0 ≤ k0.toInt) (hpre_6 : k0.toInt ≤ 40) (hr1_0 : k0.toInt ≤ r1.toInt) (hr1_1 : r1.toInt ≤ max k0.toInt (κ.1 6).toInt) (ex2 : x2 = r1 - k0) (tx2 : x2.toInt = r1.toInt - k0.toInt) (c3 : x2.toInt ≤ 6) (hr4_0 : 0 ≤ r4.toInt) (hr4_1 : r4.toInt ≤ 126) (hr4_2 : ¬ r4.toInt = 0 → 0 ≤ r1.toInt ∧ r1.toInt < (κ.1 6).toInt) (c5 : r4.toInt = 46) (ex73 : x73 = r1 + (1 : Int32)) (tx73 : x73.toInt = r1.toInt + 1) (hr74_0 : x73.toInt ≤ r74.toInt) (hr74_1 : r74.toInt ≤ max x73.toInt (κ.1 6).toInt) (ex75 : x75 = r1 + (1 : Int32)) : x75.toInt = r1.toInt + 1 := by
  have q1 : (1 : Int32).toInt = 1 := by decide +kernel
  have w1 : (1 : Int32).toInt = 1 := by decide +kernel
  rw [ex75, z_add (by omega) (by omega)]; first | done | omega
-- nw@66 @66
theorem vX4_number_37 (κ : KS) (k0 : Int32) (r1 : Int32) (x2 : Int32) (r4 : Int32) (x73 : Int32) (r74 : Int32) (x75 : Int32) (x77 : Int32) (hpre_1 : 0 ≤ (κ.1 6).toInt) (hpre_2 : (κ.1 6).toInt ≤ 40) (hpre_5 : 0 ≤ k0.toInt) (hpre_6 : k0.toInt ≤ 40) (hr1_0 : k0.toInt ≤ r1.toInt) (hr1_1 : r1.toInt ≤ max k0.toInt (κ.1 6).toInt) (ex2 : x2 = r1 - k0) (tx2 : x2.toInt = r1.toInt - k0.toInt) (c3 : x2.toInt ≤ 6) (hr4_0 : 0 ≤ r4.toInt) (hr4_1 : r4.toInt ≤ 126) (hr4_2 : ¬ r4.toInt = 0 → 0 ≤ r1.toInt ∧ r1.toInt < (κ.1 6).toInt) (c5 : r4.toInt = 46) (ex73 : x73 = r1 + (1 : Int32)) (tx73 : x73.toInt = r1.toInt + 1) (hr74_0 : x73.toInt ≤ r74.toInt) (hr74_1 : r74.toInt ≤ max x73.toInt (κ.1 6).toInt) (ex75 : x75 = r1 + (1 : Int32)) (tx75 : x75.toInt = r1.toInt + 1) (c76 : x75.toInt < r74.toInt) (ex77 : x77 = r74 - r1) : x77.toInt = r74.toInt - r1.toInt := by
  have q1 : (1 : Int32).toInt = 1 := by decide +kernel
  rw [ex77, z_sub (by omega) (by omega)]; first | done | omega
-- nw@68 @68
theorem vX4_number_38 (κ : KS) (k0 : Int32) (r1 : Int32) (x2 : Int32) (r4 : Int32) (x73 : Int32) (r74 : Int32) (x75 : Int32) (x77 : Int32) (x78 : Int32) (hpre_1 : 0 ≤ (κ.1 6).toInt) (hpre_2 : (κ.1 6).toInt ≤ 40) (hpre_5 : 0 ≤ k0.toInt) (hpre_6 : k0.toInt ≤ 40) (hr1_0 : k0.toInt ≤ r1.toInt) (hr1_1 : r1.toInt ≤ max k0.toInt (κ.1 6).toInt) (ex2 : x2 = r1 - k0) (tx2 : x2.toInt = r1.toInt - k0.toInt) (c3 : x2.toInt ≤ 6) (hr4_0 : 0 ≤ r4.toInt) (hr4_1 : r4.toInt ≤ 126) (hr4_2 : ¬ r4.toInt = 0 → 0 ≤ r1.toInt ∧ r1.toInt < (κ.1 6).toInt) (c5 : r4.toInt = 46) (ex73 : x73 = r1 + (1 : Int32)) (tx73 : x73.toInt = r1.toInt + 1) (hr74_0 : x73.toInt ≤ r74.toInt) (hr74_1 : r74.toInt ≤ max x73.toInt (κ.1 6).toInt) (ex75 : x75 = r1 + (1 : Int32)) (tx75 : x75.toInt = r1.toInt + 1) (c76 : x75.toInt < r74.toInt) (ex77 : x77 = r74 - r1) (tx77 : x77.toInt = r74.toInt - r1.toInt) (ex78 : x78 = x77 - (1 : Int32)) : x78.toInt = x77.toInt - 1 := by
  have q1 : (1 : Int32).toInt = 1 := by decide +kernel
  have w1 : (1 : Int32).toInt = 1 := by decide +kernel
  rw [ex78, z_sub (by omega) (by omega)]; first | done | omega
-- nw@111 @111
theorem vX4_number_39 (κ : KS) (k0 : Int32) (r1 : Int32) (x2 : Int32) (r4 : Int32) (x73 : Int32) (r74 : Int32) (x75 : Int32) (x77 : Int32) (x78 : Int32) (x82 : Int32) (hpre_1 : 0 ≤ (κ.1 6).toInt) (hpre_2 : (κ.1 6).toInt ≤ 40) (hpre_5 : 0 ≤ k0.toInt) (hpre_6 : k0.toInt ≤ 40) (hr1_0 : k0.toInt ≤ r1.toInt) (hr1_1 : r1.toInt ≤ max k0.toInt (κ.1 6).toInt) (ex2 : x2 = r1 - k0) (tx2 : x2.toInt = r1.toInt - k0.toInt) (c3 : x2.toInt ≤ 6) (hr4_0 : 0 ≤ r4.toInt) (hr4_1 : r4.toInt ≤ 126) (hr4_2 : ¬ r4.toInt = 0 → 0 ≤ r1.toInt ∧ r1.toInt < (κ.1 6).toInt) (c5 : r4.toInt = 46) (ex73 : x73 = r1 + (1 : Int32)) (tx73 : x73.toInt = r1.toInt + 1) (hr74_0 : x73.toInt ≤ r74.toInt) (hr74_1 : r74.toInt ≤ max x73.toInt (κ.1 6).toInt) (ex75 : x75 = r1 + (1 : Int32)) (tx75 : x75.toInt = r1.toInt + 1) (c76 : x75.toInt < r74.toInt) (ex77 : x77 = r74 - r1) (tx77 : x77.toInt = r74.toInt - r1.toInt) (ex78 : x78 = x77 - (1 : Int32)) (tx78 : x78.toInt = x77.toInt - 1) (c79 : x78.toInt ≤ 3) (c80 : ¬ x78.toInt = 1) (c81 : ¬ x78.toInt = 2) (ex82 : x82 = r1 + (1 : Int32)) : x82.toInt = r1.toInt + 1 := by
  have q1 : (1 : Int32).toInt = 1 := by decide +kernel
  have w1 : (1 : Int32).toInt = 1 := by decide +kernel
  rw [ex82, z_add (by omega) (by omega)]; first | done | omega
-- pre:X4_digits@117 @117
theorem vX4_number_40 (κ : KS) (k0 : Int32) (r1 : Int32) (x2 : Int32) (r4 : Int32) (x73 : Int32) (r74 : Int32) (x75 : Int32) (x77 : Int32) (x78 : Int32) (x82 : Int32) (hpre_0 : L9 (κ.2.2.1 9)) (hpre_1 : 0 ≤ (κ.1 6).toInt) (hpre_2 : (κ.1 6).toInt ≤ 40) (hpre_5 : 0 ≤ k0.toInt) (hpre_6 : k0.toInt ≤ 40) (hr1_0 : k0.toInt ≤ r1.toInt) (hr1_1 : r1.toInt ≤ max k0.toInt (κ.1 6).toInt) (ex2 : x2 = r1 - k0) (tx2 : x2.toInt = r1.toInt - k0.toInt) (c3 : x2.toInt ≤ 6) (hr4_0 : 0 ≤ r4.toInt) (hr4_1 : r4.toInt ≤ 126) (hr4_2 : ¬ r4.toInt = 0 → 0 ≤ r1.toInt ∧ r1.toInt < (κ.1 6).toInt) (c5 : r4.toInt = 46) (ex73 : x73 = r1 + (1 : Int32)) (tx73 : x73.toInt = r1.toInt + 1) (hr74_0 : x73.toInt ≤ r74.toInt) (hr74_1 : r74.toInt ≤ max x73.toInt (κ.1 6).toInt) (ex75 : x75 = r1 + (1 : Int32)) (tx75 : x75.toInt = r1.toInt + 1) (c76 : x75.toInt < r74.toInt) (ex77 : x77 = r74 - r1) (tx77 : x77.toInt = r74.toInt - r1.toInt) (ex78 : x78 = x77 - (1 : Int32)) (tx78 : x78.toInt = x77.toInt - 1) (c79 : x78.toInt ≤ 3) (c80 : ¬ x78.toInt = 1) (c81 : ¬ x78.toInt = 2) (ex82 : x82 = r1 + (1 : Int32)) (tx82 : x82.toInt = r1.toInt + 1) : L9 (κ.2.2.1 9) ∧ 0 ≤ k0.toInt ∧ r1.toInt ≤ 41 := by
  have q1 : (1 : Int32).toInt = 1 := by decide +kernel
  refine ⟨?_, ?_, ?_⟩ <;> first | assumption | omega | (subst_vars; omega) | trivial
-- pre:X4_digits@120 @120
theorem vX4_number_41 (κ : KS) (k0 : Int32) (r1 : Int32) (x2 : Int32) (r4 : Int32) (x73 : Int32) (r74 : Int32) (x75 : Int32) (x77 : Int32) (x78 : Int32) (x82 : Int32) (hpre_0 : L9 (κ.2.2.1 9)) (hpre_1 : 0 ≤ (κ.1 6).toInt) (hpre_2 : (κ.1 6).toInt ≤ 40) (hpre_5 : 0 ≤ k0.toInt) (hpre_6 : k0.toInt ≤ 40) (hr1_0 : k0.toInt ≤ r1.toInt) (hr1_1 : r1.toInt ≤ max k0.toInt (κ.1 6).toInt) (ex2 : x2 = r1 - k0) (tx2 : x2.toInt = r1.toInt - k0.toInt) (c3 : x2.toInt ≤ 6) (hr4_0 : 0 ≤ r4.toInt) (hr4_1 : r4.toInt ≤ 126) (hr4_2 : ¬ r4.toInt = 0 → 0 ≤ r1.toInt ∧ r1.toInt < (κ.1 6).toInt) (c5 : r4.toInt = 46) (ex73 : x73 = r1 + (1 : Int32)) (tx73 : x73.toInt = r1.toInt + 1) (hr74_0 : x73.toInt ≤ r74.toInt) (hr74_1 : r74.toInt ≤ max x73.toInt (κ.1 6).toInt) (ex75 : x75 = r1 + (1 : Int32)) (tx75 : x75.toInt = r1.toInt + 1) (c76 : x75.toInt < r74.toInt) (ex77 : x77 = r74 - r1) (tx77 : x77.toInt = r74.toInt - r1.toInt) (ex78 : x78 = x77 - (1 : Int32)) (tx78 : x78.toInt = x77.toInt - 1) (c79 : x78.toInt ≤ 3) (c80 : ¬ x78.toInt = 1) (c81 : ¬ x78.toInt = 2) (ex82 : x82 = r1 + (1 : Int32)) (tx82 : x82.toInt = r1.toInt + 1) : L9 (κ.2.2.1 9) ∧ 0 ≤ x82.toInt ∧ r74.toInt ≤ 41 := by
  have q1 : (1 : Int32).toInt = 1 := by decide +kernel
  refine ⟨?_, ?_, ?_⟩ <;> first | assumption | omega | (subst_vars; omega) | trivial
-- nan@134 @134
theorem vX4_number_42 (r84 : Int32) (x85 : UInt64) (ex85 : x85 = FP.i2d r84) (fx85 : FN x85) : vf_n64 (FP.ddiv x85 (4652007308841189376 : UInt64)) := by
  obtain ⟨s, c, q, hx⟩ : FN x85 := by assumption
  obtain ⟨d, g1, g2⟩ := fp_div hx (show Jvm.FP.Core.decode Jvm.FP.Core.b64 (4652007308841189376 : UInt64).toNat = .fin false 8796093022208000 (-43) by decide +kernel) (by omega)
  exact fp_n g1 g2
-- pre:X10_ofReal@135 @135
theorem vX4_number_43 (r84 : Int32) (x85 : UInt64) (x86 : UInt64) (ex85 : x85 = FP.i2d r84) (fx85 : FN x85) (ex86 : x86 = FP.ddiv x85 (4652007308841189376 : UInt64)) : FN x86 := by
  subst ex86
  first | exact fp_d10 (by assumption) | exact fp_d100 (by assumption) | exact fp_d1000 (by assumption)
-- post @142
theorem vX4_number_44 (κ : KS) (k0 : Int32) (r1 : Int32) (x2 : Int32) (r4 : Int32) (x73 : Int32) (r74 : Int32) (x75 : Int32) (x77 : Int32) (x78 : Int32) (x82 : Int32) (n93 : Int32) (hpre_1 : 0 ≤ (κ.1 6).toInt) (hpre_2 : (κ.1 6).toInt ≤ 40) (hpre_5 : 0 ≤ k0.toInt) (hpre_6 : k0.toInt ≤ 40) (hr1_0 : k0.toInt ≤ r1.toInt) (hr1_1 : r1.toInt ≤ max k0.toInt (κ.1 6).toInt) (ex2 : x2 = r1 - k0) (tx2 : x2.toInt = r1.toInt - k0.toInt) (c3 : x2.toInt ≤ 6) (hr4_0 : 0 ≤ r4.toInt) (hr4_1 : r4.toInt ≤ 126) (hr4_2 : ¬ r4.toInt = 0 → 0 ≤ r1.toInt ∧ r1.toInt < (κ.1 6).toInt) (c5 : r4.toInt = 46) (ex73 : x73 = r1 + (1 : Int32)) (tx73 : x73.toInt = r1.toInt + 1) (hr74_0 : x73.toInt ≤ r74.toInt) (hr74_1 : r74.toInt ≤ max x73.toInt (κ.1 6).toInt) (ex75 : x75 = r1 + (1 : Int32)) (tx75 : x75.toInt = r1.toInt + 1) (c76 : x75.toInt < r74.toInt) (ex77 : x77 = r74 - r1) (tx77 : x77.toInt = r74.toInt - r1.toInt) (ex78 : x78 = x77 - (1 : Int32)) (tx78 : x78.toInt = x77.toInt - 1) (c79 : x78.toInt ≤ 3) (c80 : ¬ x78.toInt = 1) (c81 : ¬ x78.toInt = 2) (ex82 : x82 = r1 + (1 : Int32)) (tx82 : x82.toInt = r1.toInt + 1) (hr92_1_0 : 0 ≤ n93.toInt) (hr92_1_1 : n93.toInt ≤ 41) : 0 ≤ n93.toInt ∧ n93.toInt ≤ 41 ∧ r74.toInt ≤ 40 := by
  have q1 : (1 : Int32).toInt = 1 := by decide +kernel
  refine ⟨?_, ?_, ?_⟩ <;> first | assumption | omega | (subst_vars; omega) | trivial
-- post2 @142
theorem vX4_number_45 (ad : Nat → Nat) (sa : Nat → Nat) (κ : KS) (k0 : Int32) (r1 : Int32) (x2 : Int32) (r4 : Int32) (x73 : Int32) (r74 : Int32) (x75 : Int32) (x77 : Int32) (x78 : Int32) (x82 : Int32) (r84 : Int32) (x85 : UInt64) (x86 : UInt64) (P88 : PL) (b90 : Nat) (n93 : Int32) (F94 : (Nat → Int32)) (F95 : (Nat → Int32)) (F96 : (Nat → Int32)) (hPV : PV sa κ.2.2.2.2) (hSV : SV ad κ.2.2.2.2 (κ.2.1 0) (κ.2.1 1) (κ.2.2.2.1 6) (κ.2.2.2.1 7) (κ.2.2.2.1 8) (κ.2.2.2.1 13) (κ.2.2.2.1 15) (κ.2.2.2.1 17) (κ.1 1).toInt) (hpre_0 : L9 (κ.2.2.1 9)) (hpre_1 : 0 ≤ (κ.1 6).toInt) (hpre_2 : (κ.1 6).toInt ≤ 40) (hpre_3 : 0 ≤ (κ.1 7).toInt) (hpre_4 : (κ.1 7).toInt ≤ 41) (hpre_5 : 0 ≤ k0.toInt) (hpre_6 : k0.toInt ≤ 40) (hr1y : (κ.1 6).toInt ≤ 40 → RT dg (tx (κ.2.2.1 9) (κ.1 6)) k0.toInt r1.toInt ∧ ¬ dg (tx (κ.2.2.1 9) (κ.1 6) r1.toInt)) (hr1_0 : k0.toInt ≤ r1.toInt) (hr1_1 : r1.toInt ≤ max k0.toInt (κ.1 6).toInt) (ex2 : x2 = r1 - k0) (tx2 : x2.toInt = r1.toInt - k0.toInt) (c3 : x2.toInt ≤ 6) (hr4y : (κ.1 6).toInt ≤ 40 → r4.toInt = tx (κ.2.2.1 9) (κ.1 6) r1.toInt) (hr4_0 : 0 ≤ r4.toInt) (hr4_1 : r4.toInt ≤ 126) (hr4_2 : ¬ r4.toInt = 0 → 0 ≤ r1.toInt ∧ r1.toInt < (κ.1 6).toInt) (c5 : r4.toInt = 46) (ex73 : x73 = r1 + (1 : Int32)) (tx73 : x73.toInt = r1.toInt + 1) (hr74y : (κ.1 6).toInt ≤ 40 → RT dg (tx (κ.2.2.1 9) (κ.1 6)) x73.toInt r74.toInt ∧ ¬ dg (tx (κ.2.2.1 9) (κ.1 6) r74.toInt)) (hr74_0 : x73.toInt ≤ r74.toInt) (hr74_1 : r74.toInt ≤ max x73.toInt (κ.1 6).toInt) (ex75 : x75 = r1 + (1 : Int32)) (tx75 : x75.toInt = r1.toInt + 1) (c76 : x75.toInt < r74.toInt) (ex77 : x77 = r74 - r1) (tx77 : x77.toInt = r74.toInt - r1.toInt) (ex78 : x78 = x77 - (1 : Int32)) (tx78 : x78.toInt = x77.toInt - 1) (c79 : x78.toInt ≤ 3) (c80 : ¬ x78.toInt = 1) (c81 : ¬ x78.toInt = 2) (ex82 : x82 = r1 + (1 : Int32)) (tx82 : x82.toInt = r1.toInt + 1) (ex85 : x85 = FP.i2d r84) (fx85 : FN x85) (ex86 : x86 = FP.ddiv x85 (4652007308841189376 : UInt64)) (hr87_0 : EX κ.2.2.2.2 P88) (hr87_2 : KPx True κ.2.2.2.2 P88) (hr87y : ∀ q7 q8 : Nat → Option Nat, VALq P88 sa q7 q8 b90 (qReal x86)) (hr92y : (κ.1 7).toInt < 41 → ADc (κ.2.2.1 10) (κ.2.2.1 11) (κ.2.2.1 12) (κ.1 7) F94 F95 F96 n93 (1 : Int32) k0 (0 : Int32)) (hr92_1_0 : 0 ≤ n93.toInt) (hr92_1_1 : n93.toInt ≤ 41) : (κ.1 7).toInt ≤ k0.toInt → k0.toInt < (κ.1 6).toInt → dg (tx (κ.2.2.1 9) (κ.1 6) k0.toInt) → ∃ t9, TokR (tx (κ.2.2.1 9) (κ.1 6)) (κ.1 6).toInt k0.toInt t9 ∧ LXc (κ.2.2.1 10) (κ.2.2.1 11) (κ.2.2.1 12) (κ.1 7) F94 F95 F96 n93 k0.toInt r74.toInt t9 := by
  have q0 : (0 : Int32).toInt = 0 := by decide +kernel
  have q1 : (1 : Int32).toInt = 1 := by decide +kernel
  intro h1 h2 h3
  have a := hr1y (by omega)
  have lt := RT_lt a.1 a.2 h3
  have pk0 := hr4y (by omega)
  have b := hr74y (by omega)
  have bl := b.1.1
  first
  | (exfalso; omega)
  | (have z9 : tx (κ.2.2.1 9) (κ.1 6) r74.toInt = tx (κ.2.2.1 9) (κ.1 6) x73.toInt := by rw [show r74.toInt = x73.toInt by omega]
     have b2 := b.2
     exact ⟨_, numN (e1 := x73.toInt) a.1 a.2 (by omega) (by omega) (by omega) h3, LXc.add (hr92y (by omega)) rfl (by omega) (by omega) (by first | rfl | omega) rfl⟩)
  | exact ⟨_, numF (e1 := x73.toInt) (e3 := x73.toInt) a.1 a.2 (by omega) (by omega) (b.1.2 _ (Int.le_refl _) (by omega)) (by omega) (by omega) b.1 b.2 (by omega) h3, LXc.add (hr92y (by omega)) rfl (by omega) (by omega) (by first | rfl | omega) rfl⟩
-- nw@111 @111
theorem vX4_number_46 (κ : KS) (k0 : Int32) (r1 : Int32) (x2 : Int32) (r4 : Int32) (x73 : Int32) (r74 : Int32) (x75 : Int32) (x77 : Int32) (x78 : Int32) (x98 : Int32) (hpre_1 : 0 ≤ (κ.1 6).toInt) (hpre_2 : (κ.1 6).toInt ≤ 40) (hpre_5 : 0 ≤ k0.toInt) (hpre_6 : k0.toInt ≤ 40) (hr1_0 : k0.toInt ≤ r1.toInt) (hr1_1 : r1.toInt ≤ max k0.toInt (κ.1 6).toInt) (ex2 : x2 = r1 - k0) (tx2 : x2.toInt = r1.toInt - k0.toInt) (c3 : x2.toInt ≤ 6) (hr4_0 : 0 ≤ r4.toInt) (hr4_1 : r4.toInt ≤ 126) (hr4_2 : ¬ r4.toInt = 0 → 0 ≤ r1.toInt ∧ r1.toInt < (κ.1 6).toInt) (c5 : r4.toInt = 46) (ex73 : x73 = r1 + (1 : Int32)) (tx73 : x73.toInt = r1.toInt + 1) (hr74_0 : x73.toInt ≤ r74.toInt) (hr74_1 : r74.toInt ≤ max x73.toInt (κ.1 6).toInt) (ex75 : x75 = r1 + (1 : Int32)) (tx75 : x75.toInt = r1.toInt + 1) (c76 : x75.toInt < r74.toInt) (ex77 : x77 = r74 - r1) (tx77 : x77.toInt = r74.toInt - r1.toInt) (ex78 : x78 = x77 - (1 : Int32)) (tx78 : x78.toInt = x77.toInt - 1) (c79 : x78.toInt ≤ 3) (c80 : ¬ x78.toInt = 1) (c81 : x78.toInt = 2) (ex98 : x98 = r1 + (1 : Int32)) : x98.toInt = r1.toInt + 1 := by
  have q1 : (1 : Int32).toInt = 1 := by decide +kernel
  have w1 : (1 : Int32).toInt = 1 := by decide +kernel
  rw [ex98, z_add (by omega) (by omega)]; first | done | omega
-- pre:X4_digits@117 @117
theorem vX4_number_47 (κ : KS) (k0 : Int32) (r1 : Int32) (x2 : Int32) (r4 : Int32) (x73 : Int32) (r74 : Int32) (x75 : Int32) (x77 : Int32) (x78 : Int32) (x98 : Int32) (hpre_0 : L9 (κ.2.2.1 9)) (hpre_1 : 0 ≤ (κ.1 6).toInt) (hpre_2 : (κ.1 6).toInt ≤ 40) (hpre_5 : 0 ≤ k0.toInt) (hpre_6 : k0.toInt ≤ 40) (hr1_0 : k0.toInt ≤ r1.toInt) (hr1_1 : r1.toInt ≤ max k0.toInt (κ.1 6).toInt) (ex2 : x2 = r1 - k0) (tx2 : x2.toInt = r1.toInt - k0.toInt) (c3 : x2.toInt ≤ 6) (hr4_0 : 0 ≤ r4.toInt) (hr4_1 : r4.toInt ≤ 126) (hr4_2 : ¬ r4.toInt = 0 → 0 ≤ r1.toInt ∧ r1.toInt < (κ.1 6).toInt) (c5 : r4.toInt = 46) (ex73 : x73 = r1 + (1 : Int32)) (tx73 : x73.toInt = r1.toInt + 1) (hr74_0 : x73.toInt ≤ r74.toInt) (hr74_1 : r74.toInt ≤ max x73.toInt (κ.1 6).toInt) (ex75 : x75 = r1 + (1 : Int32)) (tx75 : x75.toInt = r1.toInt + 1) (c76 : x75.toInt < r74.toInt) (ex77 : x77 = r74 - r1) (tx77 : x77.toInt = r74.toInt - r1.toInt) (ex78 : x78 = x77 - (1 : Int32)) (tx78 : x78.toInt = x77.toInt - 1) (c79 : x78.toInt ≤ 3) (c80 : ¬ x78.toInt = 1) (c81 : x78.toInt = 2) (ex98 : x98 = r1 + (1 : Int32)) (tx98 : x98.toInt = r1.toInt + 1) : L9 (κ.2.2.1 9) ∧ 0 ≤ k0.toInt ∧ r1.toInt ≤ 41 := by
  have q1 : (1 : Int32).toInt = 1 := by decide +kernel
  refine ⟨?_, ?_, ?_⟩ <;> first | assumption | omega | (subst_vars; omega) | trivial
-- pre:X4_digits@120 @120
theorem vX4_number_48 (κ : KS) (k0 : Int32) (r1 : Int32) (x2 : Int32) (r4 : Int32) (x73 : Int32) (r74 : Int32) (x75 : Int32) (x77 : Int32) (x78 : Int32) (x98 : Int32) (hpre_0 : L9 (κ.2.2.1 9)) (hpre_1 : 0 ≤ (κ.1 6).toInt) (hpre_2 : (κ.1 6).toInt ≤ 40) (hpre_5 : 0 ≤ k0.toInt) (hpre_6 : k0.toInt ≤ 40) (hr1_0 : k0.toInt ≤ r1.toInt) (hr1_1 : r1.toInt ≤ max k0.toInt (κ.1 6).toInt) (ex2 : x2 = r1 - k0) (tx2 : x2.toInt = r1.toInt - k0.toInt) (c3 : x2.toInt ≤ 6) (hr4_0 : 0 ≤ r4.toInt) (hr4_1 : r4.toInt ≤ 126) (hr4_2 : ¬ r4.toInt = 0 → 0 ≤ r1.toInt ∧ r1.toInt < (κ.1 6).toInt) (c5 : r4.toInt = 46) (ex73 : x73 = r1 + (1 : Int32)) (tx73 : x73.toInt = r1.toInt + 1) (hr74_0 : x73.toInt ≤ r74.toInt) (hr74_1 : r74.toInt ≤ max x73.toInt (κ.1 6).toInt) (ex75 : x75 = r1 + (1 : Int32)) (tx75 : x75.toInt = r1.toInt + 1) (c76 : x75.toInt < r74.toInt) (ex77 : x77 = r74 - r1) (tx77 : x77.toInt = r74.toInt - r1.toInt) (ex78 : x78 = x77 - (1 : Int32)) (tx78 : x78.toInt = x77.toInt - 1) (c79 : x78.toInt ≤ 3) (c80 : ¬ x78.toInt = 1) (c81 : x78.toInt = 2) (ex98 : x98 = r1 + (1 : Int32)) (tx98 : x98.toInt = r1.toInt + 1) : L9 (κ.2.2.1 9) ∧ 0 ≤ x98.toInt ∧ r74.toInt ≤ 41 := by
  have q1 : (1 : Int32).toInt = 1 := by decide +kernel
  refine ⟨?_, ?_, ?_⟩ <;> first | assumption | omega | (subst_vars; omega) | trivial
-- nan@134 @134
theorem vX4_number_49 (r100 : Int32) (x101 : UInt64) (ex101 : x101 = FP.i2d r100) (fx101 : FN x101) : vf_n64 (FP.ddiv x101 (4636737291354636288 : UInt64)) := by
  obtain ⟨s, c, q, hx⟩ : FN x101 := by assumption
  obtain ⟨d, g1, g2⟩ := fp_div hx (show Jvm.FP.Core.decode Jvm.FP.Core.b64 (4636737291354636288 : UInt64).toNat = .fin false 7036874417766400 (-46) by decide +kernel) (by omega)
  exact fp_n g1 g2
-- pre:X10_ofReal@135 @135
theorem vX4_number_50 (r100 : Int32) (x101 : UInt64) (x102 : UInt64) (ex101 : x101 = FP.i2d r100) (fx101 : FN x101) (ex102 : x102 = FP.ddiv x101 (4636737291354636288 : UInt64)) : FN x102 := by
  subst ex102
  first | exact fp_d10 (by assumption) | exact fp_d100 (by assumption) | exact fp_d1000 (by assumption)
-- post @142
theorem vX4_number_51 (κ : KS) (k0 : Int32) (r1 : Int32) (x2 : Int32) (r4 : Int32) (x73 : Int32) (r74 : Int32) (x75 : Int32) (x77 : Int32) (x78 : Int32) (x98 : Int32) (n109 : Int32) (hpre_1 : 0 ≤ (κ.1 6).toInt) (hpre_2 : (κ.1 6).toInt ≤ 40) (hpre_5 : 0 ≤ k0.toInt) (hpre_6 : k0.toInt ≤ 40) (hr1_0 : k0.toInt ≤ r1.toInt) (hr1_1 : r1.toInt ≤ max k0.toInt (κ.1 6).toInt) (ex2 : x2 = r1 - k0) (tx2 : x2.toInt = r1.toInt - k0.toInt) (c3 : x2.toInt ≤ 6) (hr4_0 : 0 ≤ r4.toInt) (hr4_1 : r4.toInt ≤ 126) (hr4_2 : ¬ r4.toInt = 0 → 0 ≤ r1.toInt ∧ r1.toInt < (κ.1 6).toInt) (c5 : r4.toInt = 46) (ex73 : x73 = r1 + (1 : Int32)) (tx73 : x73.toInt = r1.toInt + 1) (hr74_0 : x73.toInt ≤ r74.toInt) (hr74_1 : r74.toInt ≤ max x73.toInt (κ.1 6).toInt) (ex75 : x75 = r1 + (1 : Int32)) (tx75 : x75.toInt = r1.toInt + 1) (c76 : x75.toInt < r74.toInt) (ex77 : x77 = r74 - r1) (tx77 : x77.toInt = r74.toInt - r1.toInt) (ex78 : x78 = x77 - (1 : Int32)) (tx78 : x78.toInt = x77.toInt - 1) (c79 : x78.toInt ≤ 3) (c80 : ¬ x78.toInt = 1) (c81 : x78.toInt = 2) (ex98 : x98 = r1 + (1 : Int32)) (tx98 : x98.toInt = r1.toInt + 1) (hr108_1_0 : 0 ≤ n109.toInt) (hr108_1_1 : n109.toInt ≤ 41) : 0 ≤ n109.toInt ∧ n109.toInt ≤ 41 ∧ r74.toInt ≤ 40 := by
  have q1 : (1 : Int32).toInt = 1 := by decide +kernel
  refine ⟨?_, ?_, ?_⟩ <;> first | assumption | omega | (subst_vars; omega) | trivial
-- post2 @142
theorem vX4_number_52 (ad : Nat → Nat) (sa : Nat → Nat) (κ : KS) (k0 : Int32) (r1 : Int32) (x2 : Int32) (r4 : Int32) (x73 : Int32) (r74 : Int32) (x75 : Int32) (x77 : Int32) (x78 : Int32) (x98 : Int32) (r100 : Int32) (x101 : UInt64) (x102 : UInt64) (P104 : PL) (b106 : Nat) (n109 : Int32) (F110 : (Nat → Int32)) (F111 : (Nat → Int32)) (F112 : (Nat → Int32)) (hPV : PV sa κ.2.2.2.2) (hSV : SV ad κ.2.2.2.2 (κ.2.1 0) (κ.2.1 1) (κ.2.2.2.1 6) (κ.2.2.2.1 7) (κ.2.2.2.1 8) (κ.2.2.2.1 13) (κ.2.2.2.1 15) (κ.2.2.2.1 17) (κ.1 1).toInt) (hpre_0 : L9 (κ.2.2.1 9)) (hpre_1 : 0 ≤ (κ.1 6).toInt) (hpre_2 : (κ.1 6).toInt ≤ 40) (hpre_3 : 0 ≤ (κ.1 7).toInt) (hpre_4 : (κ.1 7).toInt ≤ 41) (hpre_5 : 0 ≤ k0.toInt) (hpre_6 : k0.toInt ≤ 40) (hr1y : (κ.1 6).toInt ≤ 40 → RT dg (tx (κ.2.2.1 9) (κ.1 6)) k0.toInt r1.toInt ∧ ¬ dg (tx (κ.2.2.1 9) (κ.1 6) r1.toInt)) (hr1_0 : k0.toInt ≤ r1.toInt) (hr1_1 : r1.toInt ≤ max k0.toInt (κ.1 6).toInt) (ex2 : x2 = r1 - k0) (tx2 : x2.toInt = r1.toInt - k0.toInt) (c3 : x2.toInt ≤ 6) (hr4y : (κ.1 6).toInt ≤ 40 → r4.toInt = tx (κ.2.2.1 9) (κ.1 6) r1.toInt) (hr4_0 : 0 ≤ r4.toInt) (hr4_1 : r4.toInt ≤ 126) (hr4_2 : ¬ r4.toInt = 0 → 0 ≤ r1.toInt ∧ r1.toInt < (κ.1 6).toInt) (c5 : r4.toInt = 46) (ex73 : x73 = r1 + (1 : Int32)) (tx73 : x73.toInt = r1.toInt + 1) (hr74y : (κ.1 6).toInt ≤ 40 → RT dg (tx (κ.2.2.1 9) (κ.1 6)) x73.toInt r74.toInt ∧ ¬ dg (tx (κ.2.2.1 9) (κ.1 6) r74.toInt)) (hr74_0 : x73.toInt ≤ r74.toInt) (hr74_1 : r74.toInt ≤ max x73.toInt (κ.1 6).toInt) (ex75 : x75 = r1 + (1 : Int32)) (tx75 : x75.toInt = r1.toInt + 1) (c76 : x75.toInt < r74.toInt) (ex77 : x77 = r74 - r1) (tx77 : x77.toInt = r74.toInt - r1.toInt) (ex78 : x78 = x77 - (1 : Int32)) (tx78 : x78.toInt = x77.toInt - 1) (c79 : x78.toInt ≤ 3) (c80 : ¬ x78.toInt = 1) (c81 : x78.toInt = 2) (ex98 : x98 = r1 + (1 : Int32)) (tx98 : x98.toInt = r1.toInt + 1) (ex101 : x101 = FP.i2d r100) (fx101 : FN x101) (ex102 : x102 = FP.ddiv x101 (4636737291354636288 : UInt64)) (hr103_0 : EX κ.2.2.2.2 P104) (hr103_2 : KPx True κ.2.2.2.2 P104) (hr103y : ∀ q7 q8 : Nat → Option Nat, VALq P104 sa q7 q8 b106 (qReal x102)) (hr108y : (κ.1 7).toInt < 41 → ADc (κ.2.2.1 10) (κ.2.2.1 11) (κ.2.2.1 12) (κ.1 7) F110 F111 F112 n109 (1 : Int32) k0 (0 : Int32)) (hr108_1_0 : 0 ≤ n109.toInt) (hr108_1_1 : n109.toInt ≤ 41) : (κ.1 7).toInt ≤ k0.toInt → k0.toInt < (κ.1 6).toInt → dg (tx (κ.2.2.1 9) (κ.1 6) k0.toInt) → ∃ t9, TokR (tx (κ.2.2.1 9) (κ.1 6)) (κ.1 6).toInt k0.toInt t9 ∧ LXc (κ.2.2.1 10) (κ.2.2.1 11) (κ.2.2.1 12) (κ.1 7) F110 F111 F112 n109 k0.toInt r74.toInt t9 := by
  have q0 : (0 : Int32).toInt = 0 := by decide +kernel
  have q1 : (1 : Int32).toInt = 1 := by decide +kernel
  intro h1 h2 h3
  have a := hr1y (by omega)
  have lt := RT_lt a.1 a.2 h3
  have pk0 := hr4y (by omega)
  have b := hr74y (by omega)
  have bl := b.1.1
  first
  | (exfalso; omega)
  | (have z9 : tx (κ.2.2.1 9) (κ.1 6) r74.toInt = tx (κ.2.2.1 9) (κ.1 6) x73.toInt := by rw [show r74.toInt = x73.toInt by omega]
     have b2 := b.2
     exact ⟨_, numN (e1 := x73.toInt) a.1 a.2 (by omega) (by omega) (by omega) h3, LXc.add (hr108y (by omega)) rfl (by omega) (by omega) (by first | rfl | omega) rfl⟩)
  | exact ⟨_, numF (e1 := x73.toInt) (e3 := x73.toInt) a.1 a.2 (by omega) (by omega) (b.1.2 _ (Int.le_refl _) (by omega)) (by omega) (by omega) b.1 b.2 (by omega) h3, LXc.add (hr108y (by omega)) rfl (by omega) (by omega) (by first | rfl | omega) rfl⟩
-- nw@111 @111
theorem vX4_number_53 (κ : KS) (k0 : Int32) (r1 : Int32) (x2 : Int32) (r4 : Int32) (x73 : Int32) (r74 : Int32) (x75 : Int32) (x77 : Int32) (x78 : Int32) (x114 : Int32) (hpre_1 : 0 ≤ (κ.1 6).toInt) (hpre_2 : (κ.1 6).toInt ≤ 40) (hpre_5 : 0 ≤ k0.toInt) (hpre_6 : k0.toInt ≤ 40) (hr1_0 : k0.toInt ≤ r1.toInt) (hr1_1 : r1.toInt ≤ max k0.toInt (κ.1 6).toInt) (ex2 : x2 = r1 - k0) (tx2 : x2.toInt = r1.toInt - k0.toInt) (c3 : x2.toInt ≤ 6) (hr4_0 : 0 ≤ r4.toInt) (hr4_1 : r4.toInt ≤ 126) (hr4_2 : ¬ r4.toInt = 0 → 0 ≤ r1.toInt ∧ r1.toInt < (κ.1 6).toInt) (c5 : r4.toInt = 46) (ex73 : x73 = r1 + (1 : Int32)) (tx73 : x73.toInt = r1.toInt + 1) (hr74_0 : x73.toInt ≤ r74.toInt) (hr74_1 : r74.toInt ≤ max x73.toInt (κ.1 6).toInt) (ex75 : x75 = r1 + (1 : Int32)) (tx75 : x75.toInt = r1.toInt + 1) (c76 : x75.toInt < r74.toInt) (ex77 : x77 = r74 - r1) (tx77 : x77.toInt = r74.toInt - r1.toInt) (ex78 : x78 = x77 - (1 : Int32)) (tx78 : x78.toInt = x77.toInt - 1) (c79 : x78.toInt ≤ 3) (c80 : x78.toInt = 1) (ex114 : x114 = r1 + (1 : Int32)) : x114.toInt = r1.toInt + 1 := by
  have q1 : (1 : Int32).toInt = 1 := by decide +kernel
  have w1 : (1 : Int32).toInt = 1 := by decide +kernel
  rw [ex114, z_add (by omega) (by omega)]; first | done | omega
-- pre:X4_digits@117 @117
theorem vX4_number_54 (κ : KS) (k0 : Int32) (r1 : Int32) (x2 : Int32) (r4 : Int32) (x73 : Int32) (r74 : Int32) (x75 : Int32) (x77 : Int32) (x78 : Int32) (x114 : Int32) (hpre_0 : L9 (κ.2.2.1 9)) (hpre_1 : 0 ≤ (κ.1 6).toInt) (hpre_2 : (κ.1 6).toInt ≤ 40) (hpre_5 : 0 ≤ k0.toInt) (hpre_6 : k0.toInt ≤ 40) (hr1_0 : k0.toInt ≤ r1.toInt) (hr1_1 : r1.toInt ≤ max k0.toInt (κ.1 6).toInt) (ex2 : x2 = r1 - k0) (tx2 : x2.toInt = r1.toInt - k0.toInt) (c3 : x2.toInt ≤ 6) (hr4_0 : 0 ≤ r4.toInt) (hr4_1 : r4.toInt ≤ 126) (hr4_2 : ¬ r4.toInt = 0 → 0 ≤ r1.toInt ∧ r1.toInt < (κ.1 6).toInt) (c5 : r4.toInt = 46) (ex73 : x73 = r1 + (1 : Int32)) (tx73 : x73.toInt = r1.toInt + 1) (hr74_0 : x73.toInt ≤ r74.toInt) (hr74_1 : r74.toInt ≤ max x73.toInt (κ.1 6).toInt) (ex75 : x75 = r1 + (1 : Int32)) (tx75 : x75.toInt = r1.toInt + 1) (c76 : x75.toInt < r74.toInt) (ex77 : x77 = r74 - r1) (tx77 : x77.toInt = r74.toInt - r1.toInt) (ex78 : x78 = x77 - (1 : Int32)) (tx78 : x78.toInt = x77.toInt - 1) (c79 : x78.toInt ≤ 3) (c80 : x78.toInt = 1) (ex114 : x114 = r1 + (1 : Int32)) (tx114 : x114.toInt = r1.toInt + 1) : L9 (κ.2.2.1 9) ∧ 0 ≤ k0.toInt ∧ r1.toInt ≤ 41 := by
  have q1 : (1 : Int32).toInt = 1 := by decide +kernel
  refine ⟨?_, ?_, ?_⟩ <;> first | assumption | omega | (subst_vars; omega) | trivial
-- pre:X4_digits@120 @120
theorem vX4_number_55 (κ : KS) (k0 : Int32) (r1 : Int32) (x2 : Int32) (r4 : Int32) (x73 : Int32) (r74 : Int32) (x75 : Int32) (x77 : Int32) (x78 : Int32) (x114 : Int32) (hpre_0 : L9 (κ.2.2.1 9)) (hpre_1 : 0 ≤ (κ.1 6).toInt) (hpre_2 : (κ.1 6).toInt ≤ 40) (hpre_5 : 0 ≤ k0.toInt) (hpre_6 : k0.toInt ≤ 40) (hr1_0 : k0.toInt ≤ r1.toInt) (hr1_1 : r1.toInt ≤ max k0.toInt (κ.1 6).toInt) (ex2 : x2 = r1 - k0) (tx2 : x2.toInt = r1.toInt - k0.toInt) (c3 : x2.toInt ≤ 6) (hr4_0 : 0 ≤ r4.toInt) (hr4_1 : r4.toInt ≤ 126) (hr4_2 : ¬ r4.toInt = 0 → 0 ≤ r1.toInt ∧ r1.toInt < (κ.1 6).toInt) (c5 : r4.toInt = 46) (ex73 : x73 = r1 + (1 : Int32)) (tx73 : x73.toInt = r1.toInt + 1) (hr74_0 : x73.toInt ≤ r74.toInt) (hr74_1 : r74.toInt ≤ max x73.toInt (κ.1 6).toInt) (ex75 : x75 = r1 + (1 : Int32)) (tx75 : x75.toInt = r1.toInt + 1) (c76 : x75.toInt < r74.toInt) (ex77 : x77 = r74 - r1) (tx77 : x77.toInt = r74.toInt - r1.toInt) (ex78 : x78 = x77 - (1 : Int32)) (tx78 : x78.toInt = x77.toInt - 1) (c79 : x78.toInt ≤ 3) (c80 : x78.toInt = 1) (ex114 : x114 = r1 + (1 : Int32)) (tx114 : x114.toInt = r1.toInt + 1) : L9 (κ.2.2.1 9) ∧ 0 ≤ x114.toInt ∧ r74.toInt ≤ 41 := by
  have q1 : (1 : Int32).toInt = 1 := by decide +kernel
  refine ⟨?_, ?_, ?_⟩ <;> first | assumption | omega | (subst_vars; omega) | trivial
-- nan@134 @134
theorem vX4_number_56 (r116 : Int32) (x117 : UInt64) (ex117 : x117 = FP.i2d r116) (fx117 : FN x117) : vf_n64 (FP.ddiv x117 (4621819117588971520 : UInt64)) := by
  obtain ⟨s, c, q, hx⟩ : FN x117 := by assumption
  obtain ⟨d, g1, g2⟩ := fp_div hx (show Jvm.FP.Core.decode Jvm.FP.Core.b64 (4621819117588971520 : UInt64).toNat = .fin false 5629499534213120 (-49) by decide +kernel) (by omega)
  exact fp_n g1 g2
-- pre:X10_ofReal@135 @135
theorem vX4_number_57 (r116 : Int32) (x117 : UInt64) (x118 : UInt64) (ex117 : x117 = FP.i2d r116) (fx117 : FN x117) (ex118 : x118 = FP.ddiv x117 (4621819117588971520 : UInt64)) : FN x118 := by
  subst ex118
  first | exact fp_d10 (by assumption) | exact fp_d100 (by assumption) | exact fp_d1000 (by assumption)
-- post @142
theorem vX4_number_58 (κ : KS) (k0 : Int32) (r1 : Int32) (x2 : Int32) (r4 : Int32) (x73 : Int32) (r74 : Int32) (x75 : Int32) (x77 : Int32) (x78 : Int32) (x114 : Int32) (n125 : Int32) (hpre_1 : 0 ≤ (κ.1 6).toInt) (hpre_2 : (κ.1 6).toInt ≤ 40) (hpre_5 : 0 ≤ k0.toInt) (hpre_6 : k0.toInt ≤ 40) (hr1_0 : k0.toInt ≤ r1.toInt) (hr1_1 : r1.toInt ≤ max k0.toInt (κ.1 6).toInt) (ex2 : x2 = r1 - k0) (tx2 : x2.toInt = r1.toInt - k0.toInt) (c3 : x2.toInt ≤ 6) (hr4_0 : 0 ≤ r4.toInt) (hr4_1 : r4.toInt ≤ 126) (hr4_2 : ¬ r4.toInt = 0 → 0 ≤ r1.toInt ∧ r1.toInt < (κ.1 6).toInt) (c5 : r4.toInt = 46) (ex73 : x73 = r1 + (1 : Int32)) (tx73 : x73.toInt = r1.toInt + 1) (hr74_0 : x73.toInt ≤ r74.toInt) (hr74_1 : r74.toInt ≤ max x73.toInt (κ.1 6).toInt) (ex75 : x75 = r1 + (1 : Int32)) (tx75 : x75.toInt = r1.toInt + 1) (c76 : x75.toInt < r74.toInt) (ex77 : x77 = r74 - r1) (tx77 : x77.toInt = r74.toInt - r1.toInt) (ex78 : x78 = x77 - (1 : Int32)) (tx78 : x78.toInt = x77.toInt - 1) (c79 : x78.toInt ≤ 3) (c80 : x78.toInt = 1) (ex114 : x114 = r1 + (1 : Int32)) (tx114 : x114.toInt = r1.toInt + 1) (hr124_1_0 : 0 ≤ n125.toInt) (hr124_1_1 : n125.toInt ≤ 41) : 0 ≤ n125.toInt ∧ n125.toInt ≤ 41 ∧ r74.toInt ≤ 40 := by
  have q1 : (1 : Int32).toInt = 1 := by decide +kernel
  refine ⟨?_, ?_, ?_⟩ <;> first | assumption | omega | (subst_vars; omega) | trivial
-- post2 @142
theorem vX4_number_59 (ad : Nat → Nat) (sa : Nat → Nat) (κ : KS) (k0 : Int32) (r1 : Int32) (x2 : Int32) (r4 : Int32) (x73 : Int32) (r74 : Int32) (x75 : Int32) (x77 : Int32) (x78 : Int32) (x114 : Int32) (r116 : Int32) (x117 : UInt64) (x118 : UInt64) (P120 : PL) (b122 : Nat) (n125 : Int32) (F126 : (Nat → Int32)) (F127 : (Nat → Int32)) (F128 : (Nat → Int32)) (hPV : PV sa κ.2.2.2.2) (hSV : SV ad κ.2.2.2.2 (κ.2.1 0) (κ.2.1 1) (κ.2.2.2.1 6) (κ.2.2.2.1 7) (κ.2.2.2.1 8) (κ.2.2.2.1 13) (κ.2.2.2.1 15) (κ.2.2.2.1 17) (κ.1 1).toInt) (hpre_0 : L9 (κ.2.2.1 9)) (hpre_1 : 0 ≤ (κ.1 6).toInt) (hpre_2 : (κ.1 6).toInt ≤ 40) (hpre_3 : 0 ≤ (κ.1 7).toInt) (hpre_4 : (κ.1 7).toInt ≤ 41) (hpre_5 : 0 ≤ k0.toInt) (hpre_6 : k0.toInt ≤ 40) (hr1y : (κ.1 6).toInt ≤ 40 → RT dg (tx (κ.2.2.1 9) (κ.1 6)) k0.toInt r1.toInt ∧ ¬ dg (tx (κ.2.2.1 9) (κ.1 6) r1.toInt)) (hr1_0 : k0.toInt ≤ r1.toInt) (hr1_1 : r1.toInt ≤ max k0.toInt (κ.1 6).toInt) (ex2 : x2 = r1 - k0) (tx2 : x2.toInt = r1.toInt - k0.toInt) (c3 : x2.toInt ≤ 6) (hr4y : (κ.1 6).toInt ≤ 40 → r4.toInt = tx (κ.2.2.1 9) (κ.1 6) r1.toInt) (hr4_0 : 0 ≤ r4.toInt) (hr4_1 : r4.toInt ≤ 126) (hr4_2 : ¬ r4.toInt = 0 → 0 ≤ r1.toInt ∧ r1.toInt < (κ.1 6).toInt) (c5 : r4.toInt = 46) (ex73 : x73 = r1 + (1 : Int32)) (tx73 : x73.toInt = r1.toInt + 1) (hr74y : (κ.1 6).toInt ≤ 40 → RT dg (tx (κ.2.2.1 9) (κ.1 6)) x73.toInt r74.toInt ∧ ¬ dg (tx (κ.2.2.1 9) (κ.1 6) r74.toInt)) (hr74_0 : x73.toInt ≤ r74.toInt) (hr74_1 : r74.toInt ≤ max x73.toInt (κ.1 6).toInt) (ex75 : x75 = r1 + (1 : Int32)) (tx75 : x75.toInt = r1.toInt + 1) (c76 : x75.toInt < r74.toInt) (ex77 : x77 = r74 - r1) (tx77 : x77.toInt = r74.toInt - r1.toInt) (ex78 : x78 = x77 - (1 : Int32)) (tx78 : x78.toInt = x77.toInt - 1) (c79 : x78.toInt ≤ 3) (c80 : x78.toInt = 1) (ex114 : x114 = r1 + (1 : Int32)) (tx114 : x114.toInt = r1.toInt + 1) (ex117 : x117 = FP.i2d r116) (fx117 : FN x117) (ex118 : x118 = FP.ddiv x117 (4621819117588971520 : UInt64)) (hr119_0 : EX κ.2.2.2.2 P120) (hr119_2 : KPx True κ.2.2.2.2 P120) (hr119y : ∀ q7 q8 : Nat → Option Nat, VALq P120 sa q7 q8 b122 (qReal x118)) (hr124y : (κ.1 7).toInt < 41 → ADc (κ.2.2.1 10) (κ.2.2.1 11) (κ.2.2.1 12) (κ.1 7) F126 F127 F128 n125 (1 : Int32) k0 (0 : Int32)) (hr124_1_0 : 0 ≤ n125.toInt) (hr124_1_1 : n125.toInt ≤ 41) : (κ.1 7).toInt ≤ k0.toInt → k0.toInt < (κ.1 6).toInt → dg (tx (κ.2.2.1 9) (κ.1 6) k0.toInt) → ∃ t9, TokR (tx (κ.2.2.1 9) (κ.1 6)) (κ.1 6).toInt k0.toInt t9 ∧ LXc (κ.2.2.1 10) (κ.2.2.1 11) (κ.2.2.1 12) (κ.1 7) F126 F127 F128 n125 k0.toInt r74.toInt t9 := by
  have q0 : (0 : Int32).toInt = 0 := by decide +kernel
  have q1 : (1 : Int32).toInt = 1 := by decide +kernel
  intro h1 h2 h3
  have a := hr1y (by omega)
  have lt := RT_lt a.1 a.2 h3
  have pk0 := hr4y (by omega)
  have b := hr74y (by omega)
  have bl := b.1.1
  first
  | (exfalso; omega)
  | (have z9 : tx (κ.2.2.1 9) (κ.1 6) r74.toInt = tx (κ.2.2.1 9) (κ.1 6) x73.toInt := by rw [show r74.toInt = x73.toInt by omega]
     have b2 := b.2
     exact ⟨_, numN (e1 := x73.toInt) a.1 a.2 (by omega) (by omega) (by omega) h3, LXc.add (hr124y (by omega)) rfl (by omega) (by omega) (by first | rfl | omega) rfl⟩)
  | exact ⟨_, numF (e1 := x73.toInt) (e3 := x73.toInt) a.1 a.2 (by omega) (by omega) (b.1.2 _ (Int.le_refl _) (by omega)) (by omega) (by omega) b.1 b.2 (by omega) h3, LXc.add (hr124y (by omega)) rfl (by omega) (by omega) (by first | rfl | omega) rfl⟩
-- post2 @78
theorem vX4_number_60 (ad : Nat → Nat) (sa : Nat → Nat) (κ : KS) (k0 : Int32) (r1 : Int32) (x2 : Int32) (r4 : Int32) (x73 : Int32) (r74 : Int32) (x75 : Int32) (x77 : Int32) (x78 : Int32) (hPV : PV sa κ.2.2.2.2) (hSV : SV ad κ.2.2.2.2 (κ.2.1 0) (κ.2.1 1) (κ.2.2.2.1 6) (κ.2.2.2.1 7) (κ.2.2.2.1 8) (κ.2.2.2.1 13) (κ.2.2.2.1 15) (κ.2.2.2.1 17) (κ.1 1).toInt) (hpre_0 : L9 (κ.2.2.1 9)) (hpre_1 : 0 ≤ (κ.1 6).toInt) (hpre_2 : (κ.1 6).toInt ≤ 40) (hpre_3 : 0 ≤ (κ.1 7).toInt) (hpre_4 : (κ.1 7).toInt ≤ 41) (hpre_5 : 0 ≤ k0.toInt) (hpre_6 : k0.toInt ≤ 40) (hr1y : (κ.1 6).toInt ≤ 40 → RT dg (tx (κ.2.2.1 9) (κ.1 6)) k0.toInt r1.toInt ∧ ¬ dg (tx (κ.2.2.1 9) (κ.1 6) r1.toInt)) (hr1_0 : k0.toInt ≤ r1.toInt) (hr1_1 : r1.toInt ≤ max k0.toInt (κ.1 6).toInt) (ex2 : x2 = r1 - k0) (tx2 : x2.toInt = r1.toInt - k0.toInt) (c3 : x2.toInt ≤ 6) (hr4y : (κ.1 6).toInt ≤ 40 → r4.toInt = tx (κ.2.2.1 9) (κ.1 6) r1.toInt) (hr4_0 : 0 ≤ r4.toInt) (hr4_1 : r4.toInt ≤ 126) (hr4_2 : ¬ r4.toInt = 0 → 0 ≤ r1.toInt ∧ r1.toInt < (κ.1 6).toInt) (c5 : r4.toInt = 46) (ex73 : x73 = r1 + (1 : Int32)) (tx73 : x73.toInt = r1.toInt + 1) (hr74y : (κ.1 6).toInt ≤ 40 → RT dg (tx (κ.2.2.1 9) (κ.1 6)) x73.toInt r74.toInt ∧ ¬ dg (tx (κ.2.2.1 9) (κ.1 6) r74.toInt)) (hr74_0 : x73.toInt ≤ r74.toInt) (hr74_1 : r74.toInt ≤ max x73.toInt (κ.1 6).toInt) (ex75 : x75 = r1 + (1 : Int32)) (tx75 : x75.toInt = r1.toInt + 1) (c76 : x75.toInt < r74.toInt) (ex77 : x77 = r74 - r1) (tx77 : x77.toInt = r74.toInt - r1.toInt) (ex78 : x78 = x77 - (1 : Int32)) (tx78 : x78.toInt = x77.toInt - 1) (c79 : 3 < x78.toInt) : (κ.1 7).toInt ≤ k0.toInt → k0.toInt < (κ.1 6).toInt → dg (tx (κ.2.2.1 9) (κ.1 6) k0.toInt) → ∃ t9, TokR (tx (κ.2.2.1 9) (κ.1 6)) (κ.1 6).toInt k0.toInt t9 ∧ LXc (κ.2.2.1 10) (κ.2.2.1 11) (κ.2.2.1 12) (κ.1 7) (κ.2.2.1 10) (κ.2.2.1 11) (κ.2.2.1 12) (κ.1 7) k0.toInt (-1 : Int32).toInt t9 := by
  have qm1 : (-1 : Int32).toInt = (-1) := by decide +kernel
  have q1 : (1 : Int32).toInt = 1 := by decide +kernel
  intro h1 h2 h3
  have a := hr1y (by omega)
  have lt := RT_lt a.1 a.2 h3
  have pk0 := hr4y (by omega)
  have b := hr74y (by omega)
  have bl := b.1.1
  first | (exfalso; omega) | exact ⟨none, numX a.1 a.2 (by omega) h3, by show (-1 : Int32).toInt ≤ _; omega⟩ | exact ⟨none, numY (e1 := x73.toInt) (e3 := x73.toInt) a.1 a.2 (by omega) (by omega) (by first | exact b.1.2 _ (Int.le_refl _) (by omega)) (by omega) (by omega) b.1 b.2 (by omega) h3, by show (-1 : Int32).toInt ≤ _; omega⟩
-- pre:X4_digits@53 @53
theorem vX4_number_61 (κ : KS) (k0 : Int32) (r1 : Int32) (x2 : Int32) (r4 : Int32) (x73 : Int32) (r74 : Int32) (x75 : Int32) (hpre_0 : L9 (κ.2.2.1 9)) (hpre_1 : 0 ≤ (κ.1 6).toInt) (hpre_2 : (κ.1 6).toInt ≤ 40) (hpre_5 : 0 ≤ k0.toInt) (hpre_6 : k0.toInt ≤ 40) (hr1_0 : k0.toInt ≤ r1.toInt) (hr1_1 : r1.toInt ≤ max k0.toInt (κ.1 6).toInt) (ex2 : x2 = r1 - k0) (tx2 : x2.toInt = r1.toInt - k0.toInt) (c3 : x2.toInt ≤ 6) (hr4_0 : 0 ≤ r4.toInt) (hr4_1 : r4.toInt ≤ 126) (hr4_2 : ¬ r4.toInt = 0 → 0 ≤ r1.toInt ∧ r1.toInt < (κ.1 6).toInt) (c5 : r4.toInt = 46) (ex73 : x73 = r1 + (1 : Int32)) (tx73 : x73.toInt = r1.toInt + 1) (hr74_0 : x73.toInt ≤ r74.toInt) (hr74_1 : r74.toInt ≤ max x73.toInt (κ.1 6).toInt) (ex75 : x75 = r1 + (1 : Int32)) (tx75 : x75.toInt = r1.toInt + 1) (c76 : r74.toInt ≤ x75.toInt) : L9 (κ.2.2.1 9) ∧ 0 ≤ k0.toInt ∧ r1.toInt ≤ 41 := by
  have q1 : (1 : Int32).toInt = 1 := by decide +kernel
  refine ⟨?_, ?_, ?_⟩ <;> first | assumption | omega | (subst_vars; omega) | trivial
-- post @63
theorem vX4_number_62 (κ : KS) (k0 : Int32) (r1 : Int32) (x2 : Int32) (r4 : Int32) (x73 : Int32) (r74 : Int32) (x75 : Int32) (n137 : Int32) (hpre_1 : 0 ≤ (κ.1 6).toInt) (hpre_2 : (κ.1 6).toInt ≤ 40) (hpre_5 : 0 ≤ k0.toInt) (hpre_6 : k0.toInt ≤ 40) (hr1_0 : k0.toInt ≤ r1.toInt) (hr1_1 : r1.toInt ≤ max k0.toInt (κ.1 6).toInt) (ex2 : x2 = r1 - k0) (tx2 : x2.toInt = r1.toInt - k0.toInt) (c3 : x2.toInt ≤ 6) (hr4_0 : 0 ≤ r4.toInt) (hr4_1 : r4.toInt ≤ 126) (hr4_2 : ¬ r4.toInt = 0 → 0 ≤ r1.toInt ∧ r1.toInt < (κ.1 6).toInt) (c5 : r4.toInt = 46) (ex73 : x73 = r1 + (1 : Int32)) (tx73 : x73.toInt = r1.toInt + 1) (hr74_0 : x73.toInt ≤ r74.toInt) (hr74_1 : r74.toInt ≤ max x73.toInt (κ.1 6).toInt) (ex75 : x75 = r1 + (1 : Int32)) (tx75 : x75.toInt = r1.toInt + 1) (c76 : r74.toInt ≤ x75.toInt) (hr136_1_0 : 0 ≤ n137.toInt) (hr136_1_1 : n137.toInt ≤ 41) : 0 ≤ n137.toInt ∧ n137.toInt ≤ 41 ∧ r1.toInt ≤ 40 := by
  have q1 : (1 : Int32).toInt = 1 := by decide +kernel
  refine ⟨?_, ?_, ?_⟩ <;> first | assumption | omega | (subst_vars; omega) | trivial
-- post2 @63
theorem vX4_number_63 (ad : Nat → Nat) (sa : Nat → Nat) (κ : KS) (k0 : Int32) (r1 : Int32) (x2 : Int32) (r4 : Int32) (x73 : Int32) (r74 : Int32) (x75 : Int32) (r130 : Int32) (P132 : PL) (b134 : Nat) (n137 : Int32) (F138 : (Nat → Int32)) (F139 : (Nat → Int32)) (F140 : (Nat → Int32)) (hPV : PV sa κ.2.2.2.2) (hSV : SV ad κ.2.2.2.2 (κ.2.1 0) (κ.2.1 1) (κ.2.2.2.1 6) (κ.2.2.2.1 7) (κ.2.2.2.1 8) (κ.2.2.2.1 13) (κ.2.2.2.1 15) (κ.2.2.2.1 17) (κ.1 1).toInt) (hpre_0 : L9 (κ.2.2.1 9)) (hpre_1 : 0 ≤ (κ.1 6).toInt) (hpre_2 : (κ.1 6).toInt ≤ 40) (hpre_3 : 0 ≤ (κ.1 7).toInt) (hpre_4 : (κ.1 7).toInt ≤ 41) (hpre_5 : 0 ≤ k0.toInt) (hpre_6 : k0.toInt ≤ 40) (hr1y : (κ.1 6).toInt ≤ 40 → RT dg (tx (κ.2.2.1 9) (κ.1 6)) k0.toInt r1.toInt ∧ ¬ dg (tx (κ.2.2.1 9) (κ.1 6) r1.toInt)) (hr1_0 : k0.toInt ≤ r1.toInt) (hr1_1 : r1.toInt ≤ max k0.toInt (κ.1 6).toInt) (ex2 : x2 = r1 - k0) (tx2 : x2.toInt = r1.toInt - k0.toInt) (c3 : x2.toInt ≤ 6) (hr4y : (κ.1 6).toInt ≤ 40 → r4.toInt = tx (κ.2.2.1 9) (κ.1 6) r1.toInt) (hr4_0 : 0 ≤ r4.toInt) (hr4_1 : r4.toInt ≤ 126) (hr4_2 : ¬ r4.toInt = 0 → 0 ≤ r1.toInt ∧ r1.toInt < (κ.1 6).toInt) (c5 : r4.toInt = 46) (ex73 : x73 = r1 + (1 : Int32)) (tx73 : x73.toInt = r1.toInt + 1) (hr74y : (κ.1 6).toInt ≤ 40 → RT dg (tx (κ.2.2.1 9) (κ.1 6)) x73.toInt r74.toInt ∧ ¬ dg (tx (κ.2.2.1 9) (κ.1 6) r74.toInt)) (hr74_0 : x73.toInt ≤ r74.toInt) (hr74_1 : r74.toInt ≤ max x73.toInt (κ.1 6).toInt) (ex75 : x75 = r1 + (1 : Int32)) (tx75 : x75.toInt = r1.toInt + 1) (c76 : r74.toInt ≤ x75.toInt) (hr131_0 : EX κ.2.2.2.2 P132) (hr131_2 : KPx True κ.2.2.2.2 P132) (hr131y : ∀ q7 q8 : Nat → Option Nat, VALq P132 sa q7 q8 b134 (qInt r130)) (hr136y : (κ.1 7).toInt < 41 → ADc (κ.2.2.1 10) (κ.2.2.1 11) (κ.2.2.1 12) (κ.1 7) F138 F139 F140 n137 (1 : Int32) k0 (0 : Int32)) (hr136_1_0 : 0 ≤ n137.toInt) (hr136_1_1 : n137.toInt ≤ 41) : (κ.1 7).toInt ≤ k0.toInt → k0.toInt < (κ.1 6).toInt → dg (tx (κ.2.2.1 9) (κ.1 6) k0.toInt) → ∃ t9, TokR (tx (κ.2.2.1 9) (κ.1 6)) (κ.1 6).toInt k0.toInt t9 ∧ LXc (κ.2.2.1 10) (κ.2.2.1 11) (κ.2.2.1 12) (κ.1 7) F138 F139 F140 n137 k0.toInt r1.toInt t9 := by
  have q0 : (0 : Int32).toInt = 0 := by decide +kernel
  have q1 : (1 : Int32).toInt = 1 := by decide +kernel
  intro h1 h2 h3
  have a := hr1y (by omega)
  have lt := RT_lt a.1 a.2 h3
  have pk0 := hr4y (by omega)
  have b := hr74y (by omega)
  have bl := b.1.1
  first
  | (exfalso; omega)
  | (have z9 : tx (κ.2.2.1 9) (κ.1 6) r74.toInt = tx (κ.2.2.1 9) (κ.1 6) x73.toInt := by rw [show r74.toInt = x73.toInt by omega]
     have b2 := b.2
     exact ⟨_, numN (e1 := x73.toInt) a.1 a.2 (by omega) (by omega) (by omega) h3, LXc.add (hr136y (by omega)) rfl (by omega) (by omega) (by first | rfl | omega) rfl⟩)
  | exact ⟨_, numF (e1 := x73.toInt) (e3 := x73.toInt) a.1 a.2 (by omega) (by omega) (b.1.2 _ (Int.le_refl _) (by omega)) (by omega) (by omega) b.1 b.2 (by omega) h3, LXc.add (hr136y (by omega)) rfl (by omega) (by omega) (by first | rfl | omega) rfl⟩
-- post2 @15
theorem vX4_number_64 (ad : Nat → Nat) (sa : Nat → Nat) (κ : KS) (k0 : Int32) (r1 : Int32) (x2 : Int32) (hPV : PV sa κ.2.2.2.2) (hSV : SV ad κ.2.2.2.2 (κ.2.1 0) (κ.2.1 1) (κ.2.2.2.1 6) (κ.2.2.2.1 7) (κ.2.2.2.1 8) (κ.2.2.2.1 13) (κ.2.2.2.1 15) (κ.2.2.2.1 17) (κ.1 1).toInt) (hpre_0 : L9 (κ.2.2.1 9)) (hpre_1 : 0 ≤ (κ.1 6).toInt) (hpre_2 : (κ.1 6).toInt ≤ 40) (hpre_3 : 0 ≤ (κ.1 7).toInt) (hpre_4 : (κ.1 7).toInt ≤ 41) (hpre_5 : 0 ≤ k0.toInt) (hpre_6 : k0.toInt ≤ 40) (hr1y : (κ.1 6).toInt ≤ 40 → RT dg (tx (κ.2.2.1 9) (κ.1 6)) k0.toInt r1.toInt ∧ ¬ dg (tx (κ.2.2.1 9) (κ.1 6) r1.toInt)) (hr1_0 : k0.toInt ≤ r1.toInt) (hr1_1 : r1.toInt ≤ max k0.toInt (κ.1 6).toInt) (ex2 : x2 = r1 - k0) (tx2 : x2.toInt = r1.toInt - k0.toInt) (c3 : 6 < x2.toInt) : (κ.1 7).toInt ≤ k0.toInt → k0.toInt < (κ.1 6).toInt → dg (tx (κ.2.2.1 9) (κ.1 6) k0.toInt) → ∃ t9, TokR (tx (κ.2.2.1 9) (κ.1 6)) (κ.1 6).toInt k0.toInt t9 ∧ LXc (κ.2.2.1 10) (κ.2.2.1 11) (κ.2.2.1 12) (κ.1 7) (κ.2.2.1 10) (κ.2.2.1 11) (κ.2.2.1 12) (κ.1 7) k0.toInt (-1 : Int32).toInt t9 := by
  have qm1 : (-1 : Int32).toInt = (-1) := by decide +kernel
  intro h1 h2 h3
  have a := hr1y (by omega)
  have lt := RT_lt a.1 a.2 h3
  first | (exfalso; omega) | exact ⟨none, numX a.1 a.2 (by omega) h3, by show (-1 : Int32).toInt ≤ _; omega⟩
set_option maxHeartbeats 4000000 in
set_option maxRecDepth 100000 in
theorem NX4_number (l : Launch) (D : va_G) (cy : Nat → ClassId) (ad : Nat → Nat) (A : Nat → Prop) (sz0 : Nat) (sa : Nat → Nat)  (κ : KS) (sz sl : Nat) (hAF : ∀ q, A q → Fr sz0 q) (hAn : ∀ q : Nat, sz ≤ q → A q) (k0 : Int32) (hPV : PV sa κ.2.2.2.2) (hSV : SV ad κ.2.2.2.2 (κ.2.1 0) (κ.2.1 1) (κ.2.2.2.1 6) (κ.2.2.2.1 7) (κ.2.2.2.1 8) (κ.2.2.2.1 13) (κ.2.2.2.1 15) (κ.2.2.2.1 17) (κ.1 1).toInt) (hpre : L9 (κ.2.2.1 9) ∧ 0 ≤ (κ.1 6).toInt ∧ (κ.1 6).toInt ≤ 40 ∧ 0 ≤ (κ.1 7).toInt ∧ (κ.1 7).toInt ≤ 41 ∧ 0 ≤ k0.toInt ∧ k0.toInt ≤ 40) : Met l yX4_number (Cond.code yX4_number cX4_number 9 (some .int) :: GWc) ({ frames := 3, cells := 1, slots := 5, locals := 67 }) (PcC D cy ad A sz0 sa [.ref (ad 2), .int k0] κ sz sl) (va_Qi (fun (r : Int32) (u : PL × Int32 × (Nat → Int32) × (Nat → Int32) × (Nat → Int32) × (Nat → Option Nat)) => ((EX κ.2.2.2.2 u.1) ∧ (PV sa u.1) ∧ (KPx True κ.2.2.2.2 u.1) ∧ (SV ad u.1 (κ.2.1 0) (κ.2.1 1) (κ.2.2.2.1 6) (κ.2.2.2.1 7) (κ.2.2.2.1 8) u.2.2.2.2.2 (κ.2.2.2.1 15) (κ.2.2.2.1 17) (κ.1 1).toInt) ∧ (0 ≤ u.2.1.toInt ∧ u.2.1.toInt ≤ 41 ∧ r.toInt ≤ 40)) ∧ ((κ.1 7).toInt ≤ k0.toInt → k0.toInt < (κ.1 6).toInt → dg (tx (κ.2.2.1 9) (κ.1 6) k0.toInt) → ∃ t9, TokR (tx (κ.2.2.1 9) (κ.1 6)) (κ.1 6).toInt k0.toInt t9 ∧ LXc (κ.2.2.1 10) (κ.2.2.1 11) (κ.2.2.1 12) (κ.1 7) u.2.2.1 u.2.2.2.1 u.2.2.2.2.1 u.2.1 k0.toInt r.toInt t9)) (fun (u : PL × Int32 × (Nat → Int32) × (Nat → Int32) × (Nat → Int32) × (Nat → Option Nat)) (t : State) => Bx D cy ad A sz sl (tQ (tA (tA (tA (tI (tP κ u.1) 7 u.2.1) 10 u.2.2.1) 11 u.2.2.2.1) 12 u.2.2.2.2.1) 13 u.2.2.2.2.2) (1) (5) t) A) (1) (5) A := by
  refine CM_of (loc0 := [(0, .ref (ad 2)), (1, .int k0)]) (own := RX4) (nm := "number") (by decide) rfl rfl rfl (Nat.le_of_ble_eq_true rfl) hAF hAn ?_
  intro p e s m below meth c ls hsz hsl C hP hS hl
  obtain ⟨hpre_0, hpre_1, hpre_2, hpre_3, hpre_4, hpre_5, hpre_6⟩ := hpre
  refine lv_aload_n C.x C.b dX4_number_0 rfl (lv_at hl 0 rfl) ?_
  refine lv_iload_n C.x C.b dX4_number_1 rfl (lv_at hl 1 rfl) ?_
  refine c_callVi (n := 1) (As := [.int k0]) (rest := []) C hP hS hl.1 (NX4_endOfDigits l D cy ad A sz0 sa κ s.heap.size (SLT s.heap) C.f (fun q h => C.a q (Nat.le_trans hS.1 h)) k0 (vX4_number_1 κ k0 hpre_0 hpre_1 hpre_2 hpre_5 hpre_6)) ⟨cw_500, cw_503, by decide +kernel⟩ ⟨cw_501, cw_502, cw_484⟩ rfl (hP.recvS (k := 2) (ci := 6) C.K rfl rfl) rfl rfl (lv_room (Nat.le_of_ble_eq_true rfl)) ⟨Nat.le_of_ble_eq_true rfl, Nat.le_of_ble_eq_true rfl⟩ ⟨(Nat.le_of_ble_eq_true rfl), (Nat.le_of_ble_eq_true rfl)⟩ dX4_number_2 (fun r1 u H locs hr1 hP hS => ?_)
  obtain ⟨hr1, hr1y⟩ := hr1
  have hr1y : (κ.1 6).toInt ≤ 40 → RT dg (tx (κ.2.2.1 9) (κ.1 6)) k0.toInt r1.toInt ∧ ¬ dg (tx (κ.2.2.1 9) (κ.1 6) r1.toInt) := hr1y
  have hr1 : (k0.toInt ≤ r1.toInt ∧ r1.toInt ≤ max k0.toInt (κ.1 6).toInt) := hr1
  obtain ⟨hr1_0, hr1_1⟩ := hr1
  refine lv_istore_n (lv' := [(2, .int r1), (0, .ref (ad 2)), (1, .int k0)]) C.x C.b dX4_number_5 rfl hl (by decide) rfl (fun ls hl => ?_)
  refine lv_iload_n C.x C.b dX4_number_6 rfl (lv_at hl 0 rfl) ?_
  refine lv_iload_n C.x C.b dX4_number_7 rfl (lv_at hl 2 rfl) ?_
  refine lv_isub C.x C.b dX4_number_8 ?_
  refine lv_topi (fun x2 ex2 => ?_)
  have tx2 : x2.toInt = r1.toInt - k0.toInt := (vX4_number_2 κ k0 r1 x2 hpre_1 hpre_2 hpre_5 hpre_6 hr1_0 hr1_1 ex2)
  refine lv_bipush (v := 6) C.x C.b dX4_number_9 (by decide +kernel) ?_
  refine lv_icmp_le (tgt := 16) C.x C.b dX4_number_11 (by decide) (fun c3 => ?_) (fun c3 => ?_)
  · have c3 : x2.toInt ≤ 6 := by have h := z_le c3; rw [show (6 : Int32).toInt = 6 from by decide +kernel] at h; exact h
    refine lv_aload_n C.x C.b dX4_number_16 rfl (lv_at hl 1 rfl) ?_
    refine lv_iload_n C.x C.b dX4_number_17 rfl (lv_at hl 0 rfl) ?_
    refine c_callVi (n := 1) (As := [.int r1]) (rest := []) C hP hS hl.1 (NX4_peek l D cy ad A sz0 sa κ H.size (SLT H) C.f (fun q h => C.a q (Nat.le_trans hS.1 h)) r1 (vX4_number_3 κ hpre_0)) ⟨cw_481, cw_485, by decide +kernel⟩ ⟨cw_482, cw_483, cw_484⟩ rfl (hP.recvS (k := 2) (ci := 6) C.K rfl rfl) rfl rfl (lv_room (Nat.le_of_ble_eq_true rfl)) ⟨Nat.le_of_ble_eq_true rfl, Nat.le_of_ble_eq_true rfl⟩ ⟨(Nat.le_of_ble_eq_true rfl), (Nat.le_of_ble_eq_true rfl)⟩ dX4_number_18 (fun r4 u H locs hr4 hP hS => ?_)
    obtain ⟨hr4, hr4y⟩ := hr4
    have hr4y : (κ.1 6).toInt ≤ 40 → r4.toInt = tx (κ.2.2.1 9) (κ.1 6) r1.toInt := hr4y
    have hr4 : (0 ≤ r4.toInt ∧ r4.toInt ≤ 126 ∧ (¬ r4.toInt = 0 → 0 ≤ r1.toInt ∧ r1.toInt < (κ.1 6).toInt)) := hr4
    obtain ⟨hr4_0, hr4_1, hr4_2⟩ := hr4
    refine lv_bipush (v := 46) C.x C.b dX4_number_21 (by decide +kernel) ?_
    refine lv_icmp_ne (tgt := 36) C.x C.b dX4_number_23 (by decide) (fun c5 => ?_) (fun c5 => ?_)
    · have c5 : ¬ r4.toInt = 46 := by have h := z_ne c5; rw [show (46 : Int32).toInt = 46 from by decide +kernel] at h; exact h
      refine lv_iload_n C.x C.b dX4_number_36 rfl (lv_at hl 0 rfl) ?_
      refine lv_istore_n (lv' := [(3, .int r1), (2, .int r1), (0, .ref (ad 2)), (1, .int k0)]) C.x C.b dX4_number_37 rfl hl (by decide) rfl (fun ls hl => ?_)
      refine lv_iload_n C.x C.b dX4_number_38 rfl (lv_at hl 0 rfl) ?_
      refine lv_iload_n C.x C.b dX4_number_39 rfl (lv_at hl 1 rfl) ?_
      refine lv_iconst (v := 1) C.x C.b dX4_number_40 (by decide +kernel) ?_
      refine lv_iadd C.x C.b dX4_number_41 ?_
      refine lv_topi (fun x6 ex6 => ?_)
      have tx6 : x6.toInt = r1.toInt + 1 := (vX4_number_4 κ k0 r1 x2 r4 x6 hpre_1 hpre_2 hpre_5 hpre_6 hr1_0 hr1_1 ex2 tx2 c3 hr4_0 hr4_1 hr4_2 c5 ex6)
      refine lv_icmp_gt (tgt := 64) C.x C.b dX4_number_42 (by decide) (fun c7 => ?_) (fun c7 => ?_)
      · have c7 : x6.toInt < r1.toInt := by have h := z_lt c7; exact h
        refine lv_iload_n C.x C.b dX4_number_64 rfl (lv_at hl 0 rfl) ?_
        refine lv_iload_n C.x C.b dX4_number_65 rfl (lv_at hl 1 rfl) ?_
        refine lv_isub C.x C.b dX4_number_66 ?_
        refine lv_topi (fun x8 ex8 => ?_)
        have tx8 : x8.toInt = r1.toInt - r1.toInt := (vX4_number_5 κ k0 r1 x2 r4 x6 x8 hpre_1 hpre_2 hpre_5 hpre_6 hr1_0 hr1_1 ex2 tx2 c3 hr4_0 hr4_1 hr4_2 c5 ex6 tx6 c7 ex8)
        refine lv_iconst (v := 1) C.x C.b dX4_number_67 (by decide +kernel) ?_
        refine lv_isub C.x C.b dX4_number_68 ?_
        refine lv_topi (fun x9 ex9 => ?_)
        have tx9 : x9.toInt = x8.toInt - 1 := (vX4_number_6 κ k0 r1 x2 r4 x6 x8 x9 hpre_1 hpre_2 hpre_5 hpre_6 hr1_0 hr1_1 ex2 tx2 c3 hr4_0 hr4_1 hr4_2 c5 ex6 tx6 c7 ex8 tx8 ex9)
        refine lv_istore (lv' := [(4, .int x9), (3, .int r1), (2, .int r1), (0, .ref (ad 2)), (1, .int k0)]) C.x C.b dX4_number_69 hl (by decide) rfl (fun ls hl => ?_)
        refine lv_iload C.x C.b dX4_number_71 (lv_at hl 0 rfl) ?_
        refine lv_iconst (v := 3) C.x C.b dX4_number_73 (by decide +kernel) ?_
        refine lv_icmp_le (tgt := 79) C.x C.b dX4_number_74 (by decide) (fun c10 => ?_) (fun c10 => ?_)
        · have c10 : x9.toInt ≤ 3 := by have h := z_le c10; rw [show (3 : Int32).toInt = 3 from by decide +kernel] at h; exact h
          refine lv_iload C.x C.b dX4_number_79 (lv_at hl 0 rfl) ?_
          refine lv_iconst (v := 1) C.x C.b dX4_number_81 (by decide +kernel) ?_
          refine lv_icmp_ne (tgt := 91) C.x C.b dX4_number_82 (by decide) (fun c11 => ?_) (fun c11 => ?_)
          · have c11 : ¬ x9.toInt = 1 := by have h := z_ne c11; rw [show (1 : Int32).toInt = 1 from by decide +kernel] at h; exact h
            refine lv_iload C.x C.b dX4_number_91 (lv_at hl 0 rfl) ?_
            refine lv_iconst (v := 2) C.x C.b dX4_number_93 (by decide +kernel) ?_
            refine lv_icmp_ne (tgt := 103) C.x C.b dX4_number_94 (by decide) (fun c12 => ?_) (fun c12 => ?_)
            · have c12 : ¬ x9.toInt = 2 := by have h := z_ne c12; rw [show (2 : Int32).toInt = 2 from by decide +kernel] at h; exact h
              refine lv_ldc2d (v := 4652007308841189376) C.x C.b C.o (C.w _ cw_499) dX4_number_103 ?_
              refine lv_dstore (lv' := [(5, .double (4652007308841189376 : UInt64)), (4, .int x9), (3, .int r1), (2, .int r1), (0, .ref (ad 2)), (1, .int k0)]) C.x C.b dX4_number_106 hl (by decide) rfl (fun ls hl => ?_)
              refine lv_aload_n C.x C.b dX4_number_108 rfl (lv_at hl 4 rfl) ?_
              refine lv_iload_n C.x C.b dX4_number_109 rfl (lv_at hl 3 rfl) ?_
              refine lv_iconst (v := 1) C.x C.b dX4_number_110 (by decide +kernel) ?_
              refine lv_iadd C.x C.b dX4_number_111 ?_
              refine lv_topi (fun x13 ex13 => ?_)
              have tx13 : x13.toInt = r1.toInt + 1 := (vX4_number_7 κ k0 r1 x2 r4 x6 x8 x9 x13 hpre_1 hpre_2 hpre_5 hpre_6 hr1_0 hr1_1 ex2 tx2 c3 hr4_0 hr4_1 hr4_2 c5 ex6 tx6 c7 ex8 tx8 ex9 tx9 c10 c11 c12 ex13)
              refine lv_iload_n C.x C.b dX4_number_112 rfl (lv_at hl 2 rfl) ?_
              refine lv_aload_n C.x C.b dX4_number_113 rfl (lv_at hl 4 rfl) ?_
              refine lv_iload_n C.x C.b dX4_number_114 rfl (lv_at hl 5 rfl) ?_
              refine lv_iload_n C.x C.b dX4_number_115 rfl (lv_at hl 3 rfl) ?_
              refine lv_iconst (v := 0) C.x C.b dX4_number_116 (by decide +kernel) ?_
              refine c_callVi (n := 3) (As := [.int k0, .int r1, .int 0]) (rest := [.int r1, .int x13, .ref (ad 2)]) C hP hS hl.1 (NX4_digits l D cy ad A sz0 sa κ H.size (SLT H) C.f (fun q h => C.a q (Nat.le_trans hS.1 h)) k0 r1 (0 : Int32) (vX4_number_8 κ k0 r1 x2 r4 x6 x8 x9 x13 hpre_0 hpre_1 hpre_2 hpre_5 hpre_6 hr1_0 hr1_1 ex2 tx2 c3 hr4_0 hr4_1 hr4_2 c5 ex6 tx6 c7 ex8 tx8 ex9 tx9 c10 c11 c12 ex13 tx13)) ⟨cw_504, cw_507, by decide +kernel⟩ ⟨cw_505, cw_506, cw_484⟩ rfl (hP.recvS (k := 2) (ci := 6) C.K rfl rfl) rfl rfl (lv_room (Nat.le_of_ble_eq_true rfl)) ⟨Nat.le_of_ble_eq_true rfl, Nat.le_of_ble_eq_true rfl⟩ ⟨(Nat.le_of_ble_eq_true rfl), (Nat.le_of_ble_eq_true rfl)⟩ dX4_number_117 (fun r14 u H locs hr14 hP hS => ?_)
              have hr14 : True := hr14
              refine c_callVi (n := 3) (As := [.int x13, .int r1, .int r14]) (rest := []) C hP hS hl.1 (NX4_digits l D cy ad A sz0 sa κ H.size (SLT H) C.f (fun q h => C.a q (Nat.le_trans hS.1 h)) x13 r1 r14 (vX4_number_9 κ k0 r1 x2 r4 x6 x8 x9 x13 hpre_0 hpre_1 hpre_2 hpre_5 hpre_6 hr1_0 hr1_1 ex2 tx2 c3 hr4_0 hr4_1 hr4_2 c5 ex6 tx6 c7 ex8 tx8 ex9 tx9 c10 c11 c12 ex13 tx13)) ⟨cw_504, cw_507, by decide +kernel⟩ ⟨cw_505, cw_506, cw_484⟩ rfl (hP.recvS (k := 2) (ci := 6) C.K rfl rfl) rfl rfl (lv_room (Nat.le_of_ble_eq_true rfl)) ⟨Nat.le_of_ble_eq_true rfl, Nat.le_of_ble_eq_true rfl⟩ ⟨(Nat.le_of_ble_eq_true rfl), (Nat.le_of_ble_eq_true rfl)⟩ dX4_number_120 (fun r15 u H locs hr15 hP hS => ?_)
              have hr15 : True := hr15
              refine lv_i2d C.x C.b dX4_number_123 ?_
              refine lv_topd (fun x16 ex16 => ?_)
              have fx16 : FN x16 := by rw [ex16]; exact fp_i2d _
              refine lv_dstore (lv' := [(7, .double x16), (5, .double (4652007308841189376 : UInt64)), (4, .int x9), (3, .int r1), (2, .int r1), (0, .ref (ad 2)), (1, .int k0)]) C.x C.b dX4_number_124 hl (by decide) rfl (fun ls hl => ?_)
              refine lv_aload_n C.x C.b dX4_number_126 rfl (lv_at hl 5 rfl) ?_
              refine lv_iconst (v := 1) C.x C.b dX4_number_127 (by decide +kernel) ?_
              refine lv_iload_n C.x C.b dX4_number_128 rfl (lv_at hl 6 rfl) ?_
              refine lv_iconst (v := 0) C.x C.b dX4_number_129 (by decide +kernel) ?_
              refine lv_dload C.x C.b dX4_number_130 (lv_at hl 0 rfl) ?_
              refine lv_dload C.x C.b dX4_number_132 (lv_at hl 1 rfl) ?_
              refine lv_ddiv C.x C.b dX4_number_134 (vX4_number_10 r15 x16 ex16 fx16) ?_
              refine lv_topd (fun x17 ex17 => ?_)
              refine c_callSq (C2 := "") (b := 0) (n := 1) (As := [.double x17]) (rest := [.int 0, .int k0, .int 1, .ref (ad 2)]) C hP hS hl.1 (NX10_ofReal l D cy ad A sz0 sa κ H.size (SLT H) C.f (fun q h => C.a q (Nat.le_trans hS.1 h)) x17 hPV (vX4_number_11 r15 x16 x17 ex16 fx16 ex17)) ⟨cw_513, cw_143, by decide +kernel⟩ ⟨cw_142, cw_40⟩ rfl rfl (lv_room (Nat.le_of_ble_eq_true rfl)) ⟨Nat.le_of_ble_eq_true rfl, Nat.le_of_ble_eq_true rfl⟩ ⟨(Nat.le_of_ble_eq_true rfl), (Nat.le_of_ble_eq_true rfl)⟩ dX4_number_135 (fun r18 u H locs hr18 hP hS => ?_)
              obtain ⟨P19, rfl⟩ : ∃ z, z = u := ⟨_, rfl⟩
              have hP : CH D cy ad A (tP κ P19) H := hP
              obtain ⟨hr18, hr18y⟩ := hr18
              have hr18y : ∀ q7 q8 : Nat → Option Nat, VALq P19 sa q7 q8 (r18.getD 0) (qReal x17) := hr18y
              have hr18 : (EX κ.2.2.2.2 P19) ∧ (PV sa P19) ∧ (KPx True κ.2.2.2.2 P19) ∧ (NN P19 1 r18) := hr18
              obtain ⟨hr18_0, hr18_1, hr18_2, hr18_3⟩ := hr18
              have kpz20 : KPx True κ.2.2.2.2 P19 := KPx.rf.trans hr18_2
              obtain ⟨b21, rfl, tb21⟩ := hr18_3
              have svz22 : SV ad P19 (κ.2.1 0) (κ.2.1 1) (κ.2.2.2.1 6) (κ.2.2.2.1 7) (κ.2.2.2.1 8) (κ.2.2.2.1 13) (κ.2.2.2.1 15) (κ.2.2.2.1 17) (κ.1 1).toInt := hSV.ex hr18_0
              refine c_callVv (n := 4) (As := [.int 1, .int k0, .int 0, .ref b21]) (rest := []) C hP hS hl.1 (NX4_add l D cy ad A sz0 sa (tP κ P19) H.size (SLT H) C.f (fun q h => C.a q (Nat.le_trans hS.1 h)) (1 : Int32) k0 (0 : Int32) (some b21) (nt_s tb21) svz22 (vX4_number_12 κ hpre_3 hpre_4)) ⟨cw_509, cw_512, by decide +kernel⟩ ⟨cw_510, cw_511, cw_484⟩ rfl (hP.recvS (k := 2) (ci := 6) C.K rfl rfl) rfl rfl (lv_room (Nat.le_of_ble_eq_true rfl)) ⟨Nat.le_of_ble_eq_true rfl, Nat.le_of_ble_eq_true rfl⟩ ⟨(Nat.le_of_ble_eq_true rfl), (Nat.le_of_ble_eq_true rfl)⟩ dX4_number_138 (fun u H locs hr23 hP hS => ?_)
              obtain ⟨n24, F25, F26, F27, Z28⟩ := u
              have hP : CH D cy ad A (tQ (tA (tA (tA (tI (tP κ P19) 7 n24) 10 F25) 11 F26) 12 F27) 13 Z28) H := hP
              obtain ⟨hr23, hr23y⟩ := hr23
              have hr23y : (κ.1 7).toInt < 41 → ADc (κ.2.2.1 10) (κ.2.2.1 11) (κ.2.2.1 12) (κ.1 7) F25 F26 F27 n24 (1 : Int32) k0 (0 : Int32) := hr23y
              have hr23 : (SV ad P19 (κ.2.1 0) (κ.2.1 1) (κ.2.2.2.1 6) (κ.2.2.2.1 7) (κ.2.2.2.1 8) Z28 (κ.2.2.2.1 15) (κ.2.2.2.1 17) (κ.1 1).toInt) ∧ (0 ≤ n24.toInt ∧ n24.toInt ≤ 41) := hr23
              obtain ⟨hr23_0, hr23_1⟩ := hr23
              obtain ⟨hr23_1_0, hr23_1_1⟩ := hr23_1
              refine lv_iload_n C.x C.b dX4_number_141 rfl (lv_at hl 3 rfl) ?_
              exact c_reti C hsz hsl ⟨P19, n24, F25, F26, F27, Z28⟩ ⟨⟨hr18_0, hr18_1, kpz20, hr23_0, (vX4_number_13 κ k0 r1 x2 r4 x6 x8 x9 x13 n24 hpre_1 hpre_2 hpre_5 hpre_6 hr1_0 hr1_1 ex2 tx2 c3 hr4_0 hr4_1 hr4_2 c5 ex6 tx6 c7 ex8 tx8 ex9 tx9 c10 c11 c12 ex13 tx13 hr23_1_0 hr23_1_1)⟩, (vX4_number_14 ad sa κ k0 r1 x2 r4 x6 x8 x9 x13 r15 x16 x17 P19 b21 n24 F25 F26 F27 hPV hSV hpre_0 hpre_1 hpre_2 hpre_3 hpre_4 hpre_5 hpre_6 hr1y hr1_0 hr1_1 ex2 tx2 c3 hr4y hr4_0 hr4_1 hr4_2 c5 ex6 tx6 c7 ex8 tx8 ex9 tx9 c10 c11 c12 ex13 tx13 ex16 fx16 ex17 hr18_0 hr18_2 hr18y hr23y hr23_1_0 hr23_1_1)⟩ hP hS ⟨(Nat.le_of_ble_eq_true rfl), (Nat.le_of_ble_eq_true rfl)⟩ ⟨(Nat.le_of_ble_eq_true rfl), (Nat.le_of_ble_eq_true rfl)⟩ dX4_number_142
            · have c12 : x9.toInt = 2 := by have h := z_eq c12; rw [show (2 : Int32).toInt = 2 from by decide +kernel] at h; exact h
              refine lv_ldc2d (v := 4636737291354636288) C.x C.b C.o (C.w _ cw_498) dX4_number_97 ?_
              refine lv_goto (tgt := 106) C.x C.b dX4_number_100 (by decide) ?_
              refine lv_dstore (lv' := [(5, .double (4636737291354636288 : UInt64)), (4, .int x9), (3, .int r1), (2, .int r1), (0, .ref (ad 2)), (1, .int k0)]) C.x C.b dX4_number_106 hl (by decide) rfl (fun ls hl => ?_)
              refine lv_aload_n C.x C.b dX4_number_108 rfl (lv_at hl 4 rfl) ?_
              refine lv_iload_n C.x C.b dX4_number_109 rfl (lv_at hl 3 rfl) ?_
              refine lv_iconst (v := 1) C.x C.b dX4_number_110 (by decide +kernel) ?_
              refine lv_iadd C.x C.b dX4_number_111 ?_
              refine lv_topi (fun x29 ex29 => ?_)
              have tx29 : x29.toInt = r1.toInt + 1 := (vX4_number_15 κ k0 r1 x2 r4 x6 x8 x9 x29 hpre_1 hpre_2 hpre_5 hpre_6 hr1_0 hr1_1 ex2 tx2 c3 hr4_0 hr4_1 hr4_2 c5 ex6 tx6 c7 ex8 tx8 ex9 tx9 c10 c11 c12 ex29)
              refine lv_iload_n C.x C.b dX4_number_112 rfl (lv_at hl 2 rfl) ?_
              refine lv_aload_n C.x C.b dX4_number_113 rfl (lv_at hl 4 rfl) ?_
              refine lv_iload_n C.x C.b dX4_number_114 rfl (lv_at hl 5 rfl) ?_
              refine lv_iload_n C.x C.b dX4_number_115 rfl (lv_at hl 3 rfl) ?_
              refine lv_iconst (v := 0) C.x C.b dX4_number_116 (by decide +kernel) ?_
              refine c_callVi (n := 3) (As := [.int k0, .int r1, .int 0]) (rest := [.int r1, .int x29, .ref (ad 2)]) C hP hS hl.1 (NX4_digits l D cy ad A sz0 sa κ H.size (SLT H) C.f (fun q h => C.a q (Nat.le_trans hS.1 h)) k0 r1 (0 : Int32) (vX4_number_16 κ k0 r1 x2 r4 x6 x8 x9 x29 hpre_0 hpre_1 hpre_2 hpre_5 hpre_6 hr1_0 hr1_1 ex2 tx2 c3 hr4_0 hr4_1 hr4_2 c5 ex6 tx6 c7 ex8 tx8 ex9 tx9 c10 c11 c12 ex29 tx29)) ⟨cw_504, cw_507, by decide +kernel⟩ ⟨cw_505, cw_506, cw_484⟩ rfl (hP.recvS (k := 2) (ci := 6) C.K rfl rfl) rfl rfl (lv_room (Nat.le_of_ble_eq_true rfl)) ⟨Nat.le_of_ble_eq_true rfl, Nat.le_of_ble_eq_true rfl⟩ ⟨(Nat.le_of_ble_eq_true rfl), (Nat.le_of_ble_eq_true rfl)⟩ dX4_number_117 (fun r30 u H locs hr30 hP hS => ?_)
              have hr30 : True := hr30
              refine c_callVi (n := 3) (As := [.int x29, .int r1, .int r30]) (rest := []) C hP hS hl.1 (NX4_digits l D cy ad A sz0 sa κ H.size (SLT H) C.f (fun q h => C.a q (Nat.le_trans hS.1 h)) x29 r1 r30 (vX4_number_17 κ k0 r1 x2 r4 x6 x8 x9 x29 hpre_0 hpre_1 hpre_2 hpre_5 hpre_6 hr1_0 hr1_1 ex2 tx2 c3 hr4_0 hr4_1 hr4_2 c5 ex6 tx6 c7 ex8 tx8 ex9 tx9 c10 c11 c12 ex29 tx29)) ⟨cw_504, cw_507, by decide +kernel⟩ ⟨cw_505, cw_506, cw_484⟩ rfl (hP.recvS (k := 2) (ci := 6) C.K rfl rfl) rfl rfl (lv_room (Nat.le_of_ble_eq_true rfl)) ⟨Nat.le_of_ble_eq_true rfl, Nat.le_of_ble_eq_true rfl⟩ ⟨(Nat.le_of_ble_eq_true rfl), (Nat.le_of_ble_eq_true rfl)⟩ dX4_number_120 (fun r31 u H locs hr31 hP hS => ?_)
              have hr31 : True := hr31
              refine lv_i2d C.x C.b dX4_number_123 ?_
              refine lv_topd (fun x32 ex32 => ?_)
              have fx32 : FN x32 := by rw [ex32]; exact fp_i2d _
              refine lv_dstore (lv' := [(7, .double x32), (5, .double (4636737291354636288 : UInt64)), (4, .int x9), (3, .int r1), (2, .int r1), (0, .ref (ad 2)), (1, .int k0)]) C.x C.b dX4_number_124 hl (by decide) rfl (fun ls hl => ?_)
              refine lv_aload_n C.x C.b dX4_number_126 rfl (lv_at hl 5 rfl) ?_
              refine lv_iconst (v := 1) C.x C.b dX4_number_127 (by decide +kernel) ?_
              refine lv_iload_n C.x C.b dX4_number_128 rfl (lv_at hl 6 rfl) ?_
              refine lv_iconst (v := 0) C.x C.b dX4_number_129 (by decide +kernel) ?_
              refine lv_dload C.x C.b dX4_number_130 (lv_at hl 0 rfl) ?_
              refine lv_dload C.x C.b dX4_number_132 (lv_at hl 1 rfl) ?_
              refine lv_ddiv C.x C.b dX4_number_134 (vX4_number_18 r31 x32 ex32 fx32) ?_
              refine lv_topd (fun x33 ex33 => ?_)
              refine c_callSq (C2 := "") (b := 0) (n := 1) (As := [.double x33]) (rest := [.int 0, .int k0, .int 1, .ref (ad 2)]) C hP hS hl.1 (NX10_ofReal l D cy ad A sz0 sa κ H.size (SLT H) C.f (fun q h => C.a q (Nat.le_trans hS.1 h)) x33 hPV (vX4_number_19 r31 x32 x33 ex32 fx32 ex33)) ⟨cw_513, cw_143, by decide +kernel⟩ ⟨cw_142, cw_40⟩ rfl rfl (lv_room (Nat.le_of_ble_eq_true rfl)) ⟨Nat.le_of_ble_eq_true rfl, Nat.le_of_ble_eq_true rfl⟩ ⟨(Nat.le_of_ble_eq_true rfl), (Nat.le_of_ble_eq_true rfl)⟩ dX4_number_135 (fun r34 u H locs hr34 hP hS => ?_)
              obtain ⟨P35, rfl⟩ : ∃ z, z = u := ⟨_, rfl⟩
              have hP : CH D cy ad A (tP κ P35) H := hP
              obtain ⟨hr34, hr34y⟩ := hr34
              have hr34y : ∀ q7 q8 : Nat → Option Nat, VALq P35 sa q7 q8 (r34.getD 0) (qReal x33) := hr34y
              have hr34 : (EX κ.2.2.2.2 P35) ∧ (PV sa P35) ∧ (KPx True κ.2.2.2.2 P35) ∧ (NN P35 1 r34) := hr34
              obtain ⟨hr34_0, hr34_1, hr34_2, hr34_3⟩ := hr34
              have kpz36 : KPx True κ.2.2.2.2 P35 := KPx.rf.trans hr34_2
              obtain ⟨b37, rfl, tb37⟩ := hr34_3
              have svz38 : SV ad P35 (κ.2.1 0) (κ.2.1 1) (κ.2.2.2.1 6) (κ.2.2.2.1 7) (κ.2.2.2.1 8) (κ.2.2.2.1 13) (κ.2.2.2.1 15) (κ.2.2.2.1 17) (κ.1 1).toInt := hSV.ex hr34_0
              refine c_callVv (n := 4) (As := [.int 1, .int k0, .int 0, .ref b37]) (rest := []) C hP hS hl.1 (NX4_add l D cy ad A sz0 sa (tP κ P35) H.size (SLT H) C.f (fun q h => C.a q (Nat.le_trans hS.1 h)) (1 : Int32) k0 (0 : Int32) (some b37) (nt_s tb37) svz38 (vX4_number_12 κ hpre_3 hpre_4)) ⟨cw_509, cw_512, by decide +kernel⟩ ⟨cw_510, cw_511, cw_484⟩ rfl (hP.recvS (k := 2) (ci := 6) C.K rfl rfl) rfl rfl (lv_room (Nat.le_of_ble_eq_true rfl)) ⟨Nat.le_of_ble_eq_true rfl, Nat.le_of_ble_eq_true rfl⟩ ⟨(Nat.le_of_ble_eq_true rfl), (Nat.le_of_ble_eq_true rfl)⟩ dX4_number_138 (fun u H locs hr39 hP hS => ?_)
              obtain ⟨n40, F41, F42, F43, Z44⟩ := u
              have hP : CH D cy ad A (tQ (tA (tA (tA (tI (tP κ P35) 7 n40) 10 F41) 11 F42) 12 F43) 13 Z44) H := hP
              obtain ⟨hr39, hr39y⟩ := hr39
              have hr39y : (κ.1 7).toInt < 41 → ADc (κ.2.2.1 10) (κ.2.2.1 11) (κ.2.2.1 12) (κ.1 7) F41 F42 F43 n40 (1 : Int32) k0 (0 : Int32) := hr39y
              have hr39 : (SV ad P35 (κ.2.1 0) (κ.2.1 1) (κ.2.2.2.1 6) (κ.2.2.2.1 7) (κ.2.2.2.1 8) Z44 (κ.2.2.2.1 15) (κ.2.2.2.1 17) (κ.1 1).toInt) ∧ (0 ≤ n40.toInt ∧ n40.toInt ≤ 41) := hr39
              obtain ⟨hr39_0, hr39_1⟩ := hr39
              obtain ⟨hr39_1_0, hr39_1_1⟩ := hr39_1
              refine lv_iload_n C.x C.b dX4_number_141 rfl (lv_at hl 3 rfl) ?_
              exact c_reti C hsz hsl ⟨P35, n40, F41, F42, F43, Z44⟩ ⟨⟨hr34_0, hr34_1, kpz36, hr39_0, (vX4_number_20 κ k0 r1 x2 r4 x6 x8 x9 x29 n40 hpre_1 hpre_2 hpre_5 hpre_6 hr1_0 hr1_1 ex2 tx2 c3 hr4_0 hr4_1 hr4_2 c5 ex6 tx6 c7 ex8 tx8 ex9 tx9 c10 c11 c12 ex29 tx29 hr39_1_0 hr39_1_1)⟩, (vX4_number_21 ad sa κ k0 r1 x2 r4 x6 x8 x9 x29 r31 x32 x33 P35 b37 n40 F41 F42 F43 hPV hSV hpre_0 hpre_1 hpre_2 hpre_3 hpre_4 hpre_5 hpre_6 hr1y hr1_0 hr1_1 ex2 tx2 c3 hr4y hr4_0 hr4_1 hr4_2 c5 ex6 tx6 c7 ex8 tx8 ex9 tx9 c10 c11 c12 ex29 tx29 ex32 fx32 ex33 hr34_0 hr34_2 hr34y hr39y hr39_1_0 hr39_1_1)⟩ hP hS ⟨(Nat.le_of_ble_eq_true rfl), (Nat.le_of_ble_eq_true rfl)⟩ ⟨(Nat.le_of_ble_eq_true rfl), (Nat.le_of_ble_eq_true rfl)⟩ dX4_number_142
          · have c11 : x9.toInt = 1 := by have h := z_eq c11; rw [show (1 : Int32).toInt = 1 from by decide +kernel] at h; exact h
            refine lv_ldc2d (v := 4621819117588971520) C.x C.b C.o (C.w _ cw_497) dX4_number_85 ?_
            refine lv_goto (tgt := 106) C.x C.b dX4_number_88 (by decide) ?_
            refine lv_dstore (lv' := [(5, .double (4621819117588971520 : UInt64)), (4, .int x9), (3, .int r1), (2, .int r1), (0, .ref (ad 2)), (1, .int k0)]) C.x C.b dX4_number_106 hl (by decide) rfl (fun ls hl => ?_)
            refine lv_aload_n C.x C.b dX4_number_108 rfl (lv_at hl 4 rfl) ?_
            refine lv_iload_n C.x C.b dX4_number_109 rfl (lv_at hl 3 rfl) ?_
            refine lv_iconst (v := 1) C.x C.b dX4_number_110 (by decide +kernel) ?_
            refine lv_iadd C.x C.b dX4_number_111 ?_
            refine lv_topi (fun x45 ex45 => ?_)
            have tx45 : x45.toInt = r1.toInt + 1 := (vX4_number_22 κ k0 r1 x2 r4 x6 x8 x9 x45 hpre_1 hpre_2 hpre_5 hpre_6 hr1_0 hr1_1 ex2 tx2 c3 hr4_0 hr4_1 hr4_2 c5 ex6 tx6 c7 ex8 tx8 ex9 tx9 c10 c11 ex45)
            refine lv_iload_n C.x C.b dX4_number_112 rfl (lv_at hl 2 rfl) ?_
            refine lv_aload_n C.x C.b dX4_number_113 rfl (lv_at hl 4 rfl) ?_
            refine lv_iload_n C.x C.b dX4_number_114 rfl (lv_at hl 5 rfl) ?_
            refine lv_iload_n C.x C.b dX4_number_115 rfl (lv_at hl 3 rfl) ?_
            refine lv_iconst (v := 0) C.x C.b dX4_number_116 (by decide +kernel) ?_
            refine c_callVi (n := 3) (As := [.int k0, .int r1, .int 0]) (rest := [.int r1, .int x45, .ref (ad 2)]) C hP hS hl.1 (NX4_digits l D cy ad A sz0 sa κ H.size (SLT H) C.f (fun q h => C.a q (Nat.le_trans hS.1 h)) k0 r1 (0 : Int32) (vX4_number_23 κ k0 r1 x2 r4 x6 x8 x9 x45 hpre_0 hpre_1 hpre_2 hpre_5 hpre_6 hr1_0 hr1_1 ex2 tx2 c3 hr4_0 hr4_1 hr4_2 c5 ex6 tx6 c7 ex8 tx8 ex9 tx9 c10 c11 ex45 tx45)) ⟨cw_504, cw_507, by decide +kernel⟩ ⟨cw_505, cw_506, cw_484⟩ rfl (hP.recvS (k := 2) (ci := 6) C.K rfl rfl) rfl rfl (lv_room (Nat.le_of_ble_eq_true rfl)) ⟨Nat.le_of_ble_eq_true rfl, Nat.le_of_ble_eq_true rfl⟩ ⟨(Nat.le_of_ble_eq_true rfl), (Nat.le_of_ble_eq_true rfl)⟩ dX4_number_117 (fun r46 u H locs hr46 hP hS => ?_)
            have hr46 : True := hr46
            refine c_callVi (n := 3) (As := [.int x45, .int r1, .int r46]) (rest := []) C hP hS hl.1 (NX4_digits l D cy ad A sz0 sa κ H.size (SLT H) C.f (fun q h => C.a q (Nat.le_trans hS.1 h)) x45 r1 r46 (vX4_number_24 κ k0 r1 x2 r4 x6 x8 x9 x45 hpre_0 hpre_1 hpre_2 hpre_5 hpre_6 hr1_0 hr1_1 ex2 tx2 c3 hr4_0 hr4_1 hr4_2 c5 ex6 tx6 c7 ex8 tx8 ex9 tx9 c10 c11 ex45 tx45)) ⟨cw_504, cw_507, by decide +kernel⟩ ⟨cw_505, cw_506, cw_484⟩ rfl (hP.recvS (k := 2) (ci := 6) C.K rfl rfl) rfl rfl (lv_room (Nat.le_of_ble_eq_true rfl)) ⟨Nat.le_of_ble_eq_true rfl, Nat.le_of_ble_eq_true rfl⟩ ⟨(Nat.le_of_ble_eq_true rfl), (Nat.le_of_ble_eq_true rfl)⟩ dX4_number_120 (fun r47 u H locs hr47 hP hS => ?_)
            have hr47 : True := hr47
            refine lv_i2d C.x C.b dX4_number_123 ?_
            refine lv_topd (fun x48 ex48 => ?_)
            have fx48 : FN x48 := by rw [ex48]; exact fp_i2d _
            refine lv_dstore (lv' := [(7, .double x48), (5, .double (4621819117588971520 : UInt64)), (4, .int x9), (3, .int r1), (2, .int r1), (0, .ref (ad 2)), (1, .int k0)]) C.x C.b dX4_number_124 hl (by decide) rfl (fun ls hl => ?_)
            refine lv_aload_n C.x C.b dX4_number_126 rfl (lv_at hl 5 rfl) ?_
            refine lv_iconst (v := 1) C.x C.b dX4_number_127 (by decide +kernel) ?_
            refine lv_iload_n C.x C.b dX4_number_128 rfl (lv_at hl 6 rfl) ?_
            refine lv_iconst (v := 0) C.x C.b dX4_number_129 (by decide +kernel) ?_
            refine lv_dload C.x C.b dX4_number_130 (lv_at hl 0 rfl) ?_
            refine lv_dload C.x C.b dX4_number_132 (lv_at hl 1 rfl) ?_
            refine lv_ddiv C.x C.b dX4_number_134 (vX4_number_25 r47 x48 ex48 fx48) ?_
            refine lv_topd (fun x49 ex49 => ?_)
            refine c_callSq (C2 := "") (b := 0) (n := 1) (As := [.double x49]) (rest := [.int 0, .int k0, .int 1, .ref (ad 2)]) C hP hS hl.1 (NX10_ofReal l D cy ad A sz0 sa κ H.size (SLT H) C.f (fun q h => C.a q (Nat.le_trans hS.1 h)) x49 hPV (vX4_number_26 r47 x48 x49 ex48 fx48 ex49)) ⟨cw_513, cw_143, by decide +kernel⟩ ⟨cw_142, cw_40⟩ rfl rfl (lv_room (Nat.le_of_ble_eq_true rfl)) ⟨Nat.le_of_ble_eq_true rfl, Nat.le_of_ble_eq_true rfl⟩ ⟨(Nat.le_of_ble_eq_true rfl), (Nat.le_of_ble_eq_true rfl)⟩ dX4_number_135 (fun r50 u H locs hr50 hP hS => ?_)
            obtain ⟨P51, rfl⟩ : ∃ z, z = u := ⟨_, rfl⟩
            have hP : CH D cy ad A (tP κ P51) H := hP
            obtain ⟨hr50, hr50y⟩ := hr50
            have hr50y : ∀ q7 q8 : Nat → Option Nat, VALq P51 sa q7 q8 (r50.getD 0) (qReal x49) := hr50y
            have hr50 : (EX κ.2.2.2.2 P51) ∧ (PV sa P51) ∧ (KPx True κ.2.2.2.2 P51) ∧ (NN P51 1 r50) := hr50
            obtain ⟨hr50_0, hr50_1, hr50_2, hr50_3⟩ := hr50
            have kpz52 : KPx True κ.2.2.2.2 P51 := KPx.rf.trans hr50_2
            obtain ⟨b53, rfl, tb53⟩ := hr50_3
            have svz54 : SV ad P51 (κ.2.1 0) (κ.2.1 1) (κ.2.2.2.1 6) (κ.2.2.2.1 7) (κ.2.2.2.1 8) (κ.2.2.2.1 13) (κ.2.2.2.1 15) (κ.2.2.2.1 17) (κ.1 1).toInt := hSV.ex hr50_0
            refine c_callVv (n := 4) (As := [.int 1, .int k0, .int 0, .ref b53]) (rest := []) C hP hS hl.1 (NX4_add l D cy ad A sz0 sa (tP κ P51) H.size (SLT H) C.f (fun q h => C.a q (Nat.le_trans hS.1 h)) (1 : Int32) k0 (0 : Int32) (some b53) (nt_s tb53) svz54 (vX4_number_12 κ hpre_3 hpre_4)) ⟨cw_509, cw_512, by decide +kernel⟩ ⟨cw_510, cw_511, cw_484⟩ rfl (hP.recvS (k := 2) (ci := 6) C.K rfl rfl) rfl rfl (lv_room (Nat.le_of_ble_eq_true rfl)) ⟨Nat.le_of_ble_eq_true rfl, Nat.le_of_ble_eq_true rfl⟩ ⟨(Nat.le_of_ble_eq_true rfl), (Nat.le_of_ble_eq_true rfl)⟩ dX4_number_138 (fun u H locs hr55 hP hS => ?_)
            obtain ⟨n56, F57, F58, F59, Z60⟩ := u
            have hP : CH D cy ad A (tQ (tA (tA (tA (tI (tP κ P51) 7 n56) 10 F57) 11 F58) 12 F59) 13 Z60) H := hP
            obtain ⟨hr55, hr55y⟩ := hr55
            have hr55y : (κ.1 7).toInt < 41 → ADc (κ.2.2.1 10) (κ.2.2.1 11) (κ.2.2.1 12) (κ.1 7) F57 F58 F59 n56 (1 : Int32) k0 (0 : Int32) := hr55y
            have hr55 : (SV ad P51 (κ.2.1 0) (κ.2.1 1) (κ.2.2.2.1 6) (κ.2.2.2.1 7) (κ.2.2.2.1 8) Z60 (κ.2.2.2.1 15) (κ.2.2.2.1 17) (κ.1 1).toInt) ∧ (0 ≤ n56.toInt ∧ n56.toInt ≤ 41) := hr55
            obtain ⟨hr55_0, hr55_1⟩ := hr55
            obtain ⟨hr55_1_0, hr55_1_1⟩ := hr55_1
            refine lv_iload_n C.x C.b dX4_number_141 rfl (lv_at hl 3 rfl) ?_
            exact c_reti C hsz hsl ⟨P51, n56, F57, F58, F59, Z60⟩ ⟨⟨hr50_0, hr50_1, kpz52, hr55_0, (vX4_number_27 κ k0 r1 x2 r4 x6 x8 x9 x45 n56 hpre_1 hpre_2 hpre_5 hpre_6 hr1_0 hr1_1 ex2 tx2 c3 hr4_0 hr4_1 hr4_2 c5 ex6 tx6 c7 ex8 tx8 ex9 tx9 c10 c11 ex45 tx45 hr55_1_0 hr55_1_1)⟩, (vX4_number_28 ad sa κ k0 r1 x2 r4 x6 x8 x9 x45 r47 x48 x49 P51 b53 n56 F57 F58 F59 hPV hSV hpre_0 hpre_1 hpre_2 hpre_3 hpre_4 hpre_5 hpre_6 hr1y hr1_0 hr1_1 ex2 tx2 c3 hr4y hr4_0 hr4_1 hr4_2 c5 ex6 tx6 c7 ex8 tx8 ex9 tx9 c10 c11 ex45 tx45 ex48 fx48 ex49 hr50_0 hr50_2 hr50y hr55y hr55_1_0 hr55_1_1)⟩ hP hS ⟨(Nat.le_of_ble_eq_true rfl), (Nat.le_of_ble_eq_true rfl)⟩ ⟨(Nat.le_of_ble_eq_true rfl), (Nat.le_of_ble_eq_true rfl)⟩ dX4_number_142
        · have c10 : 3 < x9.toInt := by have h := z_nle c10; rw [show (3 : Int32).toInt = 3 from by decide +kernel] at h; exact h
          refine lv_iconst (v := (-1)) C.x C.b dX4_number_77 (by decide +kernel) ?_
          have hP : CH D cy ad A (tQ (tA (tA (tA (tI (tP κ κ.2.2.2.2) 7 (κ.1 7)) 10 (κ.2.2.1 10)) 11 (κ.2.2.1 11)) 12 (κ.2.2.1 12)) 13 (κ.2.2.2.1 13)) H := CH.cong hP rfl rfl rfl rfl rfl rfl rfl rfl rfl rfl rfl rfl rfl rfl rfl rfl rfl rfl rfl rfl rfl rfl rfl rfl rfl rfl rfl
          exact c_reti C hsz hsl ⟨κ.2.2.2.2, (κ.1 7), (κ.2.2.1 10), (κ.2.2.1 11), (κ.2.2.1 12), (κ.2.2.2.1 13)⟩ ⟨⟨EX.rf, hPV, KPx.rf, hSV, (vX4_number_29 κ hpre_3 hpre_4)⟩, (vX4_number_30 ad sa κ k0 r1 x2 r4 x6 x8 x9 hPV hSV hpre_0 hpre_1 hpre_2 hpre_3 hpre_4 hpre_5 hpre_6 hr1y hr1_0 hr1_1 ex2 tx2 c3 hr4y hr4_0 hr4_1 hr4_2 c5 ex6 tx6 c7 ex8 tx8 ex9 tx9 c10)⟩ hP hS ⟨(Nat.le_of_ble_eq_true rfl), (Nat.le_of_ble_eq_true rfl)⟩ ⟨(Nat.le_of_ble_eq_true rfl), (Nat.le_of_ble_eq_true rfl)⟩ dX4_number_78
      · have c7 : r1.toInt ≤ x6.toInt := by have h := z_nlt c7; exact h
        refine lv_aload_n C.x C.b dX4_number_45 rfl (lv_at hl 2 rfl) ?_
        refine lv_iconst (v := 1) C.x C.b dX4_number_46 (by decide +kernel) ?_
        refine lv_iload_n C.x C.b dX4_number_47 rfl (lv_at hl 3 rfl) ?_
        refine lv_iconst (v := 0) C.x C.b dX4_number_48 (by decide +kernel) ?_
        refine lv_aload_n C.x C.b dX4_number_49 rfl (lv_at hl 2 rfl) ?_
        refine lv_iload_n C.x C.b dX4_number_50 rfl (lv_at hl 3 rfl) ?_
        refine lv_iload_n C.x C.b dX4_number_51 rfl (lv_at hl 1 rfl) ?_
        refine lv_iconst (v := 0) C.x C.b dX4_number_52 (by decide +kernel) ?_
        refine c_callVi (n := 3) (As := [.int k0, .int r1, .int 0]) (rest := [.int 0, .int k0, .int 1, .ref (ad 2)]) C hP hS hl.1 (NX4_digits l D cy ad A sz0 sa κ H.size (SLT H) C.f (fun q h => C.a q (Nat.le_trans hS.1 h)) k0 r1 (0 : Int32) (vX4_number_31 κ k0 r1 x2 r4 x6 hpre_0 hpre_1 hpre_2 hpre_5 hpre_6 hr1_0 hr1_1 ex2 tx2 c3 hr4_0 hr4_1 hr4_2 c5 ex6 tx6 c7)) ⟨cw_504, cw_507, by decide +kernel⟩ ⟨cw_505, cw_506, cw_484⟩ rfl (hP.recvS (k := 2) (ci := 6) C.K rfl rfl) rfl rfl (lv_room (Nat.le_of_ble_eq_true rfl)) ⟨Nat.le_of_ble_eq_true rfl, Nat.le_of_ble_eq_true rfl⟩ ⟨(Nat.le_of_ble_eq_true rfl), (Nat.le_of_ble_eq_true rfl)⟩ dX4_number_53 (fun r61 u H locs hr61 hP hS => ?_)
        have hr61 : True := hr61
        refine c_callSq (C2 := "") (b := 0) (n := 1) (As := [.int r61]) (rest := [.int 0, .int k0, .int 1, .ref (ad 2)]) C hP hS hl.1 (NX10_ofInt l D cy ad A sz0 sa κ H.size (SLT H) C.f (fun q h => C.a q (Nat.le_trans hS.1 h)) r61 hPV) ⟨cw_508, cw_97, by decide +kernel⟩ ⟨cw_96, cw_40⟩ rfl rfl (lv_room (Nat.le_of_ble_eq_true rfl)) ⟨Nat.le_of_ble_eq_true rfl, Nat.le_of_ble_eq_true rfl⟩ ⟨(Nat.le_of_ble_eq_true rfl), (Nat.le_of_ble_eq_true rfl)⟩ dX4_number_56 (fun r62 u H locs hr62 hP hS => ?_)
        obtain ⟨P63, rfl⟩ : ∃ z, z = u := ⟨_, rfl⟩
        have hP : CH D cy ad A (tP κ P63) H := hP
        obtain ⟨hr62, hr62y⟩ := hr62
        have hr62y : ∀ q7 q8 : Nat → Option Nat, VALq P63 sa q7 q8 (r62.getD 0) (qInt r61) := hr62y
        have hr62 : (EX κ.2.2.2.2 P63) ∧ (PV sa P63) ∧ (KPx True κ.2.2.2.2 P63) ∧ (NN P63 1 r62) := hr62
        obtain ⟨hr62_0, hr62_1, hr62_2, hr62_3⟩ := hr62
        have kpz64 : KPx True κ.2.2.2.2 P63 := KPx.rf.trans hr62_2
        obtain ⟨b65, rfl, tb65⟩ := hr62_3
        have svz66 : SV ad P63 (κ.2.1 0) (κ.2.1 1) (κ.2.2.2.1 6) (κ.2.2.2.1 7) (κ.2.2.2.1 8) (κ.2.2.2.1 13) (κ.2.2.2.1 15) (κ.2.2.2.1 17) (κ.1 1).toInt := hSV.ex hr62_0
        refine c_callVv (n := 4) (As := [.int 1, .int k0, .int 0, .ref b65]) (rest := []) C hP hS hl.1 (NX4_add l D cy ad A sz0 sa (tP κ P63) H.size (SLT H) C.f (fun q h => C.a q (Nat.le_trans hS.1 h)) (1 : Int32) k0 (0 : Int32) (some b65) (nt_s tb65) svz66 (vX4_number_12 κ hpre_3 hpre_4)) ⟨cw_509, cw_512, by decide +kernel⟩ ⟨cw_510, cw_511, cw_484⟩ rfl (hP.recvS (k := 2) (ci := 6) C.K rfl rfl) rfl rfl (lv_room (Nat.le_of_ble_eq_true rfl)) ⟨Nat.le_of_ble_eq_true rfl, Nat.le_of_ble_eq_true rfl⟩ ⟨(Nat.le_of_ble_eq_true rfl), (Nat.le_of_ble_eq_true rfl)⟩ dX4_number_59 (fun u H locs hr67 hP hS => ?_)
        obtain ⟨n68, F69, F70, F71, Z72⟩ := u
        have hP : CH D cy ad A (tQ (tA (tA (tA (tI (tP κ P63) 7 n68) 10 F69) 11 F70) 12 F71) 13 Z72) H := hP
        obtain ⟨hr67, hr67y⟩ := hr67
        have hr67y : (κ.1 7).toInt < 41 → ADc (κ.2.2.1 10) (κ.2.2.1 11) (κ.2.2.1 12) (κ.1 7) F69 F70 F71 n68 (1 : Int32) k0 (0 : Int32) := hr67y
        have hr67 : (SV ad P63 (κ.2.1 0) (κ.2.1 1) (κ.2.2.2.1 6) (κ.2.2.2.1 7) (κ.2.2.2.1 8) Z72 (κ.2.2.2.1 15) (κ.2.2.2.1 17) (κ.1 1).toInt) ∧ (0 ≤ n68.toInt ∧ n68.toInt ≤ 41) := hr67
        obtain ⟨hr67_0, hr67_1⟩ := hr67
        obtain ⟨hr67_1_0, hr67_1_1⟩ := hr67_1
        refine lv_iload_n C.x C.b dX4_number_62 rfl (lv_at hl 1 rfl) ?_
        exact c_reti C hsz hsl ⟨P63, n68, F69, F70, F71, Z72⟩ ⟨⟨hr62_0, hr62_1, kpz64, hr67_0, (vX4_number_32 κ k0 r1 x2 r4 x6 n68 hpre_1 hpre_2 hpre_5 hpre_6 hr1_0 hr1_1 ex2 tx2 c3 hr4_0 hr4_1 hr4_2 c5 ex6 tx6 c7 hr67_1_0 hr67_1_1)⟩, (vX4_number_33 ad sa κ k0 r1 x2 r4 x6 r61 P63 b65 n68 F69 F70 F71 hPV hSV hpre_0 hpre_1 hpre_2 hpre_3 hpre_4 hpre_5 hpre_6 hr1y hr1_0 hr1_1 ex2 tx2 c3 hr4y hr4_0 hr4_1 hr4_2 c5 ex6 tx6 c7 hr62_0 hr62_2 hr62y hr67y hr67_1_0 hr67_1_1)⟩ hP hS ⟨(Nat.le_of_ble_eq_true rfl), (Nat.le_of_ble_eq_true rfl)⟩ ⟨(Nat.le_of_ble_eq_true rfl), (Nat.le_of_ble_eq_true rfl)⟩ dX4_number_63
    · have c5 : r4.toInt = 46 := by have h := z_eq c5; rw [show (46 : Int32).toInt = 46 from by decide +kernel] at h; exact h
      refine lv_aload_n C.x C.b dX4_number_26 rfl (lv_at hl 1 rfl) ?_
      refine lv_iload_n C.x C.b dX4_number_27 rfl (lv_at hl 0 rfl) ?_
      refine lv_iconst (v := 1) C.x C.b dX4_number_28 (by decide +kernel) ?_
      refine lv_iadd C.x C.b dX4_number_29 ?_
      refine lv_topi (fun x73 ex73 => ?_)
      have tx73 : x73.toInt = r1.toInt + 1 := (vX4_number_34 κ k0 r1 x2 r4 x73 hpre_1 hpre_2 hpre_5 hpre_6 hr1_0 hr1_1 ex2 tx2 c3 hr4_0 hr4_1 hr4_2 c5 ex73)
      refine c_callVi (n := 1) (As := [.int x73]) (rest := []) C hP hS hl.1 (NX4_endOfDigits l D cy ad A sz0 sa κ H.size (SLT H) C.f (fun q h => C.a q (Nat.le_trans hS.1 h)) x73 (vX4_number_35 κ k0 r1 x2 r4 x73 hpre_0 hpre_1 hpre_2 hpre_5 hpre_6 hr1_0 hr1_1 ex2 tx2 c3 hr4_0 hr4_1 hr4_2 c5 ex73 tx73)) ⟨cw_500, cw_503, by decide +kernel⟩ ⟨cw_501, cw_502, cw_484⟩ rfl (hP.recvS (k := 2) (ci := 6) C.K rfl rfl) rfl rfl (lv_room (Nat.le_of_ble_eq_true rfl)) ⟨Nat.le_of_ble_eq_true rfl, Nat.le_of_ble_eq_true rfl⟩ ⟨(Nat.le_of_ble_eq_true rfl), (Nat.le_of_ble_eq_true rfl)⟩ dX4_number_30 (fun r74 u H locs hr74 hP hS => ?_)
      obtain ⟨hr74, hr74y⟩ := hr74
      have hr74y : (κ.1 6).toInt ≤ 40 → RT dg (tx (κ.2.2.1 9) (κ.1 6)) x73.toInt r74.toInt ∧ ¬ dg (tx (κ.2.2.1 9) (κ.1 6) r74.toInt) := hr74y
      have hr74 : (x73.toInt ≤ r74.toInt ∧ r74.toInt ≤ max x73.toInt (κ.1 6).toInt) := hr74
      obtain ⟨hr74_0, hr74_1⟩ := hr74
      refine lv_goto (tgt := 37) C.x C.b dX4_number_33 (by decide) ?_
      refine lv_istore_n (lv' := [(3, .int r74), (2, .int r1), (0, .ref (ad 2)), (1, .int k0)]) C.x C.b dX4_number_37 rfl hl (by decide) rfl (fun ls hl => ?_)
      refine lv_iload_n C.x C.b dX4_number_38 rfl (lv_at hl 0 rfl) ?_
      refine lv_iload_n C.x C.b dX4_number_39 rfl (lv_at hl 1 rfl) ?_
      refine lv_iconst (v := 1) C.x C.b dX4_number_40 (by decide +kernel) ?_
      refine lv_iadd C.x C.b dX4_number_41 ?_
      refine lv_topi (fun x75 ex75 => ?_)
      have tx75 : x75.toInt = r1.toInt + 1 := (vX4_number_36 κ k0 r1 x2 r4 x73 r74 x75 hpre_1 hpre_2 hpre_5 hpre_6 hr1_0 hr1_1 ex2 tx2 c3 hr4_0 hr4_1 hr4_2 c5 ex73 tx73 hr74_0 hr74_1 ex75)
      refine lv_icmp_gt (tgt := 64) C.x C.b dX4_number_42 (by decide) (fun c76 => ?_) (fun c76 => ?_)
      · have c76 : x75.toInt < r74.toInt := by have h := z_lt c76; exact h
        refine lv_iload_n C.x C.b dX4_number_64 rfl (lv_at hl 0 rfl) ?_
        refine lv_iload_n C.x C.b dX4_number_65 rfl (lv_at hl 1 rfl) ?_
        refine lv_isub C.x C.b dX4_number_66 ?_
        refine lv_topi (fun x77 ex77 => ?_)
        have tx77 : x77.toInt = r74.toInt - r1.toInt := (vX4_number_37 κ k0 r1 x2 r4 x73 r74 x75 x77 hpre_1 hpre_2 hpre_5 hpre_6 hr1_0 hr1_1 ex2 tx2 c3 hr4_0 hr4_1 hr4_2 c5 ex73 tx73 hr74_0 hr74_1 ex75 tx75 c76 ex77)
        refine lv_iconst (v := 1) C.x C.b dX4_number_67 (by decide +kernel) ?_
        refine lv_isub C.x C.b dX4_number_68 ?_
        refine lv_topi (fun x78 ex78 => ?_)
        have tx78 : x78.toInt = x77.toInt - 1 := (vX4_number_38 κ k0 r1 x2 r4 x73 r74 x75 x77 x78 hpre_1 hpre_2 hpre_5 hpre_6 hr1_0 hr1_1 ex2 tx2 c3 hr4_0 hr4_1 hr4_2 c5 ex73 tx73 hr74_0 hr74_1 ex75 tx75 c76 ex77 tx77 ex78)
        refine lv_istore (lv' := [(4, .int x78), (3, .int r74), (2, .int r1), (0, .ref (ad 2)), (1, .int k0)]) C.x C.b dX4_number_69 hl (by decide) rfl (fun ls hl => ?_)
        refine lv_iload C.x C.b dX4_number_71 (lv_at hl 0 rfl) ?_
        refine lv_iconst (v := 3) C.x C.b dX4_number_73 (by decide +kernel) ?_
        refine lv_icmp_le (tgt := 79) C.x C.b dX4_number_74 (by decide) (fun c79 => ?_) (fun c79 => ?_)
        · have c79 : x78.toInt ≤ 3 := by have h := z_le c79; rw [show (3 : Int32).toInt = 3 from by decide +kernel] at h; exact h
          refine lv_iload C.x C.b dX4_number_79 (lv_at hl 0 rfl) ?_
          refine lv_iconst (v := 1) C.x C.b dX4_number_81 (by decide +kernel) ?_
          refine lv_icmp_ne (tgt := 91) C.x C.b dX4_number_82 (by decide) (fun c80 => ?_) (fun c80 => ?_)
          · have c80 : ¬ x78.toInt = 1 := by have h := z_ne c80; rw [show (1 : Int32).toInt = 1 from by decide +kernel] at h; exact h
            refine lv_iload C.x C.b dX4_number_91 (lv_at hl 0 rfl) ?_
            refine lv_iconst (v := 2) C.x C.b dX4_number_93 (by decide +kernel) ?_
            refine lv_icmp_ne (tgt := 103) C.x C.b dX4_number_94 (by decide) (fun c81 => ?_) (fun c81 => ?_)
            · have c81 : ¬ x78.toInt = 2 := by have h := z_ne c81; rw [show (2 : Int32).toInt = 2 from by decide +kernel] at h; exact h
              refine lv_ldc2d (v := 4652007308841189376) C.x C.b C.o (C.w _ cw_499) dX4_number_103 ?_
              refine lv_dstore (lv' := [(5, .double (4652007308841189376 : UInt64)), (4, .int x78), (3, .int r74), (2, .int r1), (0, .ref (ad 2)), (1, .int k0)]) C.x C.b dX4_number_106 hl (by decide) rfl (fun ls hl => ?_)
              refine lv_aload_n C.x C.b dX4_number_108 rfl (lv_at hl 4 rfl) ?_
              refine lv_iload_n C.x C.b dX4_number_109 rfl (lv_at hl 3 rfl) ?_
              refine lv_iconst (v := 1) C.x C.b dX4_number_110 (by decide +kernel) ?_
              refine lv_iadd C.x C.b dX4_number_111 ?_
              refine lv_topi (fun x82 ex82 => ?_)
              have tx82 : x82.toInt = r1.toInt + 1 := (vX4_number_39 κ k0 r1 x2 r4 x73 r74 x75 x77 x78 x82 hpre_1 hpre_2 hpre_5 hpre_6 hr1_0 hr1_1 ex2 tx2 c3 hr4_0 hr4_1 hr4_2 c5 ex73 tx73 hr74_0 hr74_1 ex75 tx75 c76 ex77 tx77 ex78 tx78 c79 c80 c81 ex82)
              refine lv_iload_n C.x C.b dX4_number_112 rfl (lv_at hl 2 rfl) ?_
              refine lv_aload_n C.x C.b dX4_number_113 rfl (lv_at hl 4 rfl) ?_
              refine lv_iload_n C.x C.b dX4_number_114 rfl (lv_at hl 5 rfl) ?_
              refine lv_iload_n C.x C.b dX4_number_115 rfl (lv_at hl 3 rfl) ?_
              refine lv_iconst (v := 0) C.x C.b dX4_number_116 (by decide +kernel) ?_
              refine c_callVi (n := 3) (As := [.int k0, .int r1, .int 0]) (rest := [.int r74, .int x82, .ref (ad 2)]) C hP hS hl.1 (NX4_digits l D cy ad A sz0 sa κ H.size (SLT H) C.f (fun q h => C.a q (Nat.le_trans hS.1 h)) k0 r1 (0 : Int32) (vX4_number_40 κ k0 r1 x2 r4 x73 r74 x75 x77 x78 x82 hpre_0 hpre_1 hpre_2 hpre_5 hpre_6 hr1_0 hr1_1 ex2 tx2 c3 hr4_0 hr4_1 hr4_2 c5 ex73 tx73 hr74_0 hr74_1 ex75 tx75 c76 ex77 tx77 ex78 tx78 c79 c80 c81 ex82 tx82)) ⟨cw_504, cw_507, by decide +kernel⟩ ⟨cw_505, cw_506, cw_484⟩ rfl (hP.recvS (k := 2) (ci := 6) C.K rfl rfl) rfl rfl (lv_room (Nat.le_of_ble_eq_true rfl)) ⟨Nat.le_of_ble_eq_true rfl, Nat.le_of_ble_eq_true rfl⟩ ⟨(Nat.le_of_ble_eq_true rfl), (Nat.le_of_ble_eq_true rfl)⟩ dX4_number_117 (fun r83 u H locs hr83 hP hS => ?_)
              have hr83 : True := hr83
              refine c_callVi (n := 3) (As := [.int x82, .int r74, .int r83]) (rest := []) C hP hS hl.1 (NX4_digits l D cy ad A sz0 sa κ H.size (SLT H) C.f (fun q h => C.a q (Nat.le_trans hS.1 h)) x82 r74 r83 (vX4_number_41 κ k0 r1 x2 r4 x73 r74 x75 x77 x78 x82 hpre_0 hpre_1 hpre_2 hpre_5 hpre_6 hr1_0 hr1_1 ex2 tx2 c3 hr4_0 hr4_1 hr4_2 c5 ex73 tx73 hr74_0 hr74_1 ex75 tx75 c76 ex77 tx77 ex78 tx78 c79 c80 c81 ex82 tx82)) ⟨cw_504, cw_507, by decide +kernel⟩ ⟨cw_505, cw_506, cw_484⟩ rfl (hP.recvS (k := 2) (ci := 6) C.K rfl rfl) rfl rfl (lv_room (Nat.le_of_ble_eq_true rfl)) ⟨Nat.le_of_ble_eq_true rfl, Nat.le_of_ble_eq_true rfl⟩ ⟨(Nat.le_of_ble_eq_true rfl), (Nat.le_of_ble_eq_true rfl)⟩ dX4_number_120 (fun r84 u H locs hr84 hP hS => ?_)
              have hr84 : True := hr84
              refine lv_i2d C.x C.b dX4_number_123 ?_
              refine lv_topd (fun x85 ex85 => ?_)
              have fx85 : FN x85 := by rw [ex85]; exact fp_i2d _
              refine lv_dstore (lv' := [(7, .double x85), (5, .double (4652007308841189376 : UInt64)), (4, .int x78), (3, .int r74), (2, .int r1), (0, .ref (ad 2)), (1, .int k0)]) C.x C.b dX4_number_124 hl (by decide) rfl (fun ls hl => ?_)
              refine lv_aload_n C.x C.b dX4_number_126 rfl (lv_at hl 5 rfl) ?_
              refine lv_iconst (v := 1) C.x C.b dX4_number_127 (by decide +kernel) ?_
              refine lv_iload_n C.x C.b dX4_number_128 rfl (lv_at hl 6 rfl) ?_
              refine lv_iconst (v := 0) C.x C.b dX4_number_129 (by decide +kernel) ?_
              refine lv_dload C.x C.b dX4_number_130 (lv_at hl 0 rfl) ?_
              refine lv_dload C.x C.b dX4_number_132 (lv_at hl 1 rfl) ?_
              refine lv_ddiv C.x C.b dX4_number_134 (vX4_number_42 r84 x85 ex85 fx85) ?_
              refine lv_topd (fun x86 ex86 => ?_)
              refine c_callSq (C2 := "") (b := 0) (n := 1) (As := [.double x86]) (rest := [.int 0, .int k0, .int 1, .ref (ad 2)]) C hP hS hl.1 (NX10_ofReal l D cy ad A sz0 sa κ H.size (SLT H) C.f (fun q h => C.a q (Nat.le_trans hS.1 h)) x86 hPV (vX4_number_43 r84 x85 x86 ex85 fx85 ex86)) ⟨cw_513, cw_143, by decide +kernel⟩ ⟨cw_142, cw_40⟩ rfl rfl (lv_room (Nat.le_of_ble_eq_true rfl)) ⟨Nat.le_of_ble_eq_true rfl, Nat.le_of_ble_eq_true rfl⟩ ⟨(Nat.le_of_ble_eq_true rfl), (Nat.le_of_ble_eq_true rfl)⟩ dX4_number_135 (fun r87 u H locs hr87 hP hS => ?_)
              obtain ⟨P88, rfl⟩ : ∃ z, z = u := ⟨_, rfl⟩
              have hP : CH D cy ad A (tP κ P88) H := hP
              obtain ⟨hr87, hr87y⟩ := hr87
              have hr87y : ∀ q7 q8 : Nat → Option Nat, VALq P88 sa q7 q8 (r87.getD 0) (qReal x86) := hr87y
              have hr87 : (EX κ.2.2.2.2 P88) ∧ (PV sa P88) ∧ (KPx True κ.2.2.2.2 P88) ∧ (NN P88 1 r87) := hr87
              obtain ⟨hr87_0, hr87_1, hr87_2, hr87_3⟩ := hr87
              have kpz89 : KPx True κ.2.2.2.2 P88 := KPx.rf.trans hr87_2
              obtain ⟨b90, rfl, tb90⟩ := hr87_3
              have svz91 : SV ad P88 (κ.2.1 0) (κ.2.1 1) (κ.2.2.2.1 6) (κ.2.2.2.1 7) (κ.2.2.2.1 8) (κ.2.2.2.1 13) (κ.2.2.2.1 15) (κ.2.2.2.1 17) (κ.1 1).toInt := hSV.ex hr87_0
              refine c_callVv (n := 4) (As := [.int 1, .int k0, .int 0, .ref b90]) (rest := []) C hP hS hl.1 (NX4_add l D cy ad A sz0 sa (tP κ P88) H.size (SLT H) C.f (fun q h => C.a q (Nat.le_trans hS.1 h)) (1 : Int32) k0 (0 : Int32) (some b90) (nt_s tb90) svz91 (vX4_number_12 κ hpre_3 hpre_4)) ⟨cw_509, cw_512, by decide +kernel⟩ ⟨cw_510, cw_511, cw_484⟩ rfl (hP.recvS (k := 2) (ci := 6) C.K rfl rfl) rfl rfl (lv_room (Nat.le_of_ble_eq_true rfl)) ⟨Nat.le_of_ble_eq_true rfl, Nat.le_of_ble_eq_true rfl⟩ ⟨(Nat.le_of_ble_eq_true rfl), (Nat.le_of_ble_eq_true rfl)⟩ dX4_number_138 (fun u H locs hr92 hP hS => ?_)
              obtain ⟨n93, F94, F95, F96, Z97⟩ := u
              have hP : CH D cy ad A (tQ (tA (tA (tA (tI (tP κ P88) 7 n93) 10 F94) 11 F95) 12 F96) 13 Z97) H := hP
              obtain ⟨hr92, hr92y⟩ := hr92
              have hr92y : (κ.1 7).toInt < 41 → ADc (κ.2.2.1 10) (κ.2.2.1 11) (κ.2.2.1 12) (κ.1 7) F94 F95 F96 n93 (1 : Int32) k0 (0 : Int32) := hr92y
              have hr92 : (SV ad P88 (κ.2.1 0) (κ.2.1 1) (κ.2.2.2.1 6) (κ.2.2.2.1 7) (κ.2.2.2.1 8) Z97 (κ.2.2.2.1 15) (κ.2.2.2.1 17) (κ.1 1).toInt) ∧ (0 ≤ n93.toInt ∧ n93.toInt ≤ 41) := hr92
              obtain ⟨hr92_0, hr92_1⟩ := hr92
              obtain ⟨hr92_1_0, hr92_1_1⟩ := hr92_1
              refine lv_iload_n C.x C.b dX4_number_141 rfl (lv_at hl 3 rfl) ?_
              exact c_reti C hsz hsl ⟨P88, n93, F94, F95, F96, Z97⟩ ⟨⟨hr87_0, hr87_1, kpz89, hr92_0, (vX4_number_44 κ k0 r1 x2 r4 x73 r74 x75 x77 x78 x82 n93 hpre_1 hpre_2 hpre_5 hpre_6 hr1_0 hr1_1 ex2 tx2 c3 hr4_0 hr4_1 hr4_2 c5 ex73 tx73 hr74_0 hr74_1 ex75 tx75 c76 ex77 tx77 ex78 tx78 c79 c80 c81 ex82 tx82 hr92_1_0 hr92_1_1)⟩, (vX4_number_45 ad sa κ k0 r1 x2 r4 x73 r74 x75 x77 x78 x82 r84 x85 x86 P88 b90 n93 F94 F95 F96 hPV hSV hpre_0 hpre_1 hpre_2 hpre_3 hpre_4 hpre_5 hpre_6 hr1y hr1_0 hr1_1 ex2 tx2 c3 hr4y hr4_0 hr4_1 hr4_2 c5 ex73 tx73 hr74y hr74_0 hr74_1 ex75 tx75 c76 ex77 tx77 ex78 tx78 c79 c80 c81 ex82 tx82 ex85 fx85 ex86 hr87_0 hr87_2 hr87y hr92y hr92_1_0 hr92_1_1)⟩ hP hS ⟨(Nat.le_of_ble_eq_true rfl), (Nat.le_of_ble_eq_true rfl)⟩ ⟨(Nat.le_of_ble_eq_true rfl), (Nat.le_of_ble_eq_true rfl)⟩ dX4_number_142
            · have c81 : x78.toInt = 2 := by have h := z_eq c81; rw [show (2 : Int32).toInt = 2 from by decide +kernel] at h; exact h
              refine lv_ldc2d (v := 4636737291354636288) C.x C.b C.o (C.w _ cw_498) dX4_number_97 ?_
              refine lv_goto (tgt := 106) C.x C.b dX4_number_100 (by decide) ?_
              refine lv_dstore (lv' := [(5, .double (4636737291354636288 : UInt64)), (4, .int x78), (3, .int r74), (2, .int r1), (0, .ref (ad 2)), (1, .int k0)]) C.x C.b dX4_number_106 hl (by decide) rfl (fun ls hl => ?_)
              refine lv_aload_n C.x C.b dX4_number_108 rfl (lv_at hl 4 rfl) ?_
              refine lv_iload_n C.x C.b dX4_number_109 rfl (lv_at hl 3 rfl) ?_
              refine lv_iconst (v := 1) C.x C.b dX4_number_110 (by decide +kernel) ?_
              refine lv_iadd C.x C.b dX4_number_111 ?_
              refine lv_topi (fun x98 ex98 => ?_)
              have tx98 : x98.toInt = r1.toInt + 1 := (vX4_number_46 κ k0 r1 x2 r4 x73 r74 x75 x77 x78 x98 hpre_1 hpre_2 hpre_5 hpre_6 hr1_0 hr1_1 ex2 tx2 c3 hr4_0 hr4_1 hr4_2 c5 ex73 tx73 hr74_0 hr74_1 ex75 tx75 c76 ex77 tx77 ex78 tx78 c79 c80 c81 ex98)
              refine lv_iload_n C.x C.b dX4_number_112 rfl (lv_at hl 2 rfl) ?_
              refine lv_aload_n C.x C.b dX4_number_113 rfl (lv_at hl 4 rfl) ?_
              refine lv_iload_n C.x C.b dX4_number_114 rfl (lv_at hl 5 rfl) ?_
              refine lv_iload_n C.x C.b dX4_number_115 rfl (lv_at hl 3 rfl) ?_
              refine lv_iconst (v := 0) C.x C.b dX4_number_116 (by decide +kernel) ?_
              refine c_callVi (n := 3) (As := [.int k0, .int r1, .int 0]) (rest := [.int r74, .int x98, .ref (ad 2)]) C hP hS hl.1 (NX4_digits l D cy ad A sz0 sa κ H.size (SLT H) C.f (fun q h => C.a q (Nat.le_trans hS.1 h)) k0 r1 (0 : Int32) (vX4_number_47 κ k0 r1 x2 r4 x73 r74 x75 x77 x78 x98 hpre_0 hpre_1 hpre_2 hpre_5 hpre_6 hr1_0 hr1_1 ex2 tx2 c3 hr4_0 hr4_1 hr4_2 c5 ex73 tx73 hr74_0 hr74_1 ex75 tx75 c76 ex77 tx77 ex78 tx78 c79 c80 c81 ex98 tx98)) ⟨cw_504, cw_507, by decide +kernel⟩ ⟨cw_505, cw_506, cw_484⟩ rfl (hP.recvS (k := 2) (ci := 6) C.K rfl rfl) rfl rfl (lv_room (Nat.le_of_ble_eq_true rfl)) ⟨Nat.le_of_ble_eq_true rfl, Nat.le_of_ble_eq_true rfl⟩ ⟨(Nat.le_of_ble_eq_true rfl), (Nat.le_of_ble_eq_true rfl)⟩ dX4_number_117 (fun r99 u H locs hr99 hP hS => ?_)
              have hr99 : True := hr99
              refine c_callVi (n := 3) (As := [.int x98, .int r74, .int r99]) (rest := []) C hP hS hl.1 (NX4_digits l D cy ad A sz0 sa κ H.size (SLT H) C.f (fun q h => C.a q (Nat.le_trans hS.1 h)) x98 r74 r99 (vX4_number_48 κ k0 r1 x2 r4 x73 r74 x75 x77 x78 x98 hpre_0 hpre_1 hpre_2 hpre_5 hpre_6 hr1_0 hr1_1 ex2 tx2 c3 hr4_0 hr4_1 hr4_2 c5 ex73 tx73 hr74_0 hr74_1 ex75 tx75 c76 ex77 tx77 ex78 tx78 c79 c80 c81 ex98 tx98)) ⟨cw_504, cw_507, by decide +kernel⟩ ⟨cw_505, cw_506, cw_484⟩ rfl (hP.recvS (k := 2) (ci := 6) C.K rfl rfl) rfl rfl (lv_room (Nat.le_of_ble_eq_true rfl)) ⟨Nat.le_of_ble_eq_true rfl, Nat.le_of_ble_eq_true rfl⟩ ⟨(Nat.le_of_ble_eq_true rfl), (Nat.le_of_ble_eq_true rfl)⟩ dX4_number_120 (fun r100 u H locs hr100 hP hS => ?_)
              have hr100 : True := hr100
              refine lv_i2d C.x C.b dX4_number_123 ?_
              refine lv_topd (fun x101 ex101 => ?_)
              have fx101 : FN x101 := by rw [ex101]; exact fp_i2d _
              refine lv_dstore (lv' := [(7, .double x101), (5, .double (4636737291354636288 : UInt64)), (4, .int x78), (3, .int r74), (2, .int r1), (0, .ref (ad 2)), (1, .int k0)]) C.x C.b dX4_number_124 hl (by decide) rfl (fun ls hl => ?_)
              refine lv_aload_n C.x C.b dX4_number_126 rfl (lv_at hl 5 rfl) ?_
              refine lv_iconst (v := 1) C.x C.b dX4_number_127 (by decide +kernel) ?_
              refine lv_iload_n C.x C.b dX4_number_128 rfl (lv_at hl 6 rfl) ?_
              refine lv_iconst (v := 0) C.x C.b dX4_number_129 (by decide +kernel) ?_
              refine lv_dload C.x C.b dX4_number_130 (lv_at hl 0 rfl) ?_
              refine lv_dload C.x C.b dX4_number_132 (lv_at hl 1 rfl) ?_
              refine lv_ddiv C.x C.b dX4_number_134 (vX4_number_49 r100 x101 ex101 fx101) ?_
              refine lv_topd (fun x102 ex102 => ?_)
              refine c_callSq (C2 := "") (b := 0) (n := 1) (As := [.double x102]) (rest := [.int 0, .int k0, .int 1, .ref (ad 2)]) C hP hS hl.1 (NX10_ofReal l D cy ad A sz0 sa κ H.size (SLT H) C.f (fun q h => C.a q (Nat.le_trans hS.1 h)) x102 hPV (vX4_number_50 r100 x101 x102 ex101 fx101 ex102)) ⟨cw_513, cw_143, by decide +kernel⟩ ⟨cw_142, cw_40⟩ rfl rfl (lv_room (Nat.le_of_ble_eq_true rfl)) ⟨Nat.le_of_ble_eq_true rfl, Nat.le_of_ble_eq_true rfl⟩ ⟨(Nat.le_of_ble_eq_true rfl), (Nat.le_of_ble_eq_true rfl)⟩ dX4_number_135 (fun r103 u H locs hr103 hP hS => ?_)
              obtain ⟨P104, rfl⟩ : ∃ z, z = u := ⟨_, rfl⟩
              have hP : CH D cy ad A (tP κ P104) H := hP
              obtain ⟨hr103, hr103y⟩ := hr103
              have hr103y : ∀ q7 q8 : Nat → Option Nat, VALq P104 sa q7 q8 (r103.getD 0) (qReal x102) := hr103y
              have hr103 : (EX κ.2.2.2.2 P104) ∧ (PV sa P104) ∧ (KPx True κ.2.2.2.2 P104) ∧ (NN P104 1 r103) := hr103
              obtain ⟨hr103_0, hr103_1, hr103_2, hr103_3⟩ := hr103
              have kpz105 : KPx True κ.2.2.2.2 P104 := KPx.rf.trans hr103_2
              obtain ⟨b106, rfl, tb106⟩ := hr103_3
              have svz107 : SV ad P104 (κ.2.1 0) (κ.2.1 1) (κ.2.2.2.1 6) (κ.2.2.2.1 7) (κ.2.2.2.1 8) (κ.2.2.2.1 13) (κ.2.2.2.1 15) (κ.2.2.2.1 17) (κ.1 1).toInt := hSV.ex hr103_0
              refine c_callVv (n := 4) (As := [.int 1, .int k0, .int 0, .ref b106]) (rest := []) C hP hS hl.1 (NX4_add l D cy ad A sz0 sa (tP κ P104) H.size (SLT H) C.f (fun q h => C.a q (Nat.le_trans hS.1 h)) (1 : Int32) k0 (0 : Int32) (some b106) (nt_s tb106) svz107 (vX4_number_12 κ hpre_3 hpre_4)) ⟨cw_509, cw_512, by decide +kernel⟩ ⟨cw_510, cw_511, cw_484⟩ rfl (hP.recvS (k := 2) (ci := 6) C.K rfl rfl) rfl rfl (lv_room (Nat.le_of_ble_eq_true rfl)) ⟨Nat.le_of_ble_eq_true rfl, Nat.le_of_ble_eq_true rfl⟩ ⟨(Nat.le_of_ble_eq_true rfl), (Nat.le_of_ble_eq_true rfl)⟩ dX4_number_138 (fun u H locs hr108 hP hS => ?_)
              obtain ⟨n109, F110, F111, F112, Z113⟩ := u
              have hP : CH D cy ad A (tQ (tA (tA (tA (tI (tP κ P104) 7 n109) 10 F110) 11 F111) 12 F112) 13 Z113) H := hP
              obtain ⟨hr108, hr108y⟩ := hr108
              have hr108y : (κ.1 7).toInt < 41 → ADc (κ.2.2.1 10) (κ.2.2.1 11) (κ.2.2.1 12) (κ.1 7) F110 F111 F112 n109 (1 : Int32) k0 (0 : Int32) := hr108y
              have hr108 : (SV ad P104 (κ.2.1 0) (κ.2.1 1) (κ.2.2.2.1 6) (κ.2.2.2.1 7) (κ.2.2.2.1 8) Z113 (κ.2.2.2.1 15) (κ.2.2.2.1 17) (κ.1 1).toInt) ∧ (0 ≤ n109.toInt ∧ n109.toInt ≤ 41) := hr108
              obtain ⟨hr108_0, hr108_1⟩ := hr108
              obtain ⟨hr108_1_0, hr108_1_1⟩ := hr108_1
              refine lv_iload_n C.x C.b dX4_number_141 rfl (lv_at hl 3 rfl) ?_
              exact c_reti C hsz hsl ⟨P104, n109, F110, F111, F112, Z113⟩ ⟨⟨hr103_0, hr103_1, kpz105, hr108_0, (vX4_number_51 κ k0 r1 x2 r4 x73 r74 x75 x77 x78 x98 n109 hpre_1 hpre_2 hpre_5 hpre_6 hr1_0 hr1_1 ex2 tx2 c3 hr4_0 hr4_1 hr4_2 c5 ex73 tx73 hr74_0 hr74_1 ex75 tx75 c76 ex77 tx77 ex78 tx78 c79 c80 c81 ex98 tx98 hr108_1_0 hr108_1_1)⟩, (vX4_number_52 ad sa κ k0 r1 x2 r4 x73 r74 x75 x77 x78 x98 r100 x101 x102 P104 b106 n109 F110 F111 F112 hPV hSV hpre_0 hpre_1 hpre_2 hpre_3 hpre_4 hpre_5 hpre_6 hr1y hr1_0 hr1_1 ex2 tx2 c3 hr4y hr4_0 hr4_1 hr4_2 c5 ex73 tx73 hr74y hr74_0 hr74_1 ex75 tx75 c76 ex77 tx77 ex78 tx78 c79 c80 c81 ex98 tx98 ex101 fx101 ex102 hr103_0 hr103_2 hr103y hr108y hr108_1_0 hr108_1_1)⟩ hP hS ⟨(Nat.le_of_ble_eq_true rfl), (Nat.le_of_ble_eq_true rfl)⟩ ⟨(Nat.le_of_ble_eq_true rfl), (Nat.le_of_ble_eq_true rfl)⟩ dX4_number_142
          · have c80 : x78.toInt = 1 := by have h := z_eq c80; rw [show (1 : Int32).toInt = 1 from by decide +kernel] at h; exact h
            refine lv_ldc2d (v := 4621819117588971520) C.x C.b C.o (C.w _ cw_497) dX4_number_85 ?_
            refine lv_goto (tgt := 106) C.x C.b dX4_number_88 (by decide) ?_
            refine lv_dstore (lv' := [(5, .double (4621819117588971520 : UInt64)), (4, .int x78), (3, .int r74), (2, .int r1), (0, .ref (ad 2)), (1, .int k0)]) C.x C.b dX4_number_106 hl (by decide) rfl (fun ls hl => ?_)
            refine lv_aload_n C.x C.b dX4_number_108 rfl (lv_at hl 4 rfl) ?_
            refine lv_iload_n C.x C.b dX4_number_109 rfl (lv_at hl 3 rfl) ?_
            refine lv_iconst (v := 1) C.x C.b dX4_number_110 (by decide +kernel) ?_
            refine lv_iadd C.x C.b dX4_number_111 ?_
            refine lv_topi (fun x114 ex114 => ?_)
            have tx114 : x114.toInt = r1.toInt + 1 := (vX4_number_53 κ k0 r1 x2 r4 x73 r74 x75 x77 x78 x114 hpre_1 hpre_2 hpre_5 hpre_6 hr1_0 hr1_1 ex2 tx2 c3 hr4_0 hr4_1 hr4_2 c5 ex73 tx73 hr74_0 hr74_1 ex75 tx75 c76 ex77 tx77 ex78 tx78 c79 c80 ex114)
            refine lv_iload_n C.x C.b dX4_number_112 rfl (lv_at hl 2 rfl) ?_
            refine lv_aload_n C.x C.b dX4_number_113 rfl (lv_at hl 4 rfl) ?_
            refine lv_iload_n C.x C.b dX4_number_114 rfl (lv_at hl 5 rfl) ?_
            refine lv_iload_n C.x C.b dX4_number_115 rfl (lv_at hl 3 rfl) ?_
            refine lv_iconst (v := 0) C.x C.b dX4_number_116 (by decide +kernel) ?_
            refine c_callVi (n := 3) (As := [.int k0, .int r1, .int 0]) (rest := [.int r74, .int x114, .ref (ad 2)]) C hP hS hl.1 (NX4_digits l D cy ad A sz0 sa κ H.size (SLT H) C.f (fun q h => C.a q (Nat.le_trans hS.1 h)) k0 r1 (0 : Int32) (vX4_number_54 κ k0 r1 x2 r4 x73 r74 x75 x77 x78 x114 hpre_0 hpre_1 hpre_2 hpre_5 hpre_6 hr1_0 hr1_1 ex2 tx2 c3 hr4_0 hr4_1 hr4_2 c5 ex73 tx73 hr74_0 hr74_1 ex75 tx75 c76 ex77 tx77 ex78 tx78 c79 c80 ex114 tx114)) ⟨cw_504, cw_507, by decide +kernel⟩ ⟨cw_505, cw_506, cw_484⟩ rfl (hP.recvS (k := 2) (ci := 6) C.K rfl rfl) rfl rfl (lv_room (Nat.le_of_ble_eq_true rfl)) ⟨Nat.le_of_ble_eq_true rfl, Nat.le_of_ble_eq_true rfl⟩ ⟨(Nat.le_of_ble_eq_true rfl), (Nat.le_of_ble_eq_true rfl)⟩ dX4_number_117 (fun r115 u H locs hr115 hP hS => ?_)
            have hr115 : True := hr115
            refine c_callVi (n := 3) (As := [.int x114, .int r74, .int r115]) (rest := []) C hP hS hl.1 (NX4_digits l D cy ad A sz0 sa κ H.size (SLT H) C.f (fun q h => C.a q (Nat.le_trans hS.1 h)) x114 r74 r115 (vX4_number_55 κ k0 r1 x2 r4 x73 r74 x75 x77 x78 x114 hpre_0 hpre_1 hpre_2 hpre_5 hpre_6 hr1_0 hr1_1 ex2 tx2 c3 hr4_0 hr4_1 hr4_2 c5 ex73 tx73 hr74_0 hr74_1 ex75 tx75 c76 ex77 tx77 ex78 tx78 c79 c80 ex114 tx114)) ⟨cw_504, cw_507, by decide +kernel⟩ ⟨cw_505, cw_506, cw_484⟩ rfl (hP.recvS (k := 2) (ci := 6) C.K rfl rfl) rfl rfl (lv_room (Nat.le_of_ble_eq_true rfl)) ⟨Nat.le_of_ble_eq_true rfl, Nat.le_of_ble_eq_true rfl⟩ ⟨(Nat.le_of_ble_eq_true rfl), (Nat.le_of_ble_eq_true rfl)⟩ dX4_number_120 (fun r116 u H locs hr116 hP hS => ?_)
            have hr116 : True := hr116
            refine lv_i2d C.x C.b dX4_number_123 ?_
            refine lv_topd (fun x117 ex117 => ?_)
            have fx117 : FN x117 := by rw [ex117]; exact fp_i2d _
            refine lv_dstore (lv' := [(7, .double x117), (5, .double (4621819117588971520 : UInt64)), (4, .int x78), (3, .int r74), (2, .int r1), (0, .ref (ad 2)), (1, .int k0)]) C.x C.b dX4_number_124 hl (by decide) rfl (fun ls hl => ?_)
            refine lv_aload_n C.x C.b dX4_number_126 rfl (lv_at hl 5 rfl) ?_
            refine lv_iconst (v := 1) C.x C.b dX4_number_127 (by decide +kernel) ?_
            refine lv_iload_n C.x C.b dX4_number_128 rfl (lv_at hl 6 rfl) ?_
            refine lv_iconst (v := 0) C.x C.b dX4_number_129 (by decide +kernel) ?_
            refine lv_dload C.x C.b dX4_number_130 (lv_at hl 0 rfl) ?_
            refine lv_dload C.x C.b dX4_number_132 (lv_at hl 1 rfl) ?_
            refine lv_ddiv C.x C.b dX4_number_134 (vX4_number_56 r116 x117 ex117 fx117) ?_
            refine lv_topd (fun x118 ex118 => ?_)
            refine c_callSq (C2 := "") (b := 0) (n := 1) (As := [.double x118]) (rest := [.int 0, .int k0, .int 1, .ref (ad 2)]) C hP hS hl.1 (NX10_ofReal l D cy ad A sz0 sa κ H.size (SLT H) C.f (fun q h => C.a q (Nat.le_trans hS.1 h)) x118 hPV (vX4_number_57 r116 x117 x118 ex117 fx117 ex118)) ⟨cw_513, cw_143, by decide +kernel⟩ ⟨cw_142, cw_40⟩ rfl rfl (lv_room (Nat.le_of_ble_eq_true rfl)) ⟨Nat.le_of_ble_eq_true rfl, Nat.le_of_ble_eq_true rfl⟩ ⟨(Nat.le_of_ble_eq_true rfl), (Nat.le_of_ble_eq_true rfl)⟩ dX4_number_135 (fun r119 u H locs hr119 hP hS => ?_)
            obtain ⟨P120, rfl⟩ : ∃ z, z = u := ⟨_, rfl⟩
            have hP : CH D cy ad A (tP κ P120) H := hP
            obtain ⟨hr119, hr119y⟩ := hr119
            have hr119y : ∀ q7 q8 : Nat → Option Nat, VALq P120 sa q7 q8 (r119.getD 0) (qReal x118) := hr119y
            have hr119 : (EX κ.2.2.2.2 P120) ∧ (PV sa P120) ∧ (KPx True κ.2.2.2.2 P120) ∧ (NN P120 1 r119) := hr119
            obtain ⟨hr119_0, hr119_1, hr119_2, hr119_3⟩ := hr119
            have kpz121 : KPx True κ.2.2.2.2 P120 := KPx.rf.trans hr119_2
            obtain ⟨b122, rfl, tb122⟩ := hr119_3
            have svz123 : SV ad P120 (κ.2.1 0) (κ.2.1 1) (κ.2.2.2.1 6) (κ.2.2.2.1 7) (κ.2.2.2.1 8) (κ.2.2.2.1 13) (κ.2.2.2.1 15) (κ.2.2.2.1 17) (κ.1 1).toInt := hSV.ex hr119_0
            refine c_callVv (n := 4) (As := [.int 1, .int k0, .int 0, .ref b122]) (rest := []) C hP hS hl.1 (NX4_add l D cy ad A sz0 sa (tP κ P120) H.size (SLT H) C.f (fun q h => C.a q (Nat.le_trans hS.1 h)) (1 : Int32) k0 (0 : Int32) (some b122) (nt_s tb122) svz123 (vX4_number_12 κ hpre_3 hpre_4)) ⟨cw_509, cw_512, by decide +kernel⟩ ⟨cw_510, cw_511, cw_484⟩ rfl (hP.recvS (k := 2) (ci := 6) C.K rfl rfl) rfl rfl (lv_room (Nat.le_of_ble_eq_true rfl)) ⟨Nat.le_of_ble_eq_true rfl, Nat.le_of_ble_eq_true rfl⟩ ⟨(Nat.le_of_ble_eq_true rfl), (Nat.le_of_ble_eq_true rfl)⟩ dX4_number_138 (fun u H locs hr124 hP hS => ?_)
            obtain ⟨n125, F126, F127, F128, Z129⟩ := u
            have hP : CH D cy ad A (tQ (tA (tA (tA (tI (tP κ P120) 7 n125) 10 F126) 11 F127) 12 F128) 13 Z129) H := hP
            obtain ⟨hr124, hr124y⟩ := hr124
            have hr124y : (κ.1 7).toInt < 41 → ADc (κ.2.2.1 10) (κ.2.2.1 11) (κ.2.2.1 12) (κ.1 7) F126 F127 F128 n125 (1 : Int32) k0 (0 : Int32) := hr124y
            have hr124 : (SV ad P120 (κ.2.1 0) (κ.2.1 1) (κ.2.2.2.1 6) (κ.2.2.2.1 7) (κ.2.2.2.1 8) Z129 (κ.2.2.2.1 15) (κ.2.2.2.1 17) (κ.1 1).toInt) ∧ (0 ≤ n125.toInt ∧ n125.toInt ≤ 41) := hr124
            obtain ⟨hr124_0, hr124_1⟩ := hr124
            obtain ⟨hr124_1_0, hr124_1_1⟩ := hr124_1
            refine lv_iload_n C.x C.b dX4_number_141 rfl (lv_at hl 3 rfl) ?_
            exact c_reti C hsz hsl ⟨P120, n125, F126, F127, F128, Z129⟩ ⟨⟨hr119_0, hr119_1, kpz121, hr124_0, (vX4_number_58 κ k0 r1 x2 r4 x73 r74 x75 x77 x78 x114 n125 hpre_1 hpre_2 hpre_5 hpre_6 hr1_0 hr1_1 ex2 tx2 c3 hr4_0 hr4_1 hr4_2 c5 ex73 tx73 hr74_0 hr74_1 ex75 tx75 c76 ex77 tx77 ex78 tx78 c79 c80 ex114 tx114 hr124_1_0 hr124_1_1)⟩, (vX4_number_59 ad sa κ k0 r1 x2 r4 x73 r74 x75 x77 x78 x114 r116 x117 x118 P120 b122 n125 F126 F127 F128 hPV hSV hpre_0 hpre_1 hpre_2 hpre_3 hpre_4 hpre_5 hpre_6 hr1y hr1_0 hr1_1 ex2 tx2 c3 hr4y hr4_0 hr4_1 hr4_2 c5 ex73 tx73 hr74y hr74_0 hr74_1 ex75 tx75 c76 ex77 tx77 ex78 tx78 c79 c80 ex114 tx114 ex117 fx117 ex118 hr119_0 hr119_2 hr119y hr124y hr124_1_0 hr124_1_1)⟩ hP hS ⟨(Nat.le_of_ble_eq_true rfl), (Nat.le_of_ble_eq_true rfl)⟩ ⟨(Nat.le_of_ble_eq_true rfl), (Nat.le_of_ble_eq_true rfl)⟩ dX4_number_142
        · have c79 : 3 < x78.toInt := by have h := z_nle c79; rw [show (3 : Int32).toInt = 3 from by decide +kernel] at h; exact h
          refine lv_iconst (v := (-1)) C.x C.b dX4_number_77 (by decide +kernel) ?_
          have hP : CH D cy ad A (tQ (tA (tA (tA (tI (tP κ κ.2.2.2.2) 7 (κ.1 7)) 10 (κ.2.2.1 10)) 11 (κ.2.2.1 11)) 12 (κ.2.2.1 12)) 13 (κ.2.2.2.1 13)) H := CH.cong hP rfl rfl rfl rfl rfl rfl rfl rfl rfl rfl rfl rfl rfl rfl rfl rfl rfl rfl rfl rfl rfl rfl rfl rfl rfl rfl rfl
          exact c_reti C hsz hsl ⟨κ.2.2.2.2, (κ.1 7), (κ.2.2.1 10), (κ.2.2.1 11), (κ.2.2.1 12), (κ.2.2.2.1 13)⟩ ⟨⟨EX.rf, hPV, KPx.rf, hSV, (vX4_number_29 κ hpre_3 hpre_4)⟩, (vX4_number_60 ad sa κ k0 r1 x2 r4 x73 r74 x75 x77 x78 hPV hSV hpre_0 hpre_1 hpre_2 hpre_3 hpre_4 hpre_5 hpre_6 hr1y hr1_0 hr1_1 ex2 tx2 c3 hr4y hr4_0 hr4_1 hr4_2 c5 ex73 tx73 hr74y hr74_0 hr74_1 ex75 tx75 c76 ex77 tx77 ex78 tx78 c79)⟩ hP hS ⟨(Nat.le_of_ble_eq_true rfl), (Nat.le_of_ble_eq_true rfl)⟩ ⟨(Nat.le_of_ble_eq_true rfl), (Nat.le_of_ble_eq_true rfl)⟩ dX4_number_78
      · have c76 : r74.toInt ≤ x75.toInt := by have h := z_nlt c76; exact h
        refine lv_aload_n C.x C.b dX4_number_45 rfl (lv_at hl 2 rfl) ?_
        refine lv_iconst (v := 1) C.x C.b dX4_number_46 (by decide +kernel) ?_
        refine lv_iload_n C.x C.b dX4_number_47 rfl (lv_at hl 3 rfl) ?_
        refine lv_iconst (v := 0) C.x C.b dX4_number_48 (by decide +kernel) ?_
        refine lv_aload_n C.x C.b dX4_number_49 rfl (lv_at hl 2 rfl) ?_
        refine lv_iload_n C.x C.b dX4_number_50 rfl (lv_at hl 3 rfl) ?_
        refine lv_iload_n C.x C.b dX4_number_51 rfl (lv_at hl 1 rfl) ?_
        refine lv_iconst (v := 0) C.x C.b dX4_number_52 (by decide +kernel) ?_
        refine c_callVi (n := 3) (As := [.int k0, .int r1, .int 0]) (rest := [.int 0, .int k0, .int 1, .ref (ad 2)]) C hP hS hl.1 (NX4_digits l D cy ad A sz0 sa κ H.size (SLT H) C.f (fun q h => C.a q (Nat.le_trans hS.1 h)) k0 r1 (0 : Int32) (vX4_number_61 κ k0 r1 x2 r4 x73 r74 x75 hpre_0 hpre_1 hpre_2 hpre_5 hpre_6 hr1_0 hr1_1 ex2 tx2 c3 hr4_0 hr4_1 hr4_2 c5 ex73 tx73 hr74_0 hr74_1 ex75 tx75 c76)) ⟨cw_504, cw_507, by decide +kernel⟩ ⟨cw_505, cw_506, cw_484⟩ rfl (hP.recvS (k := 2) (ci := 6) C.K rfl rfl) rfl rfl (lv_room (Nat.le_of_ble_eq_true rfl)) ⟨Nat.le_of_ble_eq_true rfl, Nat.le_of_ble_eq_true rfl⟩ ⟨(Nat.le_of_ble_eq_true rfl), (Nat.le_of_ble_eq_true rfl)⟩ dX4_number_53 (fun r130 u H locs hr130 hP hS => ?_)
        have hr130 : True := hr130
        refine c_callSq (C2 := "") (b := 0) (n := 1) (As := [.int r130]) (rest := [.int 0, .int k0, .int 1, .ref (ad 2)]) C hP hS hl.1 (NX10_ofInt l D cy ad A sz0 sa κ H.size (SLT H) C.f (fun q h => C.a q (Nat.le_trans hS.1 h)) r130 hPV) ⟨cw_508, cw_97, by decide +kernel⟩ ⟨cw_96, cw_40⟩ rfl rfl (lv_room (Nat.le_of_ble_eq_true rfl)) ⟨Nat.le_of_ble_eq_true rfl, Nat.le_of_ble_eq_true rfl⟩ ⟨(Nat.le_of_ble_eq_true rfl), (Nat.le_of_ble_eq_true rfl)⟩ dX4_number_56 (fun r131 u H locs hr131 hP hS => ?_)
        obtain ⟨P132, rfl⟩ : ∃ z, z = u := ⟨_, rfl⟩
        have hP : CH D cy ad A (tP κ P132) H := hP
        obtain ⟨hr131, hr131y⟩ := hr131
        have hr131y : ∀ q7 q8 : Nat → Option Nat, VALq P132 sa q7 q8 (r131.getD 0) (qInt r130) := hr131y
        have hr131 : (EX κ.2.2.2.2 P132) ∧ (PV sa P132) ∧ (KPx True κ.2.2.2.2 P132) ∧ (NN P132 1 r131) := hr131
        obtain ⟨hr131_0, hr131_1, hr131_2, hr131_3⟩ := hr131
        have kpz133 : KPx True κ.2.2.2.2 P132 := KPx.rf.trans hr131_2
        obtain ⟨b134, rfl, tb134⟩ := hr131_3
        have svz135 : SV ad P132 (κ.2.1 0) (κ.2.1 1) (κ.2.2.2.1 6) (κ.2.2.2.1 7) (κ.2.2.2.1 8) (κ.2.2.2.1 13) (κ.2.2.2.1 15) (κ.2.2.2.1 17) (κ.1 1).toInt := hSV.ex hr131_0
        refine c_callVv (n := 4) (As := [.int 1, .int k0, .int 0, .ref b134]) (rest := []) C hP hS hl.1 (NX4_add l D cy ad A sz0 sa (tP κ P132) H.size (SLT H) C.f (fun q h => C.a q (Nat.le_trans hS.1 h)) (1 : Int32) k0 (0 : Int32) (some b134) (nt_s tb134) svz135 (vX4_number_12 κ hpre_3 hpre_4)) ⟨cw_509, cw_512, by decide +kernel⟩ ⟨cw_510, cw_511, cw_484⟩ rfl (hP.recvS (k := 2) (ci := 6) C.K rfl rfl) rfl rfl (lv_room (Nat.le_of_ble_eq_true rfl)) ⟨Nat.le_of_ble_eq_true rfl, Nat.le_of_ble_eq_true rfl⟩ ⟨(Nat.le_of_ble_eq_true rfl), (Nat.le_of_ble_eq_true rfl)⟩ dX4_number_59 (fun u H locs hr136 hP hS => ?_)
        obtain ⟨n137, F138, F139, F140, Z141⟩ := u
        have hP : CH D cy ad A (tQ (tA (tA (tA (tI (tP κ P132) 7 n137) 10 F138) 11 F139) 12 F140) 13 Z141) H := hP
        obtain ⟨hr136, hr136y⟩ := hr136
        have hr136y : (κ.1 7).toInt < 41 → ADc (κ.2.2.1 10) (κ.2.2.1 11) (κ.2.2.1 12) (κ.1 7) F138 F139 F140 n137 (1 : Int32) k0 (0 : Int32) := hr136y
        have hr136 : (SV ad P132 (κ.2.1 0) (κ.2.1 1) (κ.2.2.2.1 6) (κ.2.2.2.1 7) (κ.2.2.2.1 8) Z141 (κ.2.2.2.1 15) (κ.2.2.2.1 17) (κ.1 1).toInt) ∧ (0 ≤ n137.toInt ∧ n137.toInt ≤ 41) := hr136
        obtain ⟨hr136_0, hr136_1⟩ := hr136
        obtain ⟨hr136_1_0, hr136_1_1⟩ := hr136_1
        refine lv_iload_n C.x C.b dX4_number_62 rfl (lv_at hl 1 rfl) ?_
        exact c_reti C hsz hsl ⟨P132, n137, F138, F139, F140, Z141⟩ ⟨⟨hr131_0, hr131_1, kpz133, hr136_0, (vX4_number_62 κ k0 r1 x2 r4 x73 r74 x75 n137 hpre_1 hpre_2 hpre_5 hpre_6 hr1_0 hr1_1 ex2 tx2 c3 hr4_0 hr4_1 hr4_2 c5 ex73 tx73 hr74_0 hr74_1 ex75 tx75 c76 hr136_1_0 hr136_1_1)⟩, (vX4_number_63 ad sa κ k0 r1 x2 r4 x73 r74 x75 r130 P132 b134 n137 F138 F139 F140 hPV hSV hpre_0 hpre_1 hpre_2 hpre_3 hpre_4 hpre_5 hpre_6 hr1y hr1_0 hr1_1 ex2 tx2 c3 hr4y hr4_0 hr4_1 hr4_2 c5 ex73 tx73 hr74y hr74_0 hr74_1 ex75 tx75 c76 hr131_0 hr131_2 hr131y hr136y hr136_1_0 hr136_1_1)⟩ hP hS ⟨(Nat.le_of_ble_eq_true rfl), (Nat.le_of_ble_eq_true rfl)⟩ ⟨(Nat.le_of_ble_eq_true rfl), (Nat.le_of_ble_eq_true rfl)⟩ dX4_number_63
  · have c3 : 6 < x2.toInt := by have h := z_nle c3; rw [show (6 : Int32).toInt = 6 from by decide +kernel] at h; exact h
    refine lv_iconst (v := (-1)) C.x C.b dX4_number_14 (by decide +kernel) ?_
    have hP : CH D cy ad A (tQ (tA (tA (tA (tI (tP κ κ.2.2.2.2) 7 (κ.1 7)) 10 (κ.2.2.1 10)) 11 (κ.2.2.1 11)) 12 (κ.2.2.1 12)) 13 (κ.2.2.2.1 13)) H := CH.cong hP rfl rfl rfl rfl rfl rfl rfl rfl rfl rfl rfl rfl rfl rfl rfl rfl rfl rfl rfl rfl rfl rfl rfl rfl rfl rfl rfl
    exact c_reti C hsz hsl ⟨κ.2.2.2.2, (κ.1 7), (κ.2.2.1 10), (κ.2.2.1 11), (κ.2.2.1 12), (κ.2.2.2.1 13)⟩ ⟨⟨EX.rf, hPV, KPx.rf, hSV, (vX4_number_29 κ hpre_3 hpre_4)⟩, (vX4_number_64 ad sa κ k0 r1 x2 hPV hSV hpre_0 hpre_1 hpre_2 hpre_3 hpre_4 hpre_5 hpre_6 hr1y hr1_0 hr1_1 ex2 tx2 c3)⟩ hP hS ⟨(Nat.le_of_ble_eq_true rfl), (Nat.le_of_ble_eq_true rfl)⟩ ⟨(Nat.le_of_ble_eq_true rfl), (Nat.le_of_ble_eq_true rfl)⟩ dX4_number_15
