-- post @99
theorem vX4_add_1 (κ : KS) (hpre_0 : 0 ≤ (κ.1 7).toInt) (hpre_1 : (κ.1 7).toInt ≤ 41) (c2 : 41 ≤ (κ.1 7).toInt) : 0 ≤ (κ.1 7).toInt ∧ (κ.1 7).toInt ≤ 41 := by
  refine ⟨?_, ?_⟩ <;> first | assumption | omega | (subst_vars; omega) | trivial
-- post2 @99
theorem vX4_add_2 (κ : KS) (k0 : Int32) (k1 : Int32) (k2 : Int32) (hpre_0 : 0 ≤ (κ.1 7).toInt) (hpre_1 : (κ.1 7).toInt ≤ 41) (c2 : 41 ≤ (κ.1 7).toInt) : (κ.1 7).toInt < 41 → ADc (κ.2.2.1 10) (κ.2.2.1 11) (κ.2.2.1 12) (κ.1 7) (κ.2.2.1 10) (κ.2.2.1 11) (κ.2.2.1 12) (κ.1 7) k0 k1 k2 := by
  intro h41
  first | (exfalso; omega) | exact ⟨by omega, rfl, rfl, rfl⟩
-- dead@21 @99
theorem vX4_add_3 (κ : KS) (hpre_0 : 0 ≤ (κ.1 7).toInt) (hpre_1 : (κ.1 7).toInt ≤ 41) (c2 : (κ.1 7).toInt < 41) (c4 : 41 ≤ (κ.1 7).toInt) : False := by
  first | assumption | omega | (subst_vars; omega) | trivial
-- dead@33 @99
theorem vX4_add_4 (κ : KS) (hpre_0 : 0 ≤ (κ.1 7).toInt) (hpre_1 : (κ.1 7).toInt ≤ 41) (c2 : (κ.1 7).toInt < 41) (c4 : (κ.1 7).toInt < 41) (c6 : 41 ≤ (κ.1 7).toInt) : False := by
  first | assumption | omega | (subst_vars; omega) | trivial
-- dead@45 @99
theorem vX4_add_5 (κ : KS) (hpre_0 : 0 ≤ (κ.1 7).toInt) (hpre_1 : (κ.1 7).toInt ≤ 41) (c2 : (κ.1 7).toInt < 41) (c4 : (κ.1 7).toInt < 41) (c6 : (κ.1 7).toInt < 41) (c8 : 41 ≤ (κ.1 7).toInt) : False := by
  first | assumption | omega | (subst_vars; omega) | trivial
-- in@57 @57
theorem vX4_add_6 (κ : KS) (hpre_0 : 0 ≤ (κ.1 7).toInt) (hpre_1 : (κ.1 7).toInt ≤ 41) (c2 : (κ.1 7).toInt < 41) (c4 : (κ.1 7).toInt < 41) (c6 : (κ.1 7).toInt < 41) (c8 : (κ.1 7).toInt < 41) : vp_in (κ.1 7) 41 := by
  exact vp_in_iff.mpr ⟨by omega, by omega⟩
-- nw@95 @95
theorem vX4_add_7 (κ : KS) (x11 : Int32) (hpre_0 : 0 ≤ (κ.1 7).toInt) (hpre_1 : (κ.1 7).toInt ≤ 41) (c2 : (κ.1 7).toInt < 41) (c4 : (κ.1 7).toInt < 41) (c6 : (κ.1 7).toInt < 41) (c8 : (κ.1 7).toInt < 41) (ex11 : x11 = (κ.1 7) + (1 : Int32)) : x11.toInt = (κ.1 7).toInt + 1 := by
  have q1 : (1 : Int32).toInt = 1 := by decide +kernel
  have w1 : (1 : Int32).toInt = 1 := by decide +kernel
  rw [ex11, z_add (by omega) (by omega)]; first | done | omega
-- post @99
theorem vX4_add_8 (κ : KS) (x11 : Int32) (hpre_0 : 0 ≤ (κ.1 7).toInt) (hpre_1 : (κ.1 7).toInt ≤ 41) (c2 : (κ.1 7).toInt < 41) (c4 : (κ.1 7).toInt < 41) (c6 : (κ.1 7).toInt < 41) (c8 : (κ.1 7).toInt < 41) (ex11 : x11 = (κ.1 7) + (1 : Int32)) (tx11 : x11.toInt = (κ.1 7).toInt + 1) : 0 ≤ x11.toInt ∧ x11.toInt ≤ 41 := by
  have q1 : (1 : Int32).toInt = 1 := by decide +kernel
  refine ⟨?_, ?_⟩ <;> first | assumption | omega | (subst_vars; omega) | trivial
-- post2 @99
theorem vX4_add_9 (κ : KS) (k0 : Int32) (k1 : Int32) (k2 : Int32) (x11 : Int32) (hpre_0 : 0 ≤ (κ.1 7).toInt) (hpre_1 : (κ.1 7).toInt ≤ 41) (c2 : (κ.1 7).toInt < 41) (c4 : (κ.1 7).toInt < 41) (c6 : (κ.1 7).toInt < 41) (c8 : (κ.1 7).toInt < 41) (ex11 : x11 = (κ.1 7) + (1 : Int32)) (tx11 : x11.toInt = (κ.1 7).toInt + 1) : (κ.1 7).toInt < 41 → ADc (κ.2.2.1 10) (κ.2.2.1 11) (κ.2.2.1 12) (κ.1 7) (upd (κ.2.2.1 10) (κ.1 7).toNatClampNeg k0) (upd (κ.2.2.1 11) (κ.1 7).toNatClampNeg k1) (upd (κ.2.2.1 12) (κ.1 7).toNatClampNeg k2) x11 k0 k1 k2 := by
  have q1 : (1 : Int32).toInt = 1 := by decide +kernel
  intro h41
  first | (exfalso; omega) | exact ⟨by omega, rfl, rfl, rfl⟩
-- nw@95 @95
theorem vX4_add_10 (κ : KS) (x13 : Int32) (hpre_0 : 0 ≤ (κ.1 7).toInt) (hpre_1 : (κ.1 7).toInt ≤ 41) (c2 : (κ.1 7).toInt < 41) (c4 : (κ.1 7).toInt < 41) (c6 : (κ.1 7).toInt < 41) (c8 : (κ.1 7).toInt < 41) (ex13 : x13 = (κ.1 7) + (1 : Int32)) : x13.toInt = (κ.1 7).toInt + 1 := by
  have q1 : (1 : Int32).toInt = 1 := by decide +kernel
  have w1 : (1 : Int32).toInt = 1 := by decide +kernel
  rw [ex13, z_add (by omega) (by omega)]; first | done | omega
-- post @99
theorem vX4_add_11 (κ : KS) (x13 : Int32) (hpre_0 : 0 ≤ (κ.1 7).toInt) (hpre_1 : (κ.1 7).toInt ≤ 41) (c2 : (κ.1 7).toInt < 41) (c4 : (κ.1 7).toInt < 41) (c6 : (κ.1 7).toInt < 41) (c8 : (κ.1 7).toInt < 41) (ex13 : x13 = (κ.1 7) + (1 : Int32)) (tx13 : x13.toInt = (κ.1 7).toInt + 1) : 0 ≤ x13.toInt ∧ x13.toInt ≤ 41 := by
  have q1 : (1 : Int32).toInt = 1 := by decide +kernel
  refine ⟨?_, ?_⟩ <;> first | assumption | omega | (subst_vars; omega) | trivial
-- post2 @99
theorem vX4_add_12 (κ : KS) (k0 : Int32) (k1 : Int32) (k2 : Int32) (x13 : Int32) (hpre_0 : 0 ≤ (κ.1 7).toInt) (hpre_1 : (κ.1 7).toInt ≤ 41) (c2 : (κ.1 7).toInt < 41) (c4 : (κ.1 7).toInt < 41) (c6 : (κ.1 7).toInt < 41) (c8 : (κ.1 7).toInt < 41) (ex13 : x13 = (κ.1 7) + (1 : Int32)) (tx13 : x13.toInt = (κ.1 7).toInt + 1) : (κ.1 7).toInt < 41 → ADc (κ.2.2.1 10) (κ.2.2.1 11) (κ.2.2.1 12) (κ.1 7) (upd (κ.2.2.1 10) (κ.1 7).toNatClampNeg k0) (upd (κ.2.2.1 11) (κ.1 7).toNatClampNeg k1) (upd (κ.2.2.1 12) (κ.1 7).toNatClampNeg k2) x13 k0 k1 k2 := by
  have q1 : (1 : Int32).toInt = 1 := by decide +kernel
  intro h41
  first | (exfalso; omega) | exact ⟨by omega, rfl, rfl, rfl⟩
set_option maxHeartbeats 4000000 in
set_option maxRecDepth 100000 in
theorem NX4_add (l : Launch) (D : va_G) (cy : Nat → ClassId) (ad : Nat → Nat) (A : Nat → Prop) (sz0 : Nat) (sa : Nat → Nat)  (κ : KS) (sz sl : Nat) (hAF : ∀ q, A q → Fr sz0 q) (hAn : ∀ q : Nat, sz ≤ q → A q) (k0 : Int32) (k1 : Int32) (k2 : Int32) (k3 : Option Nat) (ht3 : NT κ.2.2.2.2 1 k3) (hSV : SV ad κ.2.2.2.2 (κ.2.1 0) (κ.2.1 1) (κ.2.2.2.1 6) (κ.2.2.2.1 7) (κ.2.2.2.1 8) (κ.2.2.2.1 13) (κ.2.2.2.1 15) (κ.2.2.2.1 17) (κ.1 1).toInt) (hpre : 0 ≤ (κ.1 7).toInt ∧ (κ.1 7).toInt ≤ 41) : Met l yX4_add (Cond.code yX4_add cX4_add 5 none :: GWc) ({ frames := 0, cells := 0, slots := 0, locals := 0 }) (PcC D cy ad A sz0 sa [.ref (ad 2), .int k0, .int k1, .int k2, va_rf k3] κ sz sl) (va_Qv (fun (u : Int32 × (Nat → Int32) × (Nat → Int32) × (Nat → Int32) × (Nat → Option Nat)) => ((SV ad κ.2.2.2.2 (κ.2.1 0) (κ.2.1 1) (κ.2.2.2.1 6) (κ.2.2.2.1 7) (κ.2.2.2.1 8) u.2.2.2.2 (κ.2.2.2.1 15) (κ.2.2.2.1 17) (κ.1 1).toInt) ∧ (0 ≤ u.1.toInt ∧ u.1.toInt ≤ 41)) ∧ ((κ.1 7).toInt < 41 → ADc (κ.2.2.1 10) (κ.2.2.1 11) (κ.2.2.1 12) (κ.1 7) u.2.1 u.2.2.1 u.2.2.2.1 u.1 k0 k1 k2)) (fun (u : Int32 × (Nat → Int32) × (Nat → Int32) × (Nat → Int32) × (Nat → Option Nat)) (t : State) => Bx D cy ad A sz sl (tQ (tA (tA (tA (tI κ 7 u.1) 10 u.2.1) 11 u.2.2.1) 12 u.2.2.2.1) 13 u.2.2.2.2) (0) (0) t) A) (0) (0) A := by
  refine CM_of (loc0 := [(0, .ref (ad 2)), (1, .int k0), (2, .int k1), (3, .int k2), (4, va_rf k3)]) (own := RX4) (nm := "add") (by decide) rfl rfl (by cases k3 <;> rfl) (by cases k3 <;> exact Nat.le_of_ble_eq_true rfl) hAF hAn ?_
  intro p e s m below meth c ls hsz hsl C hP hS hl
  obtain ⟨hpre_0, hpre_1⟩ := hpre
  refine lv_aload_n C.x C.b dX4_add_0 rfl (lv_at hl 0 rfl) ?_
  refine cg_X4_6 (v := (κ.1 7)) C hP rfl cw_476 dX4_add_1 ?_
  refine lv_aload_n C.x C.b dX4_add_4 rfl (lv_at hl 0 rfl) ?_
  refine cg_X4_2 C hP cw_465 dX4_add_5 ?_
  refine cl_10 C hP dX4_add_8 ?_
  refine lv_icmp_ge (tgt := 99) C.x C.b dX4_add_9 (by decide) (fun c2 => ?_) (fun c2 => ?_)
  · have c2 : 41 ≤ (κ.1 7).toInt := by have h := z_le c2; rw [show (41 : Int32).toInt = 41 from by decide +kernel] at h; exact h
    have hP : CH D cy ad A (tQ (tA (tA (tA (tI κ 7 (κ.1 7)) 10 (κ.2.2.1 10)) 11 (κ.2.2.1 11)) 12 (κ.2.2.1 12)) 13 (κ.2.2.2.1 13)) s.heap := CH.cong hP rfl rfl rfl rfl rfl rfl rfl rfl rfl rfl rfl rfl rfl rfl rfl rfl rfl rfl rfl rfl rfl rfl rfl rfl rfl rfl rfl
    exact c_retv C hsz hsl ⟨(κ.1 7), (κ.2.2.1 10), (κ.2.2.1 11), (κ.2.2.1 12), (κ.2.2.2.1 13)⟩ ⟨⟨hSV, (vX4_add_1 κ hpre_0 hpre_1 c2)⟩, (vX4_add_2 κ k0 k1 k2 hpre_0 hpre_1 c2)⟩ hP hS ⟨(Nat.le_of_ble_eq_true rfl), (Nat.le_of_ble_eq_true rfl)⟩ ⟨(Nat.le_of_ble_eq_true rfl), (Nat.le_of_ble_eq_true rfl)⟩ dX4_add_99
  · have c2 : (κ.1 7).toInt < 41 := by have h := z_nle c2; rw [show (41 : Int32).toInt = 41 from by decide +kernel] at h; exact h
    refine lv_aload_n C.x C.b dX4_add_12 rfl (lv_at hl 0 rfl) ?_
    refine cg_X4_6 (v := (κ.1 7)) C hP rfl cw_476 dX4_add_13 ?_
    refine lv_aload_n C.x C.b dX4_add_16 rfl (lv_at hl 0 rfl) ?_
    refine cg_X4_3 C hP cw_466 dX4_add_17 ?_
    refine cl_11 C hP dX4_add_20 ?_
    refine lv_icmp_ge (tgt := 99) C.x C.b dX4_add_21 (by decide) (fun c4 => ?_) (fun c4 => ?_)
    · have c4 : 41 ≤ (κ.1 7).toInt := by have h := z_le c4; rw [show (41 : Int32).toInt = 41 from by decide +kernel] at h; exact h
      exact absurd (vX4_add_3 κ hpre_0 hpre_1 c2 c4) id
    · have c4 : (κ.1 7).toInt < 41 := by have h := z_nle c4; rw [show (41 : Int32).toInt = 41 from by decide +kernel] at h; exact h
      refine lv_aload_n C.x C.b dX4_add_24 rfl (lv_at hl 0 rfl) ?_
      refine cg_X4_6 (v := (κ.1 7)) C hP rfl cw_476 dX4_add_25 ?_
      refine lv_aload_n C.x C.b dX4_add_28 rfl (lv_at hl 0 rfl) ?_
      refine cg_X4_4 C hP cw_467 dX4_add_29 ?_
      refine cl_12 C hP dX4_add_32 ?_
      refine lv_icmp_ge (tgt := 99) C.x C.b dX4_add_33 (by decide) (fun c6 => ?_) (fun c6 => ?_)
      · have c6 : 41 ≤ (κ.1 7).toInt := by have h := z_le c6; rw [show (41 : Int32).toInt = 41 from by decide +kernel] at h; exact h
        exact absurd (vX4_add_4 κ hpre_0 hpre_1 c2 c4 c6) id
      · have c6 : (κ.1 7).toInt < 41 := by have h := z_nle c6; rw [show (41 : Int32).toInt = 41 from by decide +kernel] at h; exact h
        refine lv_aload_n C.x C.b dX4_add_36 rfl (lv_at hl 0 rfl) ?_
        refine cg_X4_6 (v := (κ.1 7)) C hP rfl cw_476 dX4_add_37 ?_
        refine lv_aload_n C.x C.b dX4_add_40 rfl (lv_at hl 0 rfl) ?_
        refine cg_X4_5 C hP cw_469 dX4_add_41 ?_
        refine cl_13 C hP dX4_add_44 ?_
        refine lv_icmp_ge (tgt := 99) C.x C.b dX4_add_45 (by decide) (fun c8 => ?_) (fun c8 => ?_)
        · have c8 : 41 ≤ (κ.1 7).toInt := by have h := z_le c8; rw [show (41 : Int32).toInt = 41 from by decide +kernel] at h; exact h
          exact absurd (vX4_add_5 κ hpre_0 hpre_1 c2 c4 c6 c8) id
        · have c8 : (κ.1 7).toInt < 41 := by have h := z_nle c8; rw [show (41 : Int32).toInt = 41 from by decide +kernel] at h; exact h
          refine lv_aload_n C.x C.b dX4_add_48 rfl (lv_at hl 0 rfl) ?_
          refine cg_X4_2 C hP cw_465 dX4_add_49 ?_
          refine lv_aload_n C.x C.b dX4_add_52 rfl (lv_at hl 0 rfl) ?_
          refine cg_X4_6 (v := (κ.1 7)) C hP rfl cw_476 dX4_add_53 ?_
          refine lv_iload_n C.x C.b dX4_add_56 rfl (lv_at hl 1 rfl) ?_
          refine cw_st10 (f := (κ.2.2.1 10)) C hP hS rfl (vX4_add_6 κ hpre_0 hpre_1 c2 c4 c6 c8) dX4_add_57 (fun H locs hP hS => ?_)
          refine lv_aload_n C.x C.b dX4_add_58 rfl (lv_at hl 0 rfl) ?_
          refine cg_X4_3 C hP cw_466 dX4_add_59 ?_
          refine lv_aload_n C.x C.b dX4_add_62 rfl (lv_at hl 0 rfl) ?_
          refine cg_X4_6 (v := (κ.1 7)) C hP rfl cw_476 dX4_add_63 ?_
          refine lv_iload_n C.x C.b dX4_add_66 rfl (lv_at hl 2 rfl) ?_
          refine cw_st11 (f := (κ.2.2.1 11)) C hP hS rfl (vX4_add_6 κ hpre_0 hpre_1 c2 c4 c6 c8) dX4_add_67 (fun H locs hP hS => ?_)
          refine lv_aload_n C.x C.b dX4_add_68 rfl (lv_at hl 0 rfl) ?_
          refine cg_X4_4 C hP cw_467 dX4_add_69 ?_
          refine lv_aload_n C.x C.b dX4_add_72 rfl (lv_at hl 0 rfl) ?_
          refine cg_X4_6 (v := (κ.1 7)) C hP rfl cw_476 dX4_add_73 ?_
          refine lv_iload_n C.x C.b dX4_add_76 rfl (lv_at hl 3 rfl) ?_
          refine cw_st12 (f := (κ.2.2.1 12)) C hP hS rfl (vX4_add_6 κ hpre_0 hpre_1 c2 c4 c6 c8) dX4_add_77 (fun H locs hP hS => ?_)
          refine lv_aload_n C.x C.b dX4_add_78 rfl (lv_at hl 0 rfl) ?_
          refine cg_X4_5 C hP cw_469 dX4_add_79 ?_
          refine lv_aload_n C.x C.b dX4_add_82 rfl (lv_at hl 0 rfl) ?_
          refine cg_X4_6 (v := (κ.1 7)) C hP rfl cw_476 dX4_add_83 ?_
          refine lq_aload C.x C.b dX4_add_86 (lv_at hl 4 rfl) ?_
          cases k3 with
          | none =>
            refine cw_st13n (f := (κ.2.2.2.1 13)) C hP hS rfl (vX4_add_6 κ hpre_0 hpre_1 c2 c4 c6 c8) dX4_add_88 (fun H locs hP hS => ?_)
            have svz10 : SV ad κ.2.2.2.2 (κ.2.1 0) (κ.2.1 1) (κ.2.2.2.1 6) (κ.2.2.2.1 7) (κ.2.2.2.1 8) (va_up (κ.2.2.2.1 13) (κ.1 7).toNatClampNeg none) (κ.2.2.2.1 15) (κ.2.2.2.1 17) (κ.1 1).toInt := hSV.s13 nt_n
            refine lv_aload_n C.x C.b dX4_add_89 rfl (lv_at hl 0 rfl) ?_
            refine lv_dup C.x C.b dX4_add_90 rfl ?_
            refine cg_X4_6 (v := (κ.1 7)) C hP rfl cw_476 dX4_add_91 ?_
            refine lv_iconst (v := 1) C.x C.b dX4_add_94 (by decide +kernel) ?_
            refine lv_iadd C.x C.b dX4_add_95 ?_
            refine lv_topi (fun x11 ex11 => ?_)
            have tx11 : x11.toInt = (κ.1 7).toInt + 1 := (vX4_add_7 κ x11 hpre_0 hpre_1 c2 c4 c6 c8 ex11)
            refine cp_X4_6 (v := x11) C hP hS cw_476 dX4_add_96 (fun H locs hP hS => ?_)
            have hP : CH D cy ad A (tQ (tA (tA (tA (tI κ 7 x11) 10 (upd (κ.2.2.1 10) (κ.1 7).toNatClampNeg k0)) 11 (upd (κ.2.2.1 11) (κ.1 7).toNatClampNeg k1)) 12 (upd (κ.2.2.1 12) (κ.1 7).toNatClampNeg k2)) 13 (va_up (κ.2.2.2.1 13) (κ.1 7).toNatClampNeg none)) H := CH.cong hP rfl rfl rfl rfl rfl rfl rfl rfl rfl rfl rfl rfl rfl rfl rfl rfl rfl rfl rfl rfl rfl rfl rfl rfl rfl rfl rfl
            exact c_retv C hsz hsl ⟨x11, (upd (κ.2.2.1 10) (κ.1 7).toNatClampNeg k0), (upd (κ.2.2.1 11) (κ.1 7).toNatClampNeg k1), (upd (κ.2.2.1 12) (κ.1 7).toNatClampNeg k2), (va_up (κ.2.2.2.1 13) (κ.1 7).toNatClampNeg none)⟩ ⟨⟨svz10, (vX4_add_8 κ x11 hpre_0 hpre_1 c2 c4 c6 c8 ex11 tx11)⟩, (vX4_add_9 κ k0 k1 k2 x11 hpre_0 hpre_1 c2 c4 c6 c8 ex11 tx11)⟩ hP hS ⟨(Nat.le_of_ble_eq_true rfl), (Nat.le_of_ble_eq_true rfl)⟩ ⟨(Nat.le_of_ble_eq_true rfl), (Nat.le_of_ble_eq_true rfl)⟩ dX4_add_99
          | some b9 =>
            have hb9 : oT κ.2.2.2.2 b9 = 1 := ht3 b9 rfl
            refine cw_st13 (f := (κ.2.2.2.1 13)) C hP hS rfl (t20 (a := b9) (t := 1) hb9) (vX4_add_6 κ hpre_0 hpre_1 c2 c4 c6 c8) dX4_add_88 (fun H locs hP hS => ?_)
            have svz12 : SV ad κ.2.2.2.2 (κ.2.1 0) (κ.2.1 1) (κ.2.2.2.1 6) (κ.2.2.2.1 7) (κ.2.2.2.1 8) (va_up (κ.2.2.2.1 13) (κ.1 7).toNatClampNeg (some b9)) (κ.2.2.2.1 15) (κ.2.2.2.1 17) (κ.1 1).toInt := hSV.s13 (nt_s hb9)
            refine lv_aload_n C.x C.b dX4_add_89 rfl (lv_at hl 0 rfl) ?_
            refine lv_dup C.x C.b dX4_add_90 rfl ?_
            refine cg_X4_6 (v := (κ.1 7)) C hP rfl cw_476 dX4_add_91 ?_
            refine lv_iconst (v := 1) C.x C.b dX4_add_94 (by decide +kernel) ?_
            refine lv_iadd C.x C.b dX4_add_95 ?_
            refine lv_topi (fun x13 ex13 => ?_)
            have tx13 : x13.toInt = (κ.1 7).toInt + 1 := (vX4_add_10 κ x13 hpre_0 hpre_1 c2 c4 c6 c8 ex13)
            refine cp_X4_6 (v := x13) C hP hS cw_476 dX4_add_96 (fun H locs hP hS => ?_)
            have hP : CH D cy ad A (tQ (tA (tA (tA (tI κ 7 x13) 10 (upd (κ.2.2.1 10) (κ.1 7).toNatClampNeg k0)) 11 (upd (κ.2.2.1 11) (κ.1 7).toNatClampNeg k1)) 12 (upd (κ.2.2.1 12) (κ.1 7).toNatClampNeg k2)) 13 (va_up (κ.2.2.2.1 13) (κ.1 7).toNatClampNeg (some b9))) H := CH.cong hP rfl rfl rfl rfl rfl rfl rfl rfl rfl rfl rfl rfl rfl rfl rfl rfl rfl rfl rfl rfl rfl rfl rfl rfl rfl rfl rfl
            exact c_retv C hsz hsl ⟨x13, (upd (κ.2.2.1 10) (κ.1 7).toNatClampNeg k0), (upd (κ.2.2.1 11) (κ.1 7).toNatClampNeg k1), (upd (κ.2.2.1 12) (κ.1 7).toNatClampNeg k2), (va_up (κ.2.2.2.1 13) (κ.1 7).toNatClampNeg (some b9))⟩ ⟨⟨svz12, (vX4_add_11 κ x13 hpre_0 hpre_1 c2 c4 c6 c8 ex13 tx13)⟩, (vX4_add_12 κ k0 k1 k2 x13 hpre_0 hpre_1 c2 c4 c6 c8 ex13 tx13)⟩ hP hS ⟨(Nat.le_of_ble_eq_true rfl), (Nat.le_of_ble_eq_true rfl)⟩ ⟨(Nat.le_of_ble_eq_true rfl), (Nat.le_of_ble_eq_true rfl)⟩ dX4_add_99

-- init@4 @4
theorem vX4_name_1 (k0 : Int32) (hpre_5 : 0 ≤ k0.toInt) (hpre_6 : k0.toInt ≤ 40) : k0.toInt ≤ k0.toInt ∧ k0.toInt ≤ 40 := by
  refine ⟨?_, ?_⟩ <;> first | assumption | omega | (subst_vars; omega) | trivial
-- init2@4 @4
theorem vX4_name_2 (κ : KS) (k0 : Int32) (hpre_0 : L9 (κ.2.2.1 9)) (hpre_1 : 0 ≤ (κ.1 6).toInt) (hpre_2 : (κ.1 6).toInt ≤ 40) (hpre_3 : 0 ≤ (κ.1 7).toInt) (hpre_4 : (κ.1 7).toInt ≤ 41) (hpre_5 : 0 ≤ k0.toInt) (hpre_6 : k0.toInt ≤ 40) : RT lw (tx (κ.2.2.1 9) (κ.1 6)) k0.toInt k0.toInt ∧ (k0.toInt - k0.toInt ≤ 5 → (0 : Int32).toInt = nval (tx (κ.2.2.1 9) (κ.1 6)) k0.toInt (k0.toInt - k0.toInt).toNat) := by
  have q0 : (0 : Int32).toInt = 0 := by decide +kernel
  refine ⟨RT.at rfl, fun _ => ?_⟩
  rw [show (k0.toInt - k0.toInt).toNat = 0 by omega]; exact q0
-- nw@47 @47
theorem vX4_name_3 (κ : KS) (k0 : Int32) (y2 : Int32) (x4 : Int32) (hpre_1 : 0 ≤ (κ.1 6).toInt) (hpre_2 : (κ.1 6).toInt ≤ 40) (hpre_5 : 0 ≤ k0.toInt) (hpre_6 : k0.toInt ≤ 40) (hi4_0 : k0.toInt ≤ y2.toInt) (hi4_1 : y2.toInt ≤ 40) (c3 : (κ.1 6).toInt ≤ y2.toInt) (ex4 : x4 = y2 - k0) : x4.toInt = y2.toInt - k0.toInt := by
  rw [ex4, z_sub (by omega) (by omega)]; first | done | omega
-- pre:X4_add@59 @59
theorem vX4_name_4 (κ : KS) (hpre_3 : 0 ≤ (κ.1 7).toInt) (hpre_4 : (κ.1 7).toInt ≤ 41) : 0 ≤ (κ.1 7).toInt ∧ (κ.1 7).toInt ≤ 41 := by
  refine ⟨?_, ?_⟩ <;> first | assumption | omega | (subst_vars; omega) | trivial
-- post @63
theorem vX4_name_5 (κ : KS) (k0 : Int32) (y2 : Int32) (x4 : Int32) (n7 : Int32) (hpre_1 : 0 ≤ (κ.1 6).toInt) (hpre_2 : (κ.1 6).toInt ≤ 40) (hpre_5 : 0 ≤ k0.toInt) (hpre_6 : k0.toInt ≤ 40) (hi4_0 : k0.toInt ≤ y2.toInt) (hi4_1 : y2.toInt ≤ 40) (c3 : (κ.1 6).toInt ≤ y2.toInt) (ex4 : x4 = y2 - k0) (tx4 : x4.toInt = y2.toInt - k0.toInt) (c5 : x4.toInt ≤ 5) (hr6_1_0 : 0 ≤ n7.toInt) (hr6_1_1 : n7.toInt ≤ 41) : 0 ≤ n7.toInt ∧ n7.toInt ≤ 41 ∧ y2.toInt ≤ 40 := by
  refine ⟨?_, ?_, ?_⟩ <;> first | assumption | omega | (subst_vars; omega) | trivial
-- post2 @63
theorem vX4_name_6 (κ : KS) (k0 : Int32) (y1 : Int32) (y2 : Int32) (x4 : Int32) (n7 : Int32) (F8 : (Nat → Int32)) (F9 : (Nat → Int32)) (F10 : (Nat → Int32)) (hpre_0 : L9 (κ.2.2.1 9)) (hpre_1 : 0 ≤ (κ.1 6).toInt) (hpre_2 : (κ.1 6).toInt ≤ 40) (hpre_3 : 0 ≤ (κ.1 7).toInt) (hpre_4 : (κ.1 7).toInt ≤ 41) (hpre_5 : 0 ≤ k0.toInt) (hpre_6 : k0.toInt ≤ 40) (hi4_0 : k0.toInt ≤ y2.toInt) (hi4_1 : y2.toInt ≤ 40) (hi4y_0 : RT lw (tx (κ.2.2.1 9) (κ.1 6)) k0.toInt y2.toInt) (hi4y_1 : y2.toInt - k0.toInt ≤ 5 → y1.toInt = nval (tx (κ.2.2.1 9) (κ.1 6)) k0.toInt (y2.toInt - k0.toInt).toNat) (c3 : (κ.1 6).toInt ≤ y2.toInt) (ex4 : x4 = y2 - k0) (tx4 : x4.toInt = y2.toInt - k0.toInt) (c5 : x4.toInt ≤ 5) (hr6y : (κ.1 7).toInt < 41 → ADc (κ.2.2.1 10) (κ.2.2.1 11) (κ.2.2.1 12) (κ.1 7) F8 F9 F10 n7 (2 : Int32) k0 y1) (hr6_1_0 : 0 ≤ n7.toInt) (hr6_1_1 : n7.toInt ≤ 41) : (κ.1 7).toInt ≤ k0.toInt → k0.toInt < (κ.1 6).toInt → lw (tx (κ.2.2.1 9) (κ.1 6) k0.toInt) → ∃ t9, TokR (tx (κ.2.2.1 9) (κ.1 6)) (κ.1 6).toInt k0.toInt t9 ∧ LXc (κ.2.2.1 10) (κ.2.2.1 11) (κ.2.2.1 12) (κ.1 7) F8 F9 F10 n7 k0.toInt y2.toInt t9 := by
  have q2 : (2 : Int32).toInt = 2 := by decide +kernel
  intro h1 h2 h3
  have hl : ¬ lw (tx (κ.2.2.1 9) (κ.1 6) y2.toInt) := by
    first | omega | (rw [tx_o (by omega)]; omega)
  have lt := RT_lt hi4y_0 hl h3
  exact ⟨_, wrdN hi4y_0 hl (by omega) (hi4y_1 (by omega)) h3, LXc.add (hr6y (by omega)) rfl (by omega) (by omega) (by first | rfl | omega) rfl⟩
-- post @53
theorem vX4_name_7 (κ : KS) (hpre_3 : 0 ≤ (κ.1 7).toInt) (hpre_4 : (κ.1 7).toInt ≤ 41) : 0 ≤ (κ.1 7).toInt ∧ (κ.1 7).toInt ≤ 41 ∧ (-1 : Int32).toInt ≤ 40 := by
  have qm1 : (-1 : Int32).toInt = (-1) := by decide +kernel
  refine ⟨?_, ?_, ?_⟩ <;> first | assumption | omega | (subst_vars; omega) | trivial
-- post2 @53
theorem vX4_name_8 (κ : KS) (k0 : Int32) (y1 : Int32) (y2 : Int32) (x4 : Int32) (hpre_0 : L9 (κ.2.2.1 9)) (hpre_1 : 0 ≤ (κ.1 6).toInt) (hpre_2 : (κ.1 6).toInt ≤ 40) (hpre_3 : 0 ≤ (κ.1 7).toInt) (hpre_4 : (κ.1 7).toInt ≤ 41) (hpre_5 : 0 ≤ k0.toInt) (hpre_6 : k0.toInt ≤ 40) (hi4_0 : k0.toInt ≤ y2.toInt) (hi4_1 : y2.toInt ≤ 40) (hi4y_0 : RT lw (tx (κ.2.2.1 9) (κ.1 6)) k0.toInt y2.toInt) (hi4y_1 : y2.toInt - k0.toInt ≤ 5 → y1.toInt = nval (tx (κ.2.2.1 9) (κ.1 6)) k0.toInt (y2.toInt - k0.toInt).toNat) (c3 : (κ.1 6).toInt ≤ y2.toInt) (ex4 : x4 = y2 - k0) (tx4 : x4.toInt = y2.toInt - k0.toInt) (c5 : 5 < x4.toInt) : (κ.1 7).toInt ≤ k0.toInt → k0.toInt < (κ.1 6).toInt → lw (tx (κ.2.2.1 9) (κ.1 6) k0.toInt) → ∃ t9, TokR (tx (κ.2.2.1 9) (κ.1 6)) (κ.1 6).toInt k0.toInt t9 ∧ LXc (κ.2.2.1 10) (κ.2.2.1 11) (κ.2.2.1 12) (κ.1 7) (κ.2.2.1 10) (κ.2.2.1 11) (κ.2.2.1 12) (κ.1 7) k0.toInt (-1 : Int32).toInt t9 := by
  have qm1 : (-1 : Int32).toInt = (-1) := by decide +kernel
  intro h1 h2 h3
  have hl : ¬ lw (tx (κ.2.2.1 9) (κ.1 6) y2.toInt) := by
    first | omega | (rw [tx_o (by omega)]; omega)
  have lt := RT_lt hi4y_0 hl h3
  exact ⟨none, wrdX hi4y_0 hl (by omega) h3, by show (-1 : Int32).toInt ≤ _; omega⟩
-- pre:X4_peek@14 @14
theorem vX4_name_9 (κ : KS) (hpre_0 : L9 (κ.2.2.1 9)) : L9 (κ.2.2.1 9) := by
  first | assumption | omega | (subst_vars; omega) | trivial
-- nw@47 @47
theorem vX4_name_10 (κ : KS) (k0 : Int32) (y2 : Int32) (r12 : Int32) (x15 : Int32) (hpre_1 : 0 ≤ (κ.1 6).toInt) (hpre_2 : (κ.1 6).toInt ≤ 40) (hpre_5 : 0 ≤ k0.toInt) (hpre_6 : k0.toInt ≤ 40) (hi4_0 : k0.toInt ≤ y2.toInt) (hi4_1 : y2.toInt ≤ 40) (c3 : y2.toInt < (κ.1 6).toInt) (hr12_0 : 0 ≤ r12.toInt) (hr12_1 : r12.toInt ≤ 126) (hr12_2 : ¬ r12.toInt = 0 → 0 ≤ y2.toInt ∧ y2.toInt < (κ.1 6).toInt) (ex15 : x15 = y2 - k0) : x15.toInt = y2.toInt - k0.toInt := by
  rw [ex15, z_sub (by omega) (by omega)]; first | done | omega
-- post @63
theorem vX4_name_11 (κ : KS) (k0 : Int32) (y2 : Int32) (r12 : Int32) (x15 : Int32) (n18 : Int32) (hpre_1 : 0 ≤ (κ.1 6).toInt) (hpre_2 : (κ.1 6).toInt ≤ 40) (hpre_5 : 0 ≤ k0.toInt) (hpre_6 : k0.toInt ≤ 40) (hi4_0 : k0.toInt ≤ y2.toInt) (hi4_1 : y2.toInt ≤ 40) (c3 : y2.toInt < (κ.1 6).toInt) (hr12_0 : 0 ≤ r12.toInt) (hr12_1 : r12.toInt ≤ 126) (hr12_2 : ¬ r12.toInt = 0 → 0 ≤ y2.toInt ∧ y2.toInt < (κ.1 6).toInt) (ex15 : x15 = y2 - k0) (tx15 : x15.toInt = y2.toInt - k0.toInt) (c16 : x15.toInt ≤ 5) (hr17_1_0 : 0 ≤ n18.toInt) (hr17_1_1 : n18.toInt ≤ 41) : 0 ≤ n18.toInt ∧ n18.toInt ≤ 41 ∧ y2.toInt ≤ 40 := by
  refine ⟨?_, ?_, ?_⟩ <;> first | assumption | omega | (subst_vars; omega) | trivial
-- post2 @63
theorem vX4_name_12 (κ : KS) (k0 : Int32) (y1 : Int32) (y2 : Int32) (r12 : Int32) (r13 : Int32) (x15 : Int32) (n18 : Int32) (F19 : (Nat → Int32)) (F20 : (Nat → Int32)) (F21 : (Nat → Int32)) (hpre_0 : L9 (κ.2.2.1 9)) (hpre_1 : 0 ≤ (κ.1 6).toInt) (hpre_2 : (κ.1 6).toInt ≤ 40) (hpre_3 : 0 ≤ (κ.1 7).toInt) (hpre_4 : (κ.1 7).toInt ≤ 41) (hpre_5 : 0 ≤ k0.toInt) (hpre_6 : k0.toInt ≤ 40) (hi4_0 : k0.toInt ≤ y2.toInt) (hi4_1 : y2.toInt ≤ 40) (hi4y_0 : RT lw (tx (κ.2.2.1 9) (κ.1 6)) k0.toInt y2.toInt) (hi4y_1 : y2.toInt - k0.toInt ≤ 5 → y1.toInt = nval (tx (κ.2.2.1 9) (κ.1 6)) k0.toInt (y2.toInt - k0.toInt).toNat) (c3 : y2.toInt < (κ.1 6).toInt) (hr12y : (κ.1 6).toInt ≤ 40 → r12.toInt = tx (κ.2.2.1 9) (κ.1 6) y2.toInt) (hr12_0 : 0 ≤ r12.toInt) (hr12_1 : r12.toInt ≤ 126) (hr12_2 : ¬ r12.toInt = 0 → 0 ≤ y2.toInt ∧ y2.toInt < (κ.1 6).toInt) (hr13y_0 : ¬ r13.toInt = 0 → lw r12.toInt) (hr13y_1 : r13.toInt = 0 → ¬ lw r12.toInt) (hr13_0 : 0 ≤ r13.toInt) (hr13_1 : r13.toInt ≤ 1) (c14 : r13.toInt = 0) (ex15 : x15 = y2 - k0) (tx15 : x15.toInt = y2.toInt - k0.toInt) (c16 : x15.toInt ≤ 5) (hr17y : (κ.1 7).toInt < 41 → ADc (κ.2.2.1 10) (κ.2.2.1 11) (κ.2.2.1 12) (κ.1 7) F19 F20 F21 n18 (2 : Int32) k0 y1) (hr17_1_0 : 0 ≤ n18.toInt) (hr17_1_1 : n18.toInt ≤ 41) : (κ.1 7).toInt ≤ k0.toInt → k0.toInt < (κ.1 6).toInt → lw (tx (κ.2.2.1 9) (κ.1 6) k0.toInt) → ∃ t9, TokR (tx (κ.2.2.1 9) (κ.1 6)) (κ.1 6).toInt k0.toInt t9 ∧ LXc (κ.2.2.1 10) (κ.2.2.1 11) (κ.2.2.1 12) (κ.1 7) F19 F20 F21 n18 k0.toInt y2.toInt t9 := by
  have q2 : (2 : Int32).toInt = 2 := by decide +kernel
  intro h1 h2 h3
  have pk0 := hr12y (by omega)
  have hl : ¬ lw (tx (κ.2.2.1 9) (κ.1 6) y2.toInt) := by
    first | omega | (rw [tx_o (by omega)]; omega)
  have lt := RT_lt hi4y_0 hl h3
  exact ⟨_, wrdN hi4y_0 hl (by omega) (hi4y_1 (by omega)) h3, LXc.add (hr17y (by omega)) rfl (by omega) (by omega) (by first | rfl | omega) rfl⟩
-- post2 @53
theorem vX4_name_13 (κ : KS) (k0 : Int32) (y1 : Int32) (y2 : Int32) (r12 : Int32) (r13 : Int32) (x15 : Int32) (hpre_0 : L9 (κ.2.2.1 9)) (hpre_1 : 0 ≤ (κ.1 6).toInt) (hpre_2 : (κ.1 6).toInt ≤ 40) (hpre_3 : 0 ≤ (κ.1 7).toInt) (hpre_4 : (κ.1 7).toInt ≤ 41) (hpre_5 : 0 ≤ k0.toInt) (hpre_6 : k0.toInt ≤ 40) (hi4_0 : k0.toInt ≤ y2.toInt) (hi4_1 : y2.toInt ≤ 40) (hi4y_0 : RT lw (tx (κ.2.2.1 9) (κ.1 6)) k0.toInt y2.toInt) (hi4y_1 : y2.toInt - k0.toInt ≤ 5 → y1.toInt = nval (tx (κ.2.2.1 9) (κ.1 6)) k0.toInt (y2.toInt - k0.toInt).toNat) (c3 : y2.toInt < (κ.1 6).toInt) (hr12y : (κ.1 6).toInt ≤ 40 → r12.toInt = tx (κ.2.2.1 9) (κ.1 6) y2.toInt) (hr12_0 : 0 ≤ r12.toInt) (hr12_1 : r12.toInt ≤ 126) (hr12_2 : ¬ r12.toInt = 0 → 0 ≤ y2.toInt ∧ y2.toInt < (κ.1 6).toInt) (hr13y_0 : ¬ r13.toInt = 0 → lw r12.toInt) (hr13y_1 : r13.toInt = 0 → ¬ lw r12.toInt) (hr13_0 : 0 ≤ r13.toInt) (hr13_1 : r13.toInt ≤ 1) (c14 : r13.toInt = 0) (ex15 : x15 = y2 - k0) (tx15 : x15.toInt = y2.toInt - k0.toInt) (c16 : 5 < x15.toInt) : (κ.1 7).toInt ≤ k0.toInt → k0.toInt < (κ.1 6).toInt → lw (tx (κ.2.2.1 9) (κ.1 6) k0.toInt) → ∃ t9, TokR (tx (κ.2.2.1 9) (κ.1 6)) (κ.1 6).toInt k0.toInt t9 ∧ LXc (κ.2.2.1 10) (κ.2.2.1 11) (κ.2.2.1 12) (κ.1 7) (κ.2.2.1 10) (κ.2.2.1 11) (κ.2.2.1 12) (κ.1 7) k0.toInt (-1 : Int32).toInt t9 := by
  have qm1 : (-1 : Int32).toInt = (-1) := by decide +kernel
  intro h1 h2 h3
  have pk0 := hr12y (by omega)
  have hl : ¬ lw (tx (κ.2.2.1 9) (κ.1 6) y2.toInt) := by
    first | omega | (rw [tx_o (by omega)]; omega)
  have lt := RT_lt hi4y_0 hl h3
  exact ⟨none, wrdX hi4y_0 hl (by omega) h3, by show (-1 : Int32).toInt ≤ _; omega⟩
-- nw@39 @39
theorem vX4_name_14 (κ : KS) (k0 : Int32) (y1 : Int32) (y2 : Int32) (r12 : Int32) (x23 : Int32) (r24 : Int32) (x25 : Int32) (x26 : Int32) (x27 : Int32) (x28 : Int32) (hpre_1 : 0 ≤ (κ.1 6).toInt) (hpre_2 : (κ.1 6).toInt ≤ 40) (hpre_5 : 0 ≤ k0.toInt) (hpre_6 : k0.toInt ≤ 40) (hi4_0 : k0.toInt ≤ y2.toInt) (hi4_1 : y2.toInt ≤ 40) (c3 : y2.toInt < (κ.1 6).toInt) (hr12_0 : 0 ≤ r12.toInt) (hr12_1 : r12.toInt ≤ 126) (hr12_2 : ¬ r12.toInt = 0 → 0 ≤ y2.toInt ∧ y2.toInt < (κ.1 6).toInt) (ex23 : x23 = y1 * (27 : Int32)) (hr24_0 : 0 ≤ r24.toInt) (hr24_1 : r24.toInt ≤ 126) (hr24_2 : ¬ r24.toInt = 0 → 0 ≤ y2.toInt ∧ y2.toInt < (κ.1 6).toInt) (ex25 : x25 = r24 - (97 : Int32)) (ex26 : x26 = x25 + (1 : Int32)) (ex27 : x27 = x23 + x26) (ex28 : x28 = y2 + (1 : Int32)) : x28.toInt = y2.toInt + 1 := by
  have q1 : (1 : Int32).toInt = 1 := by decide +kernel
  have q27 : (27 : Int32).toInt = 27 := by decide +kernel
  have q97 : (97 : Int32).toInt = 97 := by decide +kernel
  have z9 : (1 : Int32).toInt = 1 := by decide +kernel
  rw [ex28, z_add (by omega) (by omega)]; first | done | omega
-- inv@4 @4
theorem vX4_name_15 (κ : KS) (k0 : Int32) (y1 : Int32) (y2 : Int32) (r12 : Int32) (x23 : Int32) (r24 : Int32) (x25 : Int32) (x26 : Int32) (x27 : Int32) (x28 : Int32) (hpre_1 : 0 ≤ (κ.1 6).toInt) (hpre_2 : (κ.1 6).toInt ≤ 40) (hpre_5 : 0 ≤ k0.toInt) (hpre_6 : k0.toInt ≤ 40) (hi4_0 : k0.toInt ≤ y2.toInt) (hi4_1 : y2.toInt ≤ 40) (c3 : y2.toInt < (κ.1 6).toInt) (hr12_0 : 0 ≤ r12.toInt) (hr12_1 : r12.toInt ≤ 126) (hr12_2 : ¬ r12.toInt = 0 → 0 ≤ y2.toInt ∧ y2.toInt < (κ.1 6).toInt) (ex23 : x23 = y1 * (27 : Int32)) (hr24_0 : 0 ≤ r24.toInt) (hr24_1 : r24.toInt ≤ 126) (hr24_2 : ¬ r24.toInt = 0 → 0 ≤ y2.toInt ∧ y2.toInt < (κ.1 6).toInt) (ex25 : x25 = r24 - (97 : Int32)) (ex26 : x26 = x25 + (1 : Int32)) (ex27 : x27 = x23 + x26) (ex28 : x28 = y2 + (1 : Int32)) (tx28 : x28.toInt = y2.toInt + 1) : k0.toInt ≤ x28.toInt ∧ x28.toInt ≤ 40 := by
  have q1 : (1 : Int32).toInt = 1 := by decide +kernel
  have q27 : (27 : Int32).toInt = 27 := by decide +kernel
  have q97 : (97 : Int32).toInt = 97 := by decide +kernel
  refine ⟨?_, ?_⟩ <;> first | assumption | omega | (subst_vars; omega) | trivial
-- inv2@4 @4
theorem vX4_name_16 (κ : KS) (k0 : Int32) (y1 : Int32) (y2 : Int32) (r12 : Int32) (r13 : Int32) (x23 : Int32) (r24 : Int32) (x25 : Int32) (x26 : Int32) (x27 : Int32) (x28 : Int32) (hpre_0 : L9 (κ.2.2.1 9)) (hpre_1 : 0 ≤ (κ.1 6).toInt) (hpre_2 : (κ.1 6).toInt ≤ 40) (hpre_3 : 0 ≤ (κ.1 7).toInt) (hpre_4 : (κ.1 7).toInt ≤ 41) (hpre_5 : 0 ≤ k0.toInt) (hpre_6 : k0.toInt ≤ 40) (hi4_0 : k0.toInt ≤ y2.toInt) (hi4_1 : y2.toInt ≤ 40) (hi4y_0 : RT lw (tx (κ.2.2.1 9) (κ.1 6)) k0.toInt y2.toInt) (hi4y_1 : y2.toInt - k0.toInt ≤ 5 → y1.toInt = nval (tx (κ.2.2.1 9) (κ.1 6)) k0.toInt (y2.toInt - k0.toInt).toNat) (c3 : y2.toInt < (κ.1 6).toInt) (hr12y : (κ.1 6).toInt ≤ 40 → r12.toInt = tx (κ.2.2.1 9) (κ.1 6) y2.toInt) (hr12_0 : 0 ≤ r12.toInt) (hr12_1 : r12.toInt ≤ 126) (hr12_2 : ¬ r12.toInt = 0 → 0 ≤ y2.toInt ∧ y2.toInt < (κ.1 6).toInt) (hr13y_0 : ¬ r13.toInt = 0 → lw r12.toInt) (hr13y_1 : r13.toInt = 0 → ¬ lw r12.toInt) (hr13_0 : 0 ≤ r13.toInt) (hr13_1 : r13.toInt ≤ 1) (c14 : ¬ r13.toInt = 0) (ex23 : x23 = y1 * (27 : Int32)) (hr24y : (κ.1 6).toInt ≤ 40 → r24.toInt = tx (κ.2.2.1 9) (κ.1 6) y2.toInt) (hr24_0 : 0 ≤ r24.toInt) (hr24_1 : r24.toInt ≤ 126) (hr24_2 : ¬ r24.toInt = 0 → 0 ≤ y2.toInt ∧ y2.toInt < (κ.1 6).toInt) (ex25 : x25 = r24 - (97 : Int32)) (ex26 : x26 = x25 + (1 : Int32)) (ex27 : x27 = x23 + x26) (ex28 : x28 = y2 + (1 : Int32)) (tx28 : x28.toInt = y2.toInt + 1) : RT lw (tx (κ.2.2.1 9) (κ.1 6)) k0.toInt x28.toInt ∧ (x28.toInt - k0.toInt ≤ 5 → x27.toInt = nval (tx (κ.2.2.1 9) (κ.1 6)) k0.toInt (x28.toInt - k0.toInt).toNat) := by
  have q1 : (1 : Int32).toInt = 1 := by decide +kernel
  have q27 : (27 : Int32).toInt = 27 := by decide +kernel
  have q97 : (97 : Int32).toInt = 97 := by decide +kernel
  have pk0 := hr12y (by omega)
  have pk1 := hr24y (by omega)
  refine ⟨RT.up hi4y_0 (by omega) (by omega), fun h9 => ?_⟩
  have nb := nval_b hi4y_0 (by omega)
  have e0 := hi4y_1 (by omega)
  have e1 : x23.toInt = 27 * y1.toInt := by rw [ex23, Int32.mul_comm]; exact z_mulc 27 (by decide +kernel) (by omega) (by omega)
  have w97 : (97 : Int32).toInt = 97 := by decide +kernel
  have e2 : x25.toInt = r24.toInt - 97 := by rw [ex25, z_sub (by omega) (by omega)]; omega
  have e3 : x26.toInt = x25.toInt + 1 := by rw [ex26, z_add (by omega) (by omega)]; omega
  have e4 : x27.toInt = x23.toInt + x26.toInt := by rw [ex27, z_add (by omega) (by omega)]
  exact nvl_up (k := y2.toInt) e0 (by omega) (by omega) (by omega)
-- meas@4 @4
theorem vX4_name_17 (κ : KS) (k0 : Int32) (y1 : Int32) (y2 : Int32) (r12 : Int32) (x23 : Int32) (r24 : Int32) (x25 : Int32) (x26 : Int32) (x27 : Int32) (x28 : Int32) (hpre_1 : 0 ≤ (κ.1 6).toInt) (hpre_2 : (κ.1 6).toInt ≤ 40) (hpre_5 : 0 ≤ k0.toInt) (hpre_6 : k0.toInt ≤ 40) (hi4_0 : k0.toInt ≤ y2.toInt) (hi4_1 : y2.toInt ≤ 40) (c3 : y2.toInt < (κ.1 6).toInt) (hr12_0 : 0 ≤ r12.toInt) (hr12_1 : r12.toInt ≤ 126) (hr12_2 : ¬ r12.toInt = 0 → 0 ≤ y2.toInt ∧ y2.toInt < (κ.1 6).toInt) (ex23 : x23 = y1 * (27 : Int32)) (hr24_0 : 0 ≤ r24.toInt) (hr24_1 : r24.toInt ≤ 126) (hr24_2 : ¬ r24.toInt = 0 → 0 ≤ y2.toInt ∧ y2.toInt < (κ.1 6).toInt) (ex25 : x25 = r24 - (97 : Int32)) (ex26 : x26 = x25 + (1 : Int32)) (ex27 : x27 = x23 + x26) (ex28 : x28 = y2 + (1 : Int32)) (tx28 : x28.toInt = y2.toInt + 1) : (40 - x28.toInt).toNat < (40 - y2.toInt).toNat := by
  have q1 : (1 : Int32).toInt = 1 := by decide +kernel
  have q27 : (27 : Int32).toInt = 27 := by decide +kernel
  have q97 : (97 : Int32).toInt = 97 := by decide +kernel
  first | assumption | omega | (subst_vars; omega) | trivial
set_option maxHeartbeats 4000000 in
set_option maxRecDepth 100000 in
theorem NX4_name (l : Launch) (D : va_G) (cy : Nat → ClassId) (ad : Nat → Nat) (A : Nat → Prop) (sz0 : Nat) (sa : Nat → Nat)  (κ : KS) (sz sl : Nat) (hAF : ∀ q, A q → Fr sz0 q) (hAn : ∀ q : Nat, sz ≤ q → A q) (k0 : Int32) (hSV : SV ad κ.2.2.2.2 (κ.2.1 0) (κ.2.1 1) (κ.2.2.2.1 6) (κ.2.2.2.1 7) (κ.2.2.2.1 8) (κ.2.2.2.1 13) (κ.2.2.2.1 15) (κ.2.2.2.1 17) (κ.1 1).toInt) (hpre : L9 (κ.2.2.1 9) ∧ 0 ≤ (κ.1 6).toInt ∧ (κ.1 6).toInt ≤ 40 ∧ 0 ≤ (κ.1 7).toInt ∧ (κ.1 7).toInt ≤ 41 ∧ 0 ≤ k0.toInt ∧ k0.toInt ≤ 40) : Met l yX4_name (Cond.code yX4_name cX4_name 4 (some .int) :: GWc) ({ frames := 1, cells := 0, slots := 0, locals := 24 }) (PcC D cy ad A sz0 sa [.ref (ad 2), .int k0] κ sz sl) (va_Qi (fun (r : Int32) (u : Int32 × (Nat → Int32) × (Nat → Int32) × (Nat → Int32) × (Nat → Option Nat)) => ((SV ad κ.2.2.2.2 (κ.2.1 0) (κ.2.1 1) (κ.2.2.2.1 6) (κ.2.2.2.1 7) (κ.2.2.2.1 8) u.2.2.2.2 (κ.2.2.2.1 15) (κ.2.2.2.1 17) (κ.1 1).toInt) ∧ (0 ≤ u.1.toInt ∧ u.1.toInt ≤ 41 ∧ r.toInt ≤ 40)) ∧ ((κ.1 7).toInt ≤ k0.toInt → k0.toInt < (κ.1 6).toInt → lw (tx (κ.2.2.1 9) (κ.1 6) k0.toInt) → ∃ t9, TokR (tx (κ.2.2.1 9) (κ.1 6)) (κ.1 6).toInt k0.toInt t9 ∧ LXc (κ.2.2.1 10) (κ.2.2.1 11) (κ.2.2.1 12) (κ.1 7) u.2.1 u.2.2.1 u.2.2.2.1 u.1 k0.toInt r.toInt t9)) (fun (u : Int32 × (Nat → Int32) × (Nat → Int32) × (Nat → Int32) × (Nat → Option Nat)) (t : State) => Bx D cy ad A sz sl (tQ (tA (tA (tA (tI κ 7 u.1) 10 u.2.1) 11 u.2.2.1) 12 u.2.2.2.1) 13 u.2.2.2.2) (0) (0) t) A) (0) (0) A := by
  refine CM_of (loc0 := [(0, .ref (ad 2)), (1, .int k0)]) (own := RX4) (nm := "name") (by decide) rfl rfl rfl (Nat.le_of_ble_eq_true rfl) hAF hAn ?_
  intro p e s m below meth c ls hsz hsl C hP hS hl
  obtain ⟨hpre_0, hpre_1, hpre_2, hpre_3, hpre_4, hpre_5, hpre_6⟩ := hpre
  refine lv_iconst (v := 0) C.x C.b dX4_name_0 (by decide +kernel) ?_
  refine lv_istore_n (lv' := [(2, .int 0), (0, .ref (ad 2)), (1, .int k0)]) C.x C.b dX4_name_1 rfl hl (by decide) rfl (fun ls hl => ?_)
  refine lv_iload_n C.x C.b dX4_name_2 rfl (lv_at hl 2 rfl) ?_
  refine lv_istore_n (lv' := [(3, .int k0), (2, .int 0), (0, .ref (ad 2)), (1, .int k0)]) C.x C.b dX4_name_3 rfl hl (by decide) rfl (fun ls hl => ?_)
  have lp4 : ∀ (n : Nat) (y1 : Int32) (y2 : Int32) (H : Heap) (locs : List Loc) (ls : Array Slot), (40 - y2.toInt).toNat < n → ((k0.toInt ≤ y2.toInt ∧ y2.toInt ≤ 40) ∧ (RT lw (tx (κ.2.2.1 9) (κ.1 6)) k0.toInt y2.toInt ∧ (y2.toInt - k0.toInt ≤ 5 → y1.toInt = nval (tx (κ.2.2.1 9) (κ.1 6)) k0.toInt (y2.toInt - k0.toInt).toNat))) → CH D cy ad A κ H → va_S A s.heap H locs → lv_has ls 4 [(3, .int y2), (2, .int y1), (0, .ref (ad 2)), (1, .int k0)] → W p l e (headSpec (Cond.code yX4_name cX4_name 4 (some .int) :: GWc) ({ frames := 1, cells := 0, slots := 0, locals := 24 })).room s m #[.ref (ad 2), .int k0] below meth c H locs (0) (0) (MQ below (va_Qi (fun (r : Int32) (u : Int32 × (Nat → Int32) × (Nat → Int32) × (Nat → Int32) × (Nat → Option Nat)) => ((SV ad κ.2.2.2.2 (κ.2.1 0) (κ.2.1 1) (κ.2.2.2.1 6) (κ.2.2.2.1 7) (κ.2.2.2.1 8) u.2.2.2.2 (κ.2.2.2.1 15) (κ.2.2.2.1 17) (κ.1 1).toInt) ∧ (0 ≤ u.1.toInt ∧ u.1.toInt ≤ 41 ∧ r.toInt ≤ 40)) ∧ ((κ.1 7).toInt ≤ k0.toInt → k0.toInt < (κ.1 6).toInt → lw (tx (κ.2.2.1 9) (κ.1 6) k0.toInt) → ∃ t9, TokR (tx (κ.2.2.1 9) (κ.1 6)) (κ.1 6).toInt k0.toInt t9 ∧ LXc (κ.2.2.1 10) (κ.2.2.1 11) (κ.2.2.1 12) (κ.1 7) u.2.1 u.2.2.1 u.2.2.2.1 u.1 k0.toInt r.toInt t9)) (fun (u : Int32 × (Nat → Int32) × (Nat → Int32) × (Nat → Int32) × (Nat → Option Nat)) (t : State) => Bx D cy ad A sz sl (tQ (tA (tA (tA (tI κ 7 u.1) 10 u.2.1) 11 u.2.2.1) 12 u.2.2.2.1) 13 u.2.2.2.2) (0) (0) t) A) #[.ref (ad 2), .int k0] s (0) (0) A) (F0 m 4 ls []) := by
    intro n
    induction n with
    | zero => intro y1 y2 H locs ls hn; exact absurd hn (Nat.not_lt_zero _)
    | succ n4 ih4 =>
      intro y1 y2 H locs ls hn4  hi4 hP hS hl
      obtain ⟨hi4, hi4y⟩ := hi4
      obtain ⟨hi4_0, hi4_1⟩ := hi4
      obtain ⟨hi4y_0, hi4y_1⟩ := hi4y
      refine lv_iload_n C.x C.b dX4_name_4 rfl (lv_at hl 0 rfl) ?_
      refine lv_aload_n C.x C.b dX4_name_5 rfl (lv_at hl 2 rfl) ?_
      refine cg_X4_1 (v := (κ.1 6)) C hP rfl cw_474 dX4_name_6 ?_
      refine lv_icmp_ge (tgt := 45) C.x C.b dX4_name_9 (by decide) (fun c3 => ?_) (fun c3 => ?_)
      · have c3 : (κ.1 6).toInt ≤ y2.toInt := by have h := z_le c3; exact h
        refine lv_iload_n C.x C.b dX4_name_45 rfl (lv_at hl 0 rfl) ?_
        refine lv_iload_n C.x C.b dX4_name_46 rfl (lv_at hl 3 rfl) ?_
        refine lv_isub C.x C.b dX4_name_47 ?_
        refine lv_topi (fun x4 ex4 => ?_)
        have tx4 : x4.toInt = y2.toInt - k0.toInt := (vX4_name_3 κ k0 y2 x4 hpre_1 hpre_2 hpre_5 hpre_6 hi4_0 hi4_1 c3 ex4)
        refine lv_iconst (v := 5) C.x C.b dX4_name_48 (by decide +kernel) ?_
        refine lv_icmp_le (tgt := 54) C.x C.b dX4_name_49 (by decide) (fun c5 => ?_) (fun c5 => ?_)
        · have c5 : x4.toInt ≤ 5 := by have h := z_le c5; rw [show (5 : Int32).toInt = 5 from by decide +kernel] at h; exact h
          refine lv_aload_n C.x C.b dX4_name_54 rfl (lv_at hl 2 rfl) ?_
          refine lv_iconst (v := 2) C.x C.b dX4_name_55 (by decide +kernel) ?_
          refine lv_iload_n C.x C.b dX4_name_56 rfl (lv_at hl 3 rfl) ?_
          refine lv_iload_n C.x C.b dX4_name_57 rfl (lv_at hl 1 rfl) ?_
          refine lv_null C.x C.b dX4_name_58 ?_
          refine c_callVv (n := 4) (As := [.int 2, .int k0, .int y1, .null]) (rest := []) C hP hS hl.1 (NX4_add l D cy ad A sz0 sa κ H.size (SLT H) C.f (fun q h => C.a q (Nat.le_trans hS.1 h)) (2 : Int32) k0 y1 none nt_n hSV (vX4_name_4 κ hpre_3 hpre_4)) ⟨cw_509, cw_512, by decide +kernel⟩ ⟨cw_510, cw_511, cw_484⟩ rfl (hP.recvS (k := 2) (ci := 6) C.K rfl rfl) rfl rfl (lv_room (Nat.le_of_ble_eq_true rfl)) ⟨Nat.le_of_ble_eq_true rfl, Nat.le_of_ble_eq_true rfl⟩ ⟨(Nat.le_of_ble_eq_true rfl), (Nat.le_of_ble_eq_true rfl)⟩ dX4_name_59 (fun u H locs hr6 hP hS => ?_)
          obtain ⟨n7, F8, F9, F10, Z11⟩ := u
          have hP : CH D cy ad A (tQ (tA (tA (tA (tI κ 7 n7) 10 F8) 11 F9) 12 F10) 13 Z11) H := hP
          obtain ⟨hr6, hr6y⟩ := hr6
          have hr6y : (κ.1 7).toInt < 41 → ADc (κ.2.2.1 10) (κ.2.2.1 11) (κ.2.2.1 12) (κ.1 7) F8 F9 F10 n7 (2 : Int32) k0 y1 := hr6y
          have hr6 : (SV ad κ.2.2.2.2 (κ.2.1 0) (κ.2.1 1) (κ.2.2.2.1 6) (κ.2.2.2.1 7) (κ.2.2.2.1 8) Z11 (κ.2.2.2.1 15) (κ.2.2.2.1 17) (κ.1 1).toInt) ∧ (0 ≤ n7.toInt ∧ n7.toInt ≤ 41) := hr6
          obtain ⟨hr6_0, hr6_1⟩ := hr6
          obtain ⟨hr6_1_0, hr6_1_1⟩ := hr6_1
          refine lv_iload_n C.x C.b dX4_name_62 rfl (lv_at hl 0 rfl) ?_
          exact c_reti C hsz hsl ⟨n7, F8, F9, F10, Z11⟩ ⟨⟨hr6_0, (vX4_name_5 κ k0 y2 x4 n7 hpre_1 hpre_2 hpre_5 hpre_6 hi4_0 hi4_1 c3 ex4 tx4 c5 hr6_1_0 hr6_1_1)⟩, (vX4_name_6 κ k0 y1 y2 x4 n7 F8 F9 F10 hpre_0 hpre_1 hpre_2 hpre_3 hpre_4 hpre_5 hpre_6 hi4_0 hi4_1 hi4y_0 hi4y_1 c3 ex4 tx4 c5 hr6y hr6_1_0 hr6_1_1)⟩ hP hS ⟨(Nat.le_of_ble_eq_true rfl), (Nat.le_of_ble_eq_true rfl)⟩ ⟨(Nat.le_of_ble_eq_true rfl), (Nat.le_of_ble_eq_true rfl)⟩ dX4_name_63
        · have c5 : 5 < x4.toInt := by have h := z_nle c5; rw [show (5 : Int32).toInt = 5 from by decide +kernel] at h; exact h
          refine lv_iconst (v := (-1)) C.x C.b dX4_name_52 (by decide +kernel) ?_
          have hP : CH D cy ad A (tQ (tA (tA (tA (tI κ 7 (κ.1 7)) 10 (κ.2.2.1 10)) 11 (κ.2.2.1 11)) 12 (κ.2.2.1 12)) 13 (κ.2.2.2.1 13)) H := CH.cong hP rfl rfl rfl rfl rfl rfl rfl rfl rfl rfl rfl rfl rfl rfl rfl rfl rfl rfl rfl rfl rfl rfl rfl rfl rfl rfl rfl
          exact c_reti C hsz hsl ⟨(κ.1 7), (κ.2.2.1 10), (κ.2.2.1 11), (κ.2.2.1 12), (κ.2.2.2.1 13)⟩ ⟨⟨hSV, (vX4_name_7 κ hpre_3 hpre_4)⟩, (vX4_name_8 κ k0 y1 y2 x4 hpre_0 hpre_1 hpre_2 hpre_3 hpre_4 hpre_5 hpre_6 hi4_0 hi4_1 hi4y_0 hi4y_1 c3 ex4 tx4 c5)⟩ hP hS ⟨(Nat.le_of_ble_eq_true rfl), (Nat.le_of_ble_eq_true rfl)⟩ ⟨(Nat.le_of_ble_eq_true rfl), (Nat.le_of_ble_eq_true rfl)⟩ dX4_name_53
      · have c3 : y2.toInt < (κ.1 6).toInt := by have h := z_nle c3; exact h
        refine lv_aload_n C.x C.b dX4_name_12 rfl (lv_at hl 2 rfl) ?_
        refine lv_iload_n C.x C.b dX4_name_13 rfl (lv_at hl 0 rfl) ?_
        refine c_callVi (n := 1) (As := [.int y2]) (rest := []) C hP hS hl.1 (NX4_peek l D cy ad A sz0 sa κ H.size (SLT H) C.f (fun q h => C.a q (Nat.le_trans hS.1 h)) y2 (vX4_name_9 κ hpre_0)) ⟨cw_481, cw_485, by decide +kernel⟩ ⟨cw_482, cw_483, cw_484⟩ rfl (hP.recvS (k := 2) (ci := 6) C.K rfl rfl) rfl rfl (lv_room (Nat.le_of_ble_eq_true rfl)) ⟨Nat.le_of_ble_eq_true rfl, Nat.le_of_ble_eq_true rfl⟩ ⟨(Nat.le_of_ble_eq_true rfl), (Nat.le_of_ble_eq_true rfl)⟩ dX4_name_14 (fun r12 u H locs hr12 hP hS => ?_)
        obtain ⟨hr12, hr12y⟩ := hr12
        have hr12y : (κ.1 6).toInt ≤ 40 → r12.toInt = tx (κ.2.2.1 9) (κ.1 6) y2.toInt := hr12y
        have hr12 : (0 ≤ r12.toInt ∧ r12.toInt ≤ 126 ∧ (¬ r12.toInt = 0 → 0 ≤ y2.toInt ∧ y2.toInt < (κ.1 6).toInt)) := hr12
        obtain ⟨hr12_0, hr12_1, hr12_2⟩ := hr12
        refine c_callSi (C2 := "") (b := 0) (n := 1) (As := [.int r12]) (rest := []) C hP hS hl.1 (NX4_isLowerCase l D cy ad A sz0 sa κ H.size (SLT H) C.f (fun q h => C.a q (Nat.le_trans hS.1 h)) r12 ) ⟨cw_514, cw_516, by decide +kernel⟩ ⟨cw_515, cw_484⟩ rfl rfl (lv_room (Nat.le_of_ble_eq_true rfl)) ⟨Nat.le_of_ble_eq_true rfl, Nat.le_of_ble_eq_true rfl⟩ ⟨(Nat.le_of_ble_eq_true rfl), (Nat.le_of_ble_eq_true rfl)⟩ dX4_name_17 (fun r13 u H locs hr13 hP hS => ?_)
        obtain ⟨hr13, hr13y⟩ := hr13
        have hr13y : (¬ r13.toInt = 0 → lw r12.toInt) ∧ (r13.toInt = 0 → ¬ lw r12.toInt) := hr13y
        have hr13 : (0 ≤ r13.toInt ∧ r13.toInt ≤ 1) := hr13
        obtain ⟨hr13y_0, hr13y_1⟩ := hr13y
        obtain ⟨hr13_0, hr13_1⟩ := hr13
        refine lv_if_eq (tgt := 45) C.x C.b dX4_name_20 (by decide) (fun c14 => ?_) (fun c14 => ?_)
        · have c14 : r13.toInt = 0 := by have h := z_eq c14; rw [show (0 : Int32).toInt = 0 from by decide +kernel] at h; exact h
          refine lv_iload_n C.x C.b dX4_name_45 rfl (lv_at hl 0 rfl) ?_
          refine lv_iload_n C.x C.b dX4_name_46 rfl (lv_at hl 3 rfl) ?_
          refine lv_isub C.x C.b dX4_name_47 ?_
          refine lv_topi (fun x15 ex15 => ?_)
          have tx15 : x15.toInt = y2.toInt - k0.toInt := (vX4_name_10 κ k0 y2 r12 x15 hpre_1 hpre_2 hpre_5 hpre_6 hi4_0 hi4_1 c3 hr12_0 hr12_1 hr12_2 ex15)
          refine lv_iconst (v := 5) C.x C.b dX4_name_48 (by decide +kernel) ?_
          refine lv_icmp_le (tgt := 54) C.x C.b dX4_name_49 (by decide) (fun c16 => ?_) (fun c16 => ?_)
          · have c16 : x15.toInt ≤ 5 := by have h := z_le c16; rw [show (5 : Int32).toInt = 5 from by decide +kernel] at h; exact h
            refine lv_aload_n C.x C.b dX4_name_54 rfl (lv_at hl 2 rfl) ?_
            refine lv_iconst (v := 2) C.x C.b dX4_name_55 (by decide +kernel) ?_
            refine lv_iload_n C.x C.b dX4_name_56 rfl (lv_at hl 3 rfl) ?_
            refine lv_iload_n C.x C.b dX4_name_57 rfl (lv_at hl 1 rfl) ?_
            refine lv_null C.x C.b dX4_name_58 ?_
            refine c_callVv (n := 4) (As := [.int 2, .int k0, .int y1, .null]) (rest := []) C hP hS hl.1 (NX4_add l D cy ad A sz0 sa κ H.size (SLT H) C.f (fun q h => C.a q (Nat.le_trans hS.1 h)) (2 : Int32) k0 y1 none nt_n hSV (vX4_name_4 κ hpre_3 hpre_4)) ⟨cw_509, cw_512, by decide +kernel⟩ ⟨cw_510, cw_511, cw_484⟩ rfl (hP.recvS (k := 2) (ci := 6) C.K rfl rfl) rfl rfl (lv_room (Nat.le_of_ble_eq_true rfl)) ⟨Nat.le_of_ble_eq_true rfl, Nat.le_of_ble_eq_true rfl⟩ ⟨(Nat.le_of_ble_eq_true rfl), (Nat.le_of_ble_eq_true rfl)⟩ dX4_name_59 (fun u H locs hr17 hP hS => ?_)
            obtain ⟨n18, F19, F20, F21, Z22⟩ := u
            have hP : CH D cy ad A (tQ (tA (tA (tA (tI κ 7 n18) 10 F19) 11 F20) 12 F21) 13 Z22) H := hP
            obtain ⟨hr17, hr17y⟩ := hr17
            have hr17y : (κ.1 7).toInt < 41 → ADc (κ.2.2.1 10) (κ.2.2.1 11) (κ.2.2.1 12) (κ.1 7) F19 F20 F21 n18 (2 : Int32) k0 y1 := hr17y
            have hr17 : (SV ad κ.2.2.2.2 (κ.2.1 0) (κ.2.1 1) (κ.2.2.2.1 6) (κ.2.2.2.1 7) (κ.2.2.2.1 8) Z22 (κ.2.2.2.1 15) (κ.2.2.2.1 17) (κ.1 1).toInt) ∧ (0 ≤ n18.toInt ∧ n18.toInt ≤ 41) := hr17
            obtain ⟨hr17_0, hr17_1⟩ := hr17
            obtain ⟨hr17_1_0, hr17_1_1⟩ := hr17_1
            refine lv_iload_n C.x C.b dX4_name_62 rfl (lv_at hl 0 rfl) ?_
            exact c_reti C hsz hsl ⟨n18, F19, F20, F21, Z22⟩ ⟨⟨hr17_0, (vX4_name_11 κ k0 y2 r12 x15 n18 hpre_1 hpre_2 hpre_5 hpre_6 hi4_0 hi4_1 c3 hr12_0 hr12_1 hr12_2 ex15 tx15 c16 hr17_1_0 hr17_1_1)⟩, (vX4_name_12 κ k0 y1 y2 r12 r13 x15 n18 F19 F20 F21 hpre_0 hpre_1 hpre_2 hpre_3 hpre_4 hpre_5 hpre_6 hi4_0 hi4_1 hi4y_0 hi4y_1 c3 hr12y hr12_0 hr12_1 hr12_2 hr13y_0 hr13y_1 hr13_0 hr13_1 c14 ex15 tx15 c16 hr17y hr17_1_0 hr17_1_1)⟩ hP hS ⟨(Nat.le_of_ble_eq_true rfl), (Nat.le_of_ble_eq_true rfl)⟩ ⟨(Nat.le_of_ble_eq_true rfl), (Nat.le_of_ble_eq_true rfl)⟩ dX4_name_63
          · have c16 : 5 < x15.toInt := by have h := z_nle c16; rw [show (5 : Int32).toInt = 5 from by decide +kernel] at h; exact h
            refine lv_iconst (v := (-1)) C.x C.b dX4_name_52 (by decide +kernel) ?_
            have hP : CH D cy ad A (tQ (tA (tA (tA (tI κ 7 (κ.1 7)) 10 (κ.2.2.1 10)) 11 (κ.2.2.1 11)) 12 (κ.2.2.1 12)) 13 (κ.2.2.2.1 13)) H := CH.cong hP rfl rfl rfl rfl rfl rfl rfl rfl rfl rfl rfl rfl rfl rfl rfl rfl rfl rfl rfl rfl rfl rfl rfl rfl rfl rfl rfl
            exact c_reti C hsz hsl ⟨(κ.1 7), (κ.2.2.1 10), (κ.2.2.1 11), (κ.2.2.1 12), (κ.2.2.2.1 13)⟩ ⟨⟨hSV, (vX4_name_7 κ hpre_3 hpre_4)⟩, (vX4_name_13 κ k0 y1 y2 r12 r13 x15 hpre_0 hpre_1 hpre_2 hpre_3 hpre_4 hpre_5 hpre_6 hi4_0 hi4_1 hi4y_0 hi4y_1 c3 hr12y hr12_0 hr12_1 hr12_2 hr13y_0 hr13y_1 hr13_0 hr13_1 c14 ex15 tx15 c16)⟩ hP hS ⟨(Nat.le_of_ble_eq_true rfl), (Nat.le_of_ble_eq_true rfl)⟩ ⟨(Nat.le_of_ble_eq_true rfl), (Nat.le_of_ble_eq_true rfl)⟩ dX4_name_53
        · have c14 : ¬ r13.toInt = 0 := by have h := z_ne c14; rw [show (0 : Int32).toInt = 0 from by decide +kernel] at h; exact h
          refine lv_iload_n C.x C.b dX4_name_23 rfl (lv_at hl 1 rfl) ?_
          refine lv_bipush (v := 27) C.x C.b dX4_name_24 (by decide +kernel) ?_
          refine lv_imul C.x C.b dX4_name_26 ?_
          refine lv_topi (fun x23 ex23 => ?_)
          refine lv_aload_n C.x C.b dX4_name_27 rfl (lv_at hl 2 rfl) ?_
          refine lv_iload_n C.x C.b dX4_name_28 rfl (lv_at hl 0 rfl) ?_
          refine c_callVi (n := 1) (As := [.int y2]) (rest := [.int x23]) C hP hS hl.1 (NX4_peek l D cy ad A sz0 sa κ H.size (SLT H) C.f (fun q h => C.a q (Nat.le_trans hS.1 h)) y2 (vX4_name_9 κ hpre_0)) ⟨cw_481, cw_485, by decide +kernel⟩ ⟨cw_482, cw_483, cw_484⟩ rfl (hP.recvS (k := 2) (ci := 6) C.K rfl rfl) rfl rfl (lv_room (Nat.le_of_ble_eq_true rfl)) ⟨Nat.le_of_ble_eq_true rfl, Nat.le_of_ble_eq_true rfl⟩ ⟨(Nat.le_of_ble_eq_true rfl), (Nat.le_of_ble_eq_true rfl)⟩ dX4_name_29 (fun r24 u H locs hr24 hP hS => ?_)
          obtain ⟨hr24, hr24y⟩ := hr24
          have hr24y : (κ.1 6).toInt ≤ 40 → r24.toInt = tx (κ.2.2.1 9) (κ.1 6) y2.toInt := hr24y
          have hr24 : (0 ≤ r24.toInt ∧ r24.toInt ≤ 126 ∧ (¬ r24.toInt = 0 → 0 ≤ y2.toInt ∧ y2.toInt < (κ.1 6).toInt)) := hr24
          obtain ⟨hr24_0, hr24_1, hr24_2⟩ := hr24
          refine lv_bipush (v := 97) C.x C.b dX4_name_32 (by decide +kernel) ?_
          refine lv_isub C.x C.b dX4_name_34 ?_
          refine lv_topi (fun x25 ex25 => ?_)
          refine lv_iconst (v := 1) C.x C.b dX4_name_35 (by decide +kernel) ?_
          refine lv_iadd C.x C.b dX4_name_36 ?_
          refine lv_topi (fun x26 ex26 => ?_)
          refine lv_iadd C.x C.b dX4_name_37 ?_
          refine lv_topi (fun x27 ex27 => ?_)
          refine lv_istore_n (lv' := [(2, .int x27), (3, .int y2), (0, .ref (ad 2)), (1, .int k0)]) C.x C.b dX4_name_38 rfl hl (by decide) rfl (fun ls hl => ?_)
          obtain ⟨x28, ex28⟩ : ∃ y : Int32, y = y2 + (1 : Int32) := ⟨_, rfl⟩
          have tx28 : x28.toInt = y2.toInt + 1 := (vX4_name_14 κ k0 y1 y2 r12 x23 r24 x25 x26 x27 x28 hpre_1 hpre_2 hpre_5 hpre_6 hi4_0 hi4_1 c3 hr12_0 hr12_1 hr12_2 ex23 hr24_0 hr24_1 hr24_2 ex25 ex26 ex27 ex28)
          refine lv_iinc (v := x28) (lv' := [(3, .int x28), (2, .int x27), (0, .ref (ad 2)), (1, .int k0)]) C.x C.b dX4_name_39 hl (k := 1) rfl (by rw [ex28]; rfl) (by decide) rfl (fun ls hl => ?_)
          refine lv_goto (tgt := 4) C.x C.b dX4_name_42 (by decide) ?_
          refine W.widen (k := 0) (n := 0) (Nat.le_of_ble_eq_true rfl) (Nat.le_of_ble_eq_true rfl) ?_
          exact ih4 x27 x28 _ _ _ (Nat.lt_of_lt_of_le (vX4_name_17 κ k0 y1 y2 r12 x23 r24 x25 x26 x27 x28 hpre_1 hpre_2 hpre_5 hpre_6 hi4_0 hi4_1 c3 hr12_0 hr12_1 hr12_2 ex23 hr24_0 hr24_1 hr24_2 ex25 ex26 ex27 ex28 tx28) (Nat.le_of_lt_succ hn4))  ⟨(vX4_name_15 κ k0 y1 y2 r12 x23 r24 x25 x26 x27 x28 hpre_1 hpre_2 hpre_5 hpre_6 hi4_0 hi4_1 c3 hr12_0 hr12_1 hr12_2 ex23 hr24_0 hr24_1 hr24_2 ex25 ex26 ex27 ex28 tx28), (vX4_name_16 κ k0 y1 y2 r12 r13 x23 r24 x25 x26 x27 x28 hpre_0 hpre_1 hpre_2 hpre_3 hpre_4 hpre_5 hpre_6 hi4_0 hi4_1 hi4y_0 hi4y_1 c3 hr12y hr12_0 hr12_1 hr12_2 hr13y_0 hr13y_1 hr13_0 hr13_1 c14 ex23 hr24y hr24_0 hr24_1 hr24_2 ex25 ex26 ex27 ex28 tx28)⟩ hP hS (lv_sub hl [0, 1, 2, 3] rfl)
  refine W.widen (k := 0) (n := 0) (Nat.le_of_ble_eq_true rfl) (Nat.le_of_ble_eq_true rfl) ?_
  exact lp4 ((40 - k0.toInt).toNat + 1) (0 : Int32) k0 _ _ _ (Nat.lt_succ_self _)  ⟨(vX4_name_1 k0 hpre_5 hpre_6), (vX4_name_2 κ k0 hpre_0 hpre_1 hpre_2 hpre_3 hpre_4 hpre_5 hpre_6)⟩ hP hS (lv_sub hl [0, 1, 2, 3] rfl)

-- pre:X4_peek@2 @2
theorem vX4_sign_1 (κ : KS) (hpre_0 : L9 (κ.2.2.1 9)) : L9 (κ.2.2.1 9) := by
  first | assumption | omega | (subst_vars; omega) | trivial
-- nw@8 @8
theorem vX4_sign_2 (κ : KS) (k0 : Int32) (r1 : Int32) (x2 : Int32) (hpre_1 : 0 ≤ (κ.1 6).toInt) (hpre_2 : (κ.1 6).toInt ≤ 40) (hpre_5 : 0 ≤ k0.toInt) (hpre_6 : k0.toInt ≤ 40) (hr1_0 : 0 ≤ r1.toInt) (hr1_1 : r1.toInt ≤ 126) (hr1_2 : ¬ r1.toInt = 0 → 0 ≤ k0.toInt ∧ k0.toInt < (κ.1 6).toInt) (ex2 : x2 = r1 * (256 : Int32)) : x2.toInt = r1.toInt * 256 := by
  have q256 : (256 : Int32).toInt = 256 := by decide +kernel
  have w1 : (256 : Int32).toInt = 256 := by decide +kernel
  rw [ex2, Int32.mul_comm, z_mulc 256 w1 (by omega) (by omega)]; omega
-- nw@12 @12
theorem vX4_sign_3 (κ : KS) (k0 : Int32) (r1 : Int32) (x2 : Int32) (x3 : Int32) (hpre_1 : 0 ≤ (κ.1 6).toInt) (hpre_2 : (κ.1 6).toInt ≤ 40) (hpre_5 : 0 ≤ k0.toInt) (hpre_6 : k0.toInt ≤ 40) (hr1_0 : 0 ≤ r1.toInt) (hr1_1 : r1.toInt ≤ 126) (hr1_2 : ¬ r1.toInt = 0 → 0 ≤ k0.toInt ∧ k0.toInt < (κ.1 6).toInt) (ex2 : x2 = r1 * (256 : Int32)) (tx2 : x2.toInt = r1.toInt * 256) (ex3 : x3 = k0 + (1 : Int32)) : x3.toInt = k0.toInt + 1 := by
  have q1 : (1 : Int32).toInt = 1 := by decide +kernel
  have q256 : (256 : Int32).toInt = 256 := by decide +kernel
  have w1 : (1 : Int32).toInt = 1 := by decide +kernel
  rw [ex3, z_add (by omega) (by omega)]; first | done | omega
-- nw@16 @16
theorem vX4_sign_4 (κ : KS) (k0 : Int32) (r1 : Int32) (x2 : Int32) (x3 : Int32) (r4 : Int32) (x5 : Int32) (hpre_1 : 0 ≤ (κ.1 6).toInt) (hpre_2 : (κ.1 6).toInt ≤ 40) (hpre_5 : 0 ≤ k0.toInt) (hpre_6 : k0.toInt ≤ 40) (hr1_0 : 0 ≤ r1.toInt) (hr1_1 : r1.toInt ≤ 126) (hr1_2 : ¬ r1.toInt = 0 → 0 ≤ k0.toInt ∧ k0.toInt < (κ.1 6).toInt) (ex2 : x2 = r1 * (256 : Int32)) (tx2 : x2.toInt = r1.toInt * 256) (ex3 : x3 = k0 + (1 : Int32)) (tx3 : x3.toInt = k0.toInt + 1) (hr4_0 : 0 ≤ r4.toInt) (hr4_1 : r4.toInt ≤ 126) (hr4_2 : ¬ r4.toInt = 0 → 0 ≤ x3.toInt ∧ x3.toInt < (κ.1 6).toInt) (ex5 : x5 = x2 + r4) : x5.toInt = x2.toInt + r4.toInt := by
  have q1 : (1 : Int32).toInt = 1 := by decide +kernel
  have q256 : (256 : Int32).toInt = 256 := by decide +kernel
  rw [ex5, z_add (by omega) (by omega)]; first | done | omega
-- post @65
theorem vX4_sign_5 (κ : KS) (hpre_3 : 0 ≤ (κ.1 7).toInt) (hpre_4 : (κ.1 7).toInt ≤ 41) : 0 ≤ (κ.1 7).toInt ∧ (κ.1 7).toInt ≤ 41 ∧ (-1 : Int32).toInt ≤ 42 := by
  have qm1 : (-1 : Int32).toInt = (-1) := by decide +kernel
  refine ⟨?_, ?_, ?_⟩ <;> first | assumption | omega | (subst_vars; omega) | trivial
-- post2 @65
theorem vX4_sign_6 (κ : KS) (k0 : Int32) (r1 : Int32) (x2 : Int32) (x3 : Int32) (r4 : Int32) (x5 : Int32) (r6 : Int32) (r8 : Int32) (r9 : Int32) (hpre_0 : L9 (κ.2.2.1 9)) (hpre_1 : 0 ≤ (κ.1 6).toInt) (hpre_2 : (κ.1 6).toInt ≤ 40) (hpre_3 : 0 ≤ (κ.1 7).toInt) (hpre_4 : (κ.1 7).toInt ≤ 41) (hpre_5 : 0 ≤ k0.toInt) (hpre_6 : k0.toInt ≤ 40) (hr1y : (κ.1 6).toInt ≤ 40 → r1.toInt = tx (κ.2.2.1 9) (κ.1 6) k0.toInt) (hr1_0 : 0 ≤ r1.toInt) (hr1_1 : r1.toInt ≤ 126) (hr1_2 : ¬ r1.toInt = 0 → 0 ≤ k0.toInt ∧ k0.toInt < (κ.1 6).toInt) (ex2 : x2 = r1 * (256 : Int32)) (tx2 : x2.toInt = r1.toInt * 256) (ex3 : x3 = k0 + (1 : Int32)) (tx3 : x3.toInt = k0.toInt + 1) (hr4y : (κ.1 6).toInt ≤ 40 → r4.toInt = tx (κ.2.2.1 9) (κ.1 6) x3.toInt) (hr4_0 : 0 ≤ r4.toInt) (hr4_1 : r4.toInt ≤ 126) (hr4_2 : ¬ r4.toInt = 0 → 0 ≤ x3.toInt ∧ x3.toInt < (κ.1 6).toInt) (ex5 : x5 = x2 + r4) (tx5 : x5.toInt = x2.toInt + r4.toInt) (hr6y_0 : ¬ r6.toInt = 0 → PV9 x5.toInt) (hr6y_1 : r6.toInt = 0 → ¬ PV9 x5.toInt) (hr6_0 : 0 ≤ r6.toInt) (hr6_1 : r6.toInt ≤ 1) (c7 : r6.toInt = 0) (hr8y : (κ.1 6).toInt ≤ 40 → r8.toInt = tx (κ.2.2.1 9) (κ.1 6) k0.toInt) (hr8_0 : 0 ≤ r8.toInt) (hr8_1 : r8.toInt ≤ 126) (hr8_2 : ¬ r8.toInt = 0 → 0 ≤ k0.toInt ∧ k0.toInt < (κ.1 6).toInt) (hr9y_0 : ¬ r9.toInt = 0 → SI r8.toInt) (hr9y_1 : r9.toInt = 0 → ¬ SI r8.toInt) (hr9_0 : 0 ≤ r9.toInt) (hr9_1 : r9.toInt ≤ 1) (c10 : r9.toInt = 0) : (κ.1 7).toInt ≤ k0.toInt → k0.toInt < (κ.1 6).toInt → ¬ dg (tx (κ.2.2.1 9) (κ.1 6) k0.toInt) → ¬ lw (tx (κ.2.2.1 9) (κ.1 6) k0.toInt) → ¬ tx (κ.2.2.1 9) (κ.1 6) k0.toInt = 39 → ∃ t9, TokR (tx (κ.2.2.1 9) (κ.1 6)) (κ.1 6).toInt k0.toInt t9 ∧ LXc (κ.2.2.1 10) (κ.2.2.1 11) (κ.2.2.1 12) (κ.1 7) (κ.2.2.1 10) (κ.2.2.1 11) (κ.2.2.1 12) (κ.1 7) k0.toInt (-1 : Int32).toInt t9 := by
  have qm1 : (-1 : Int32).toInt = (-1) := by decide +kernel
  have q1 : (1 : Int32).toInt = 1 := by decide +kernel
  have q256 : (256 : Int32).toInt = 256 := by decide +kernel
  intro h1 h2 h3 h4 h5
  have pk0 := hr1y (by omega)
  have pk1 := hr4y (by omega)
  have pk2 := hr8y (by omega)
  have z3 : tx (κ.2.2.1 9) (κ.1 6) (k0.toInt + 1) = tx (κ.2.2.1 9) (κ.1 6) x3.toInt := by rw [tx3]
  have ev : x5.toInt = 256 * r1.toInt + r4.toInt := by omega
  have htw : ¬ TW (tx (κ.2.2.1 9) (κ.1 6) k0.toInt) (tx (κ.2.2.1 9) (κ.1 6) (k0.toInt + 1)) := by
    have q9 := hr6y_1 (by omega)
    rw [ev] at q9
    rw [z3, show tx (κ.2.2.1 9) (κ.1 6) k0.toInt = r1.toInt by omega, show tx (κ.2.2.1 9) (κ.1 6) x3.toInt = r4.toInt by omega]
    exact fun y => q9 ((PV9_tw (by omega) (by omega) (by omega) (by omega)).mpr y)
  have hsi := hr9y_1 (by omega)
  rw [show r8.toInt = tx (κ.2.2.1 9) (κ.1 6) k0.toInt by omega] at hsi
  exact ⟨none, sgnX h3 h4 h5 htw hsi, by show (-1 : Int32).toInt ≤ _; omega⟩
-- pre:X4_add@57 @57
theorem vX4_sign_7 (κ : KS) (hpre_3 : 0 ≤ (κ.1 7).toInt) (hpre_4 : (κ.1 7).toInt ≤ 41) : 0 ≤ (κ.1 7).toInt ∧ (κ.1 7).toInt ≤ 41 := by
  refine ⟨?_, ?_⟩ <;> first | assumption | omega | (subst_vars; omega) | trivial
-- nw@62 @62
theorem vX4_sign_8 (κ : KS) (k0 : Int32) (r1 : Int32) (x2 : Int32) (x3 : Int32) (r4 : Int32) (x5 : Int32) (r8 : Int32) (r11 : Int32) (x18 : Int32) (hpre_1 : 0 ≤ (κ.1 6).toInt) (hpre_2 : (κ.1 6).toInt ≤ 40) (hpre_5 : 0 ≤ k0.toInt) (hpre_6 : k0.toInt ≤ 40) (hr1_0 : 0 ≤ r1.toInt) (hr1_1 : r1.toInt ≤ 126) (hr1_2 : ¬ r1.toInt = 0 → 0 ≤ k0.toInt ∧ k0.toInt < (κ.1 6).toInt) (ex2 : x2 = r1 * (256 : Int32)) (tx2 : x2.toInt = r1.toInt * 256) (ex3 : x3 = k0 + (1 : Int32)) (tx3 : x3.toInt = k0.toInt + 1) (hr4_0 : 0 ≤ r4.toInt) (hr4_1 : r4.toInt ≤ 126) (hr4_2 : ¬ r4.toInt = 0 → 0 ≤ x3.toInt ∧ x3.toInt < (κ.1 6).toInt) (ex5 : x5 = x2 + r4) (tx5 : x5.toInt = x2.toInt + r4.toInt) (hr8_0 : 0 ≤ r8.toInt) (hr8_1 : r8.toInt ≤ 126) (hr8_2 : ¬ r8.toInt = 0 → 0 ≤ k0.toInt ∧ k0.toInt < (κ.1 6).toInt) (hr11_0 : 0 ≤ r11.toInt) (hr11_1 : r11.toInt ≤ 126) (hr11_2 : ¬ r11.toInt = 0 → 0 ≤ k0.toInt ∧ k0.toInt < (κ.1 6).toInt) (ex18 : x18 = k0 + (1 : Int32)) : x18.toInt = k0.toInt + 1 := by
  have q1 : (1 : Int32).toInt = 1 := by decide +kernel
  have q256 : (256 : Int32).toInt = 256 := by decide +kernel
  have w1 : (1 : Int32).toInt = 1 := by decide +kernel
  rw [ex18, z_add (by omega) (by omega)]; first | done | omega
-- post @63
theorem vX4_sign_9 (κ : KS) (k0 : Int32) (r1 : Int32) (x2 : Int32) (x3 : Int32) (r4 : Int32) (x5 : Int32) (r8 : Int32) (r11 : Int32) (n13 : Int32) (x18 : Int32) (hpre_1 : 0 ≤ (κ.1 6).toInt) (hpre_2 : (κ.1 6).toInt ≤ 40) (hpre_5 : 0 ≤ k0.toInt) (hpre_6 : k0.toInt ≤ 40) (hr1_0 : 0 ≤ r1.toInt) (hr1_1 : r1.toInt ≤ 126) (hr1_2 : ¬ r1.toInt = 0 → 0 ≤ k0.toInt ∧ k0.toInt < (κ.1 6).toInt) (ex2 : x2 = r1 * (256 : Int32)) (tx2 : x2.toInt = r1.toInt * 256) (ex3 : x3 = k0 + (1 : Int32)) (tx3 : x3.toInt = k0.toInt + 1) (hr4_0 : 0 ≤ r4.toInt) (hr4_1 : r4.toInt ≤ 126) (ex5 : x5 = x2 + r4) (tx5 : x5.toInt = x2.toInt + r4.toInt) (hr8_0 : 0 ≤ r8.toInt) (hr8_1 : r8.toInt ≤ 126) (hr8_2 : ¬ r8.toInt = 0 → 0 ≤ k0.toInt ∧ k0.toInt < (κ.1 6).toInt) (hr11_0 : 0 ≤ r11.toInt) (hr11_1 : r11.toInt ≤ 126) (hr11_2 : ¬ r11.toInt = 0 → 0 ≤ k0.toInt ∧ k0.toInt < (κ.1 6).toInt) (hr12_1_0 : 0 ≤ n13.toInt) (hr12_1_1 : n13.toInt ≤ 41) (ex18 : x18 = k0 + (1 : Int32)) (tx18 : x18.toInt = k0.toInt + 1) : 0 ≤ n13.toInt ∧ n13.toInt ≤ 41 ∧ x18.toInt ≤ 42 := by
  have q1 : (1 : Int32).toInt = 1 := by decide +kernel
  have q256 : (256 : Int32).toInt = 256 := by decide +kernel
  refine ⟨?_, ?_, ?_⟩ <;> first | assumption | omega | (subst_vars; omega) | trivial
-- post2 @63
theorem vX4_sign_10 (κ : KS) (k0 : Int32) (r1 : Int32) (x2 : Int32) (x3 : Int32) (r4 : Int32) (x5 : Int32) (r6 : Int32) (r8 : Int32) (r9 : Int32) (r11 : Int32) (n13 : Int32) (F14 : (Nat → Int32)) (F15 : (Nat → Int32)) (F16 : (Nat → Int32)) (x18 : Int32) (hpre_0 : L9 (κ.2.2.1 9)) (hpre_1 : 0 ≤ (κ.1 6).toInt) (hpre_2 : (κ.1 6).toInt ≤ 40) (hpre_3 : 0 ≤ (κ.1 7).toInt) (hpre_4 : (κ.1 7).toInt ≤ 41) (hpre_5 : 0 ≤ k0.toInt) (hpre_6 : k0.toInt ≤ 40) (hr1y : (κ.1 6).toInt ≤ 40 → r1.toInt = tx (κ.2.2.1 9) (κ.1 6) k0.toInt) (hr1_0 : 0 ≤ r1.toInt) (hr1_1 : r1.toInt ≤ 126) (hr1_2 : ¬ r1.toInt = 0 → 0 ≤ k0.toInt ∧ k0.toInt < (κ.1 6).toInt) (ex2 : x2 = r1 * (256 : Int32)) (tx2 : x2.toInt = r1.toInt * 256) (ex3 : x3 = k0 + (1 : Int32)) (tx3 : x3.toInt = k0.toInt + 1) (hr4y : (κ.1 6).toInt ≤ 40 → r4.toInt = tx (κ.2.2.1 9) (κ.1 6) x3.toInt) (hr4_0 : 0 ≤ r4.toInt) (hr4_1 : r4.toInt ≤ 126) (hr4_2 : ¬ r4.toInt = 0 → 0 ≤ x3.toInt ∧ x3.toInt < (κ.1 6).toInt) (ex5 : x5 = x2 + r4) (tx5 : x5.toInt = x2.toInt + r4.toInt) (hr6y_0 : ¬ r6.toInt = 0 → PV9 x5.toInt) (hr6y_1 : r6.toInt = 0 → ¬ PV9 x5.toInt) (hr6_0 : 0 ≤ r6.toInt) (hr6_1 : r6.toInt ≤ 1) (c7 : r6.toInt = 0) (hr8y : (κ.1 6).toInt ≤ 40 → r8.toInt = tx (κ.2.2.1 9) (κ.1 6) k0.toInt) (hr8_0 : 0 ≤ r8.toInt) (hr8_1 : r8.toInt ≤ 126) (hr8_2 : ¬ r8.toInt = 0 → 0 ≤ k0.toInt ∧ k0.toInt < (κ.1 6).toInt) (hr9y_0 : ¬ r9.toInt = 0 → SI r8.toInt) (hr9y_1 : r9.toInt = 0 → ¬ SI r8.toInt) (hr9_0 : 0 ≤ r9.toInt) (hr9_1 : r9.toInt ≤ 1) (c10 : ¬ r9.toInt = 0) (hr11y : (κ.1 6).toInt ≤ 40 → r11.toInt = tx (κ.2.2.1 9) (κ.1 6) k0.toInt) (hr11_0 : 0 ≤ r11.toInt) (hr11_1 : r11.toInt ≤ 126) (hr11_2 : ¬ r11.toInt = 0 → 0 ≤ k0.toInt ∧ k0.toInt < (κ.1 6).toInt) (hr12y : (κ.1 7).toInt < 41 → ADc (κ.2.2.1 10) (κ.2.2.1 11) (κ.2.2.1 12) (κ.1 7) F14 F15 F16 n13 r11 k0 (0 : Int32)) (hr12_1_0 : 0 ≤ n13.toInt) (hr12_1_1 : n13.toInt ≤ 41) (ex18 : x18 = k0 + (1 : Int32)) (tx18 : x18.toInt = k0.toInt + 1) : (κ.1 7).toInt ≤ k0.toInt → k0.toInt < (κ.1 6).toInt → ¬ dg (tx (κ.2.2.1 9) (κ.1 6) k0.toInt) → ¬ lw (tx (κ.2.2.1 9) (κ.1 6) k0.toInt) → ¬ tx (κ.2.2.1 9) (κ.1 6) k0.toInt = 39 → ∃ t9, TokR (tx (κ.2.2.1 9) (κ.1 6)) (κ.1 6).toInt k0.toInt t9 ∧ LXc (κ.2.2.1 10) (κ.2.2.1 11) (κ.2.2.1 12) (κ.1 7) F14 F15 F16 n13 k0.toInt x18.toInt t9 := by
  have q0 : (0 : Int32).toInt = 0 := by decide +kernel
  have q1 : (1 : Int32).toInt = 1 := by decide +kernel
  have q256 : (256 : Int32).toInt = 256 := by decide +kernel
  intro h1 h2 h3 h4 h5
  have pk0 := hr1y (by omega)
  have pk1 := hr4y (by omega)
  have pk2 := hr8y (by omega)
  have pk3 := hr11y (by omega)
  have z3 : tx (κ.2.2.1 9) (κ.1 6) (k0.toInt + 1) = tx (κ.2.2.1 9) (κ.1 6) x3.toInt := by rw [tx3]
  have ev : x5.toInt = 256 * r1.toInt + r4.toInt := by omega
  have htw : ¬ TW (tx (κ.2.2.1 9) (κ.1 6) k0.toInt) (tx (κ.2.2.1 9) (κ.1 6) (k0.toInt + 1)) := by
    have q9 := hr6y_1 (by omega)
    rw [ev] at q9
    rw [z3, show tx (κ.2.2.1 9) (κ.1 6) k0.toInt = r1.toInt by omega, show tx (κ.2.2.1 9) (κ.1 6) x3.toInt = r4.toInt by omega]
    exact fun y => q9 ((PV9_tw (by omega) (by omega) (by omega) (by omega)).mpr y)
  have hsi := hr9y_0 (by omega)
  rw [show r8.toInt = tx (κ.2.2.1 9) (κ.1 6) k0.toInt by omega] at hsi
  exact ⟨_, sgn1 h3 h4 h5 htw hsi rfl rfl, LXc.add (hr12y (by omega)) (by omega) (by omega) (by omega) (by omega) rfl⟩
-- nw@35 @35
theorem vX4_sign_11 (κ : KS) (k0 : Int32) (r1 : Int32) (x2 : Int32) (x3 : Int32) (r4 : Int32) (x5 : Int32) (x25 : Int32) (hpre_1 : 0 ≤ (κ.1 6).toInt) (hpre_2 : (κ.1 6).toInt ≤ 40) (hpre_5 : 0 ≤ k0.toInt) (hpre_6 : k0.toInt ≤ 40) (hr1_0 : 0 ≤ r1.toInt) (hr1_1 : r1.toInt ≤ 126) (hr1_2 : ¬ r1.toInt = 0 → 0 ≤ k0.toInt ∧ k0.toInt < (κ.1 6).toInt) (ex2 : x2 = r1 * (256 : Int32)) (tx2 : x2.toInt = r1.toInt * 256) (ex3 : x3 = k0 + (1 : Int32)) (tx3 : x3.toInt = k0.toInt + 1) (hr4_0 : 0 ≤ r4.toInt) (hr4_1 : r4.toInt ≤ 126) (hr4_2 : ¬ r4.toInt = 0 → 0 ≤ x3.toInt ∧ x3.toInt < (κ.1 6).toInt) (ex5 : x5 = x2 + r4) (tx5 : x5.toInt = x2.toInt + r4.toInt) (ex25 : x25 = k0 + (2 : Int32)) : x25.toInt = k0.toInt + 2 := by
  have q1 : (1 : Int32).toInt = 1 := by decide +kernel
  have q2 : (2 : Int32).toInt = 2 := by decide +kernel
  have q256 : (256 : Int32).toInt = 256 := by decide +kernel
  have w1 : (2 : Int32).toInt = 2 := by decide +kernel
  rw [ex25, z_add (by omega) (by omega)]; first | done | omega
-- post @36
theorem vX4_sign_12 (κ : KS) (k0 : Int32) (r1 : Int32) (x2 : Int32) (x3 : Int32) (r4 : Int32) (x5 : Int32) (n20 : Int32) (x25 : Int32) (hpre_1 : 0 ≤ (κ.1 6).toInt) (hpre_2 : (κ.1 6).toInt ≤ 40) (hpre_5 : 0 ≤ k0.toInt) (hpre_6 : k0.toInt ≤ 40) (hr1_0 : 0 ≤ r1.toInt) (hr1_1 : r1.toInt ≤ 126) (hr1_2 : ¬ r1.toInt = 0 → 0 ≤ k0.toInt ∧ k0.toInt < (κ.1 6).toInt) (ex2 : x2 = r1 * (256 : Int32)) (tx2 : x2.toInt = r1.toInt * 256) (ex3 : x3 = k0 + (1 : Int32)) (tx3 : x3.toInt = k0.toInt + 1) (hr4_0 : 0 ≤ r4.toInt) (hr4_1 : r4.toInt ≤ 126) (ex5 : x5 = x2 + r4) (tx5 : x5.toInt = x2.toInt + r4.toInt) (hr19_1_0 : 0 ≤ n20.toInt) (hr19_1_1 : n20.toInt ≤ 41) (ex25 : x25 = k0 + (2 : Int32)) (tx25 : x25.toInt = k0.toInt + 2) : 0 ≤ n20.toInt ∧ n20.toInt ≤ 41 ∧ x25.toInt ≤ 42 := by
  have q1 : (1 : Int32).toInt = 1 := by decide +kernel
  have q2 : (2 : Int32).toInt = 2 := by decide +kernel
  have q256 : (256 : Int32).toInt = 256 := by decide +kernel
  refine ⟨?_, ?_, ?_⟩ <;> first | assumption | omega | (subst_vars; omega) | trivial
-- post2 @36
theorem vX4_sign_13 (κ : KS) (k0 : Int32) (r1 : Int32) (x2 : Int32) (x3 : Int32) (r4 : Int32) (x5 : Int32) (r6 : Int32) (n20 : Int32) (F21 : (Nat → Int32)) (F22 : (Nat → Int32)) (F23 : (Nat → Int32)) (x25 : Int32) (hpre_0 : L9 (κ.2.2.1 9)) (hpre_1 : 0 ≤ (κ.1 6).toInt) (hpre_2 : (κ.1 6).toInt ≤ 40) (hpre_3 : 0 ≤ (κ.1 7).toInt) (hpre_4 : (κ.1 7).toInt ≤ 41) (hpre_5 : 0 ≤ k0.toInt) (hpre_6 : k0.toInt ≤ 40) (hr1y : (κ.1 6).toInt ≤ 40 → r1.toInt = tx (κ.2.2.1 9) (κ.1 6) k0.toInt) (hr1_0 : 0 ≤ r1.toInt) (hr1_1 : r1.toInt ≤ 126) (hr1_2 : ¬ r1.toInt = 0 → 0 ≤ k0.toInt ∧ k0.toInt < (κ.1 6).toInt) (ex2 : x2 = r1 * (256 : Int32)) (tx2 : x2.toInt = r1.toInt * 256) (ex3 : x3 = k0 + (1 : Int32)) (tx3 : x3.toInt = k0.toInt + 1) (hr4y : (κ.1 6).toInt ≤ 40 → r4.toInt = tx (κ.2.2.1 9) (κ.1 6) x3.toInt) (hr4_0 : 0 ≤ r4.toInt) (hr4_1 : r4.toInt ≤ 126) (hr4_2 : ¬ r4.toInt = 0 → 0 ≤ x3.toInt ∧ x3.toInt < (κ.1 6).toInt) (ex5 : x5 = x2 + r4) (tx5 : x5.toInt = x2.toInt + r4.toInt) (hr6y_0 : ¬ r6.toInt = 0 → PV9 x5.toInt) (hr6y_1 : r6.toInt = 0 → ¬ PV9 x5.toInt) (hr6_0 : 0 ≤ r6.toInt) (hr6_1 : r6.toInt ≤ 1) (c7 : ¬ r6.toInt = 0) (hr19y : (κ.1 7).toInt < 41 → ADc (κ.2.2.1 10) (κ.2.2.1 11) (κ.2.2.1 12) (κ.1 7) F21 F22 F23 n20 x5 k0 (0 : Int32)) (hr19_1_0 : 0 ≤ n20.toInt) (hr19_1_1 : n20.toInt ≤ 41) (ex25 : x25 = k0 + (2 : Int32)) (tx25 : x25.toInt = k0.toInt + 2) : (κ.1 7).toInt ≤ k0.toInt → k0.toInt < (κ.1 6).toInt → ¬ dg (tx (κ.2.2.1 9) (κ.1 6) k0.toInt) → ¬ lw (tx (κ.2.2.1 9) (κ.1 6) k0.toInt) → ¬ tx (κ.2.2.1 9) (κ.1 6) k0.toInt = 39 → ∃ t9, TokR (tx (κ.2.2.1 9) (κ.1 6)) (κ.1 6).toInt k0.toInt t9 ∧ LXc (κ.2.2.1 10) (κ.2.2.1 11) (κ.2.2.1 12) (κ.1 7) F21 F22 F23 n20 k0.toInt x25.toInt t9 := by
  have q0 : (0 : Int32).toInt = 0 := by decide +kernel
  have q1 : (1 : Int32).toInt = 1 := by decide +kernel
  have q2 : (2 : Int32).toInt = 2 := by decide +kernel
  have q256 : (256 : Int32).toInt = 256 := by decide +kernel
  intro h1 h2 h3 h4 h5
  have pk0 := hr1y (by omega)
  have pk1 := hr4y (by omega)
  have z3 : tx (κ.2.2.1 9) (κ.1 6) (k0.toInt + 1) = tx (κ.2.2.1 9) (κ.1 6) x3.toInt := by rw [tx3]
  have ev : x5.toInt = 256 * r1.toInt + r4.toInt := by omega
  have htw : TW (tx (κ.2.2.1 9) (κ.1 6) k0.toInt) (tx (κ.2.2.1 9) (κ.1 6) (k0.toInt + 1)) := by
    have q9 := hr6y_0 (by omega)
    rw [ev] at q9
    rw [z3, show tx (κ.2.2.1 9) (κ.1 6) k0.toInt = r1.toInt by omega, show tx (κ.2.2.1 9) (κ.1 6) x3.toInt = r4.toInt by omega]
    exact (PV9_tw (by omega) (by omega) (by omega) (by omega)).mp q9
  exact ⟨_, sgnN h3 h4 h5 htw rfl rfl, LXc.add (hr19y (by omega)) (by omega) (by omega) (by omega) (by omega) rfl⟩
set_option maxHeartbeats 4000000 in
set_option maxRecDepth 100000 in
theorem NX4_sign (l : Launch) (D : va_G) (cy : Nat → ClassId) (ad : Nat → Nat) (A : Nat → Prop) (sz0 : Nat) (sa : Nat → Nat)  (κ : KS) (sz sl : Nat) (hAF : ∀ q, A q → Fr sz0 q) (hAn : ∀ q : Nat, sz ≤ q → A q) (k0 : Int32) (hSV : SV ad κ.2.2.2.2 (κ.2.1 0) (κ.2.1 1) (κ.2.2.2.1 6) (κ.2.2.2.1 7) (κ.2.2.2.1 8) (κ.2.2.2.1 13) (κ.2.2.2.1 15) (κ.2.2.2.1 17) (κ.1 1).toInt) (hpre : L9 (κ.2.2.1 9) ∧ 0 ≤ (κ.1 6).toInt ∧ (κ.1 6).toInt ≤ 40 ∧ 0 ≤ (κ.1 7).toInt ∧ (κ.1 7).toInt ≤ 41 ∧ 0 ≤ k0.toInt ∧ k0.toInt ≤ 40) : Met l yX4_sign (Cond.code yX4_sign cX4_sign 3 (some .int) :: GWc) ({ frames := 1, cells := 0, slots := 0, locals := 24 }) (PcC D cy ad A sz0 sa [.ref (ad 2), .int k0] κ sz sl) (va_Qi (fun (r : Int32) (u : Int32 × (Nat → Int32) × (Nat → Int32) × (Nat → Int32) × (Nat → Option Nat)) => ((SV ad κ.2.2.2.2 (κ.2.1 0) (κ.2.1 1) (κ.2.2.2.1 6) (κ.2.2.2.1 7) (κ.2.2.2.1 8) u.2.2.2.2 (κ.2.2.2.1 15) (κ.2.2.2.1 17) (κ.1 1).toInt) ∧ (0 ≤ u.1.toInt ∧ u.1.toInt ≤ 41 ∧ r.toInt ≤ 42)) ∧ ((κ.1 7).toInt ≤ k0.toInt → k0.toInt < (κ.1 6).toInt → ¬ dg (tx (κ.2.2.1 9) (κ.1 6) k0.toInt) → ¬ lw (tx (κ.2.2.1 9) (κ.1 6) k0.toInt) → ¬ tx (κ.2.2.1 9) (κ.1 6) k0.toInt = 39 → ∃ t9, TokR (tx (κ.2.2.1 9) (κ.1 6)) (κ.1 6).toInt k0.toInt t9 ∧ LXc (κ.2.2.1 10) (κ.2.2.1 11) (κ.2.2.1 12) (κ.1 7) u.2.1 u.2.2.1 u.2.2.2.1 u.1 k0.toInt r.toInt t9)) (fun (u : Int32 × (Nat → Int32) × (Nat → Int32) × (Nat → Int32) × (Nat → Option Nat)) (t : State) => Bx D cy ad A sz sl (tQ (tA (tA (tA (tI κ 7 u.1) 10 u.2.1) 11 u.2.2.1) 12 u.2.2.2.1) 13 u.2.2.2.2) (0) (0) t) A) (0) (0) A := by
  refine CM_of (loc0 := [(0, .ref (ad 2)), (1, .int k0)]) (own := RX4) (nm := "sign") (by decide) rfl rfl rfl (Nat.le_of_ble_eq_true rfl) hAF hAn ?_
  intro p e s m below meth c ls hsz hsl C hP hS hl
  obtain ⟨hpre_0, hpre_1, hpre_2, hpre_3, hpre_4, hpre_5, hpre_6⟩ := hpre
  refine lv_aload_n C.x C.b dX4_sign_0 rfl (lv_at hl 0 rfl) ?_
  refine lv_iload_n C.x C.b dX4_sign_1 rfl (lv_at hl 1 rfl) ?_
  refine c_callVi (n := 1) (As := [.int k0]) (rest := []) C hP hS hl.1 (NX4_peek l D cy ad A sz0 sa κ s.heap.size (SLT s.heap) C.f (fun q h => C.a q (Nat.le_trans hS.1 h)) k0 (vX4_sign_1 κ hpre_0)) ⟨cw_481, cw_485, by decide +kernel⟩ ⟨cw_482, cw_483, cw_484⟩ rfl (hP.recvS (k := 2) (ci := 6) C.K rfl rfl) rfl rfl (lv_room (Nat.le_of_ble_eq_true rfl)) ⟨Nat.le_of_ble_eq_true rfl, Nat.le_of_ble_eq_true rfl⟩ ⟨(Nat.le_of_ble_eq_true rfl), (Nat.le_of_ble_eq_true rfl)⟩ dX4_sign_2 (fun r1 u H locs hr1 hP hS => ?_)
  obtain ⟨hr1, hr1y⟩ := hr1
  have hr1y : (κ.1 6).toInt ≤ 40 → r1.toInt = tx (κ.2.2.1 9) (κ.1 6) k0.toInt := hr1y
  have hr1 : (0 ≤ r1.toInt ∧ r1.toInt ≤ 126 ∧ (¬ r1.toInt = 0 → 0 ≤ k0.toInt ∧ k0.toInt < (κ.1 6).toInt)) := hr1
  obtain ⟨hr1_0, hr1_1, hr1_2⟩ := hr1
  refine lv_sipush (v := 256) C.x C.b dX4_sign_5 (by decide +kernel) ?_
  refine lv_imul C.x C.b dX4_sign_8 ?_
  refine lv_topi (fun x2 ex2 => ?_)
  have tx2 : x2.toInt = r1.toInt * 256 := (vX4_sign_2 κ k0 r1 x2 hpre_1 hpre_2 hpre_5 hpre_6 hr1_0 hr1_1 hr1_2 ex2)
  refine lv_aload_n C.x C.b dX4_sign_9 rfl (lv_at hl 0 rfl) ?_
  refine lv_iload_n C.x C.b dX4_sign_10 rfl (lv_at hl 1 rfl) ?_
  refine lv_iconst (v := 1) C.x C.b dX4_sign_11 (by decide +kernel) ?_
  refine lv_iadd C.x C.b dX4_sign_12 ?_
  refine lv_topi (fun x3 ex3 => ?_)
  have tx3 : x3.toInt = k0.toInt + 1 := (vX4_sign_3 κ k0 r1 x2 x3 hpre_1 hpre_2 hpre_5 hpre_6 hr1_0 hr1_1 hr1_2 ex2 tx2 ex3)
  refine c_callVi (n := 1) (As := [.int x3]) (rest := [.int x2]) C hP hS hl.1 (NX4_peek l D cy ad A sz0 sa κ H.size (SLT H) C.f (fun q h => C.a q (Nat.le_trans hS.1 h)) x3 (vX4_sign_1 κ hpre_0)) ⟨cw_481, cw_485, by decide +kernel⟩ ⟨cw_482, cw_483, cw_484⟩ rfl (hP.recvS (k := 2) (ci := 6) C.K rfl rfl) rfl rfl (lv_room (Nat.le_of_ble_eq_true rfl)) ⟨Nat.le_of_ble_eq_true rfl, Nat.le_of_ble_eq_true rfl⟩ ⟨(Nat.le_of_ble_eq_true rfl), (Nat.le_of_ble_eq_true rfl)⟩ dX4_sign_13 (fun r4 u H locs hr4 hP hS => ?_)
  obtain ⟨hr4, hr4y⟩ := hr4
  have hr4y : (κ.1 6).toInt ≤ 40 → r4.toInt = tx (κ.2.2.1 9) (κ.1 6) x3.toInt := hr4y
  have hr4 : (0 ≤ r4.toInt ∧ r4.toInt ≤ 126 ∧ (¬ r4.toInt = 0 → 0 ≤ x3.toInt ∧ x3.toInt < (κ.1 6).toInt)) := hr4
  obtain ⟨hr4_0, hr4_1, hr4_2⟩ := hr4
  refine lv_iadd C.x C.b dX4_sign_16 ?_
  refine lv_topi (fun x5 ex5 => ?_)
  have tx5 : x5.toInt = x2.toInt + r4.toInt := (vX4_sign_4 κ k0 r1 x2 x3 r4 x5 hpre_1 hpre_2 hpre_5 hpre_6 hr1_0 hr1_1 hr1_2 ex2 tx2 ex3 tx3 hr4_0 hr4_1 hr4_2 ex5)
  refine lv_istore_n (lv' := [(2, .int x5), (0, .ref (ad 2)), (1, .int k0)]) C.x C.b dX4_sign_17 rfl hl (by decide) rfl (fun ls hl => ?_)
  refine lv_iload_n C.x C.b dX4_sign_18 rfl (lv_at hl 0 rfl) ?_
  refine c_callSi (C2 := "") (b := 0) (n := 1) (As := [.int x5]) (rest := []) C hP hS hl.1 (NX4_isPair l D cy ad A sz0 sa κ H.size (SLT H) C.f (fun q h => C.a q (Nat.le_trans hS.1 h)) x5 ) ⟨cw_535, cw_537, by decide +kernel⟩ ⟨cw_536, cw_484⟩ rfl rfl (lv_room (Nat.le_of_ble_eq_true rfl)) ⟨Nat.le_of_ble_eq_true rfl, Nat.le_of_ble_eq_true rfl⟩ ⟨(Nat.le_of_ble_eq_true rfl), (Nat.le_of_ble_eq_true rfl)⟩ dX4_sign_19 (fun r6 u H locs hr6 hP hS => ?_)
  obtain ⟨hr6, hr6y⟩ := hr6
  have hr6y : (¬ r6.toInt = 0 → PV9 x5.toInt) ∧ (r6.toInt = 0 → ¬ PV9 x5.toInt) := hr6y
  have hr6 : (0 ≤ r6.toInt ∧ r6.toInt ≤ 1) := hr6
  obtain ⟨hr6y_0, hr6y_1⟩ := hr6y
  obtain ⟨hr6_0, hr6_1⟩ := hr6
  refine lv_if_eq (tgt := 37) C.x C.b dX4_sign_22 (by decide) (fun c7 => ?_) (fun c7 => ?_)
  · have c7 : r6.toInt = 0 := by have h := z_eq c7; rw [show (0 : Int32).toInt = 0 from by decide +kernel] at h; exact h
    refine lv_aload_n C.x C.b dX4_sign_37 rfl (lv_at hl 1 rfl) ?_
    refine lv_iload_n C.x C.b dX4_sign_38 rfl (lv_at hl 2 rfl) ?_
    refine c_callVi (n := 1) (As := [.int k0]) (rest := []) C hP hS hl.1 (NX4_peek l D cy ad A sz0 sa κ H.size (SLT H) C.f (fun q h => C.a q (Nat.le_trans hS.1 h)) k0 (vX4_sign_1 κ hpre_0)) ⟨cw_481, cw_485, by decide +kernel⟩ ⟨cw_482, cw_483, cw_484⟩ rfl (hP.recvS (k := 2) (ci := 6) C.K rfl rfl) rfl rfl (lv_room (Nat.le_of_ble_eq_true rfl)) ⟨Nat.le_of_ble_eq_true rfl, Nat.le_of_ble_eq_true rfl⟩ ⟨(Nat.le_of_ble_eq_true rfl), (Nat.le_of_ble_eq_true rfl)⟩ dX4_sign_39 (fun r8 u H locs hr8 hP hS => ?_)
    obtain ⟨hr8, hr8y⟩ := hr8
    have hr8y : (κ.1 6).toInt ≤ 40 → r8.toInt = tx (κ.2.2.1 9) (κ.1 6) k0.toInt := hr8y
    have hr8 : (0 ≤ r8.toInt ∧ r8.toInt ≤ 126 ∧ (¬ r8.toInt = 0 → 0 ≤ k0.toInt ∧ k0.toInt < (κ.1 6).toInt)) := hr8
    obtain ⟨hr8_0, hr8_1, hr8_2⟩ := hr8
    refine c_callSi (C2 := "") (b := 0) (n := 1) (As := [.int r8]) (rest := []) C hP hS hl.1 (NX4_isSingle l D cy ad A sz0 sa κ H.size (SLT H) C.f (fun q h => C.a q (Nat.le_trans hS.1 h)) r8 ) ⟨cw_538, cw_540, by decide +kernel⟩ ⟨cw_539, cw_484⟩ rfl rfl (lv_room (Nat.le_of_ble_eq_true rfl)) ⟨Nat.le_of_ble_eq_true rfl, Nat.le_of_ble_eq_true rfl⟩ ⟨(Nat.le_of_ble_eq_true rfl), (Nat.le_of_ble_eq_true rfl)⟩ dX4_sign_42 (fun r9 u H locs hr9 hP hS => ?_)
    obtain ⟨hr9, hr9y⟩ := hr9
    have hr9y : (¬ r9.toInt = 0 → SI r8.toInt) ∧ (r9.toInt = 0 → ¬ SI r8.toInt) := hr9y
    have hr9 : (0 ≤ r9.toInt ∧ r9.toInt ≤ 1) := hr9
    obtain ⟨hr9y_0, hr9y_1⟩ := hr9y
    obtain ⟨hr9_0, hr9_1⟩ := hr9
    refine lv_if_eq (tgt := 64) C.x C.b dX4_sign_45 (by decide) (fun c10 => ?_) (fun c10 => ?_)
    · have c10 : r9.toInt = 0 := by have h := z_eq c10; rw [show (0 : Int32).toInt = 0 from by decide +kernel] at h; exact h
      refine lv_iconst (v := (-1)) C.x C.b dX4_sign_64 (by decide +kernel) ?_
      have hP : CH D cy ad A (tQ (tA (tA (tA (tI κ 7 (κ.1 7)) 10 (κ.2.2.1 10)) 11 (κ.2.2.1 11)) 12 (κ.2.2.1 12)) 13 (κ.2.2.2.1 13)) H := CH.cong hP rfl rfl rfl rfl rfl rfl rfl rfl rfl rfl rfl rfl rfl rfl rfl rfl rfl rfl rfl rfl rfl rfl rfl rfl rfl rfl rfl
      exact c_reti C hsz hsl ⟨(κ.1 7), (κ.2.2.1 10), (κ.2.2.1 11), (κ.2.2.1 12), (κ.2.2.2.1 13)⟩ ⟨⟨hSV, (vX4_sign_5 κ hpre_3 hpre_4)⟩, (vX4_sign_6 κ k0 r1 x2 x3 r4 x5 r6 r8 r9 hpre_0 hpre_1 hpre_2 hpre_3 hpre_4 hpre_5 hpre_6 hr1y hr1_0 hr1_1 hr1_2 ex2 tx2 ex3 tx3 hr4y hr4_0 hr4_1 hr4_2 ex5 tx5 hr6y_0 hr6y_1 hr6_0 hr6_1 c7 hr8y hr8_0 hr8_1 hr8_2 hr9y_0 hr9y_1 hr9_0 hr9_1 c10)⟩ hP hS ⟨(Nat.le_of_ble_eq_true rfl), (Nat.le_of_ble_eq_true rfl)⟩ ⟨(Nat.le_of_ble_eq_true rfl), (Nat.le_of_ble_eq_true rfl)⟩ dX4_sign_65
    · have c10 : ¬ r9.toInt = 0 := by have h := z_ne c10; rw [show (0 : Int32).toInt = 0 from by decide +kernel] at h; exact h
      refine lv_aload_n C.x C.b dX4_sign_48 rfl (lv_at hl 1 rfl) ?_
      refine lv_aload_n C.x C.b dX4_sign_49 rfl (lv_at hl 1 rfl) ?_
      refine lv_iload_n C.x C.b dX4_sign_50 rfl (lv_at hl 2 rfl) ?_
      refine c_callVi (n := 1) (As := [.int k0]) (rest := [.ref (ad 2)]) C hP hS hl.1 (NX4_peek l D cy ad A sz0 sa κ H.size (SLT H) C.f (fun q h => C.a q (Nat.le_trans hS.1 h)) k0 (vX4_sign_1 κ hpre_0)) ⟨cw_481, cw_485, by decide +kernel⟩ ⟨cw_482, cw_483, cw_484⟩ rfl (hP.recvS (k := 2) (ci := 6) C.K rfl rfl) rfl rfl (lv_room (Nat.le_of_ble_eq_true rfl)) ⟨Nat.le_of_ble_eq_true rfl, Nat.le_of_ble_eq_true rfl⟩ ⟨(Nat.le_of_ble_eq_true rfl), (Nat.le_of_ble_eq_true rfl)⟩ dX4_sign_51 (fun r11 u H locs hr11 hP hS => ?_)
      obtain ⟨hr11, hr11y⟩ := hr11
      have hr11y : (κ.1 6).toInt ≤ 40 → r11.toInt = tx (κ.2.2.1 9) (κ.1 6) k0.toInt := hr11y
      have hr11 : (0 ≤ r11.toInt ∧ r11.toInt ≤ 126 ∧ (¬ r11.toInt = 0 → 0 ≤ k0.toInt ∧ k0.toInt < (κ.1 6).toInt)) := hr11
      obtain ⟨hr11_0, hr11_1, hr11_2⟩ := hr11
      refine lv_iload_n C.x C.b dX4_sign_54 rfl (lv_at hl 2 rfl) ?_
      refine lv_iconst (v := 0) C.x C.b dX4_sign_55 (by decide +kernel) ?_
      refine lv_null C.x C.b dX4_sign_56 ?_
      refine c_callVv (n := 4) (As := [.int r11, .int k0, .int 0, .null]) (rest := []) C hP hS hl.1 (NX4_add l D cy ad A sz0 sa κ H.size (SLT H) C.f (fun q h => C.a q (Nat.le_trans hS.1 h)) r11 k0 (0 : Int32) none nt_n hSV (vX4_sign_7 κ hpre_3 hpre_4)) ⟨cw_509, cw_512, by decide +kernel⟩ ⟨cw_510, cw_511, cw_484⟩ rfl (hP.recvS (k := 2) (ci := 6) C.K rfl rfl) rfl rfl (lv_room (Nat.le_of_ble_eq_true rfl)) ⟨Nat.le_of_ble_eq_true rfl, Nat.le_of_ble_eq_true rfl⟩ ⟨(Nat.le_of_ble_eq_true rfl), (Nat.le_of_ble_eq_true rfl)⟩ dX4_sign_57 (fun u H locs hr12 hP hS => ?_)
      obtain ⟨n13, F14, F15, F16, Z17⟩ := u
      have hP : CH D cy ad A (tQ (tA (tA (tA (tI κ 7 n13) 10 F14) 11 F15) 12 F16) 13 Z17) H := hP
      obtain ⟨hr12, hr12y⟩ := hr12
      have hr12y : (κ.1 7).toInt < 41 → ADc (κ.2.2.1 10) (κ.2.2.1 11) (κ.2.2.1 12) (κ.1 7) F14 F15 F16 n13 r11 k0 (0 : Int32) := hr12y
      have hr12 : (SV ad κ.2.2.2.2 (κ.2.1 0) (κ.2.1 1) (κ.2.2.2.1 6) (κ.2.2.2.1 7) (κ.2.2.2.1 8) Z17 (κ.2.2.2.1 15) (κ.2.2.2.1 17) (κ.1 1).toInt) ∧ (0 ≤ n13.toInt ∧ n13.toInt ≤ 41) := hr12
      obtain ⟨hr12_0, hr12_1⟩ := hr12
      obtain ⟨hr12_1_0, hr12_1_1⟩ := hr12_1
      refine lv_iload_n C.x C.b dX4_sign_60 rfl (lv_at hl 2 rfl) ?_
      refine lv_iconst (v := 1) C.x C.b dX4_sign_61 (by decide +kernel) ?_
      refine lv_iadd C.x C.b dX4_sign_62 ?_
      refine lv_topi (fun x18 ex18 => ?_)
      have tx18 : x18.toInt = k0.toInt + 1 := (vX4_sign_8 κ k0 r1 x2 x3 r4 x5 r8 r11 x18 hpre_1 hpre_2 hpre_5 hpre_6 hr1_0 hr1_1 hr1_2 ex2 tx2 ex3 tx3 hr4_0 hr4_1 hr4_2 ex5 tx5 hr8_0 hr8_1 hr8_2 hr11_0 hr11_1 hr11_2 ex18)
      exact c_reti C hsz hsl ⟨n13, F14, F15, F16, Z17⟩ ⟨⟨hr12_0, (vX4_sign_9 κ k0 r1 x2 x3 r4 x5 r8 r11 n13 x18 hpre_1 hpre_2 hpre_5 hpre_6 hr1_0 hr1_1 hr1_2 ex2 tx2 ex3 tx3 hr4_0 hr4_1 ex5 tx5 hr8_0 hr8_1 hr8_2 hr11_0 hr11_1 hr11_2 hr12_1_0 hr12_1_1 ex18 tx18)⟩, (vX4_sign_10 κ k0 r1 x2 x3 r4 x5 r6 r8 r9 r11 n13 F14 F15 F16 x18 hpre_0 hpre_1 hpre_2 hpre_3 hpre_4 hpre_5 hpre_6 hr1y hr1_0 hr1_1 hr1_2 ex2 tx2 ex3 tx3 hr4y hr4_0 hr4_1 hr4_2 ex5 tx5 hr6y_0 hr6y_1 hr6_0 hr6_1 c7 hr8y hr8_0 hr8_1 hr8_2 hr9y_0 hr9y_1 hr9_0 hr9_1 c10 hr11y hr11_0 hr11_1 hr11_2 hr12y hr12_1_0 hr12_1_1 ex18 tx18)⟩ hP hS ⟨(Nat.le_of_ble_eq_true rfl), (Nat.le_of_ble_eq_true rfl)⟩ ⟨(Nat.le_of_ble_eq_true rfl), (Nat.le_of_ble_eq_true rfl)⟩ dX4_sign_63
  · have c7 : ¬ r6.toInt = 0 := by have h := z_ne c7; rw [show (0 : Int32).toInt = 0 from by decide +kernel] at h; exact h
    refine lv_aload_n C.x C.b dX4_sign_25 rfl (lv_at hl 1 rfl) ?_
    refine lv_iload_n C.x C.b dX4_sign_26 rfl (lv_at hl 0 rfl) ?_
    refine lv_iload_n C.x C.b dX4_sign_27 rfl (lv_at hl 2 rfl) ?_
    refine lv_iconst (v := 0) C.x C.b dX4_sign_28 (by decide +kernel) ?_
    refine lv_null C.x C.b dX4_sign_29 ?_
    refine c_callVv (n := 4) (As := [.int x5, .int k0, .int 0, .null]) (rest := []) C hP hS hl.1 (NX4_add l D cy ad A sz0 sa κ H.size (SLT H) C.f (fun q h => C.a q (Nat.le_trans hS.1 h)) x5 k0 (0 : Int32) none nt_n hSV (vX4_sign_7 κ hpre_3 hpre_4)) ⟨cw_509, cw_512, by decide +kernel⟩ ⟨cw_510, cw_511, cw_484⟩ rfl (hP.recvS (k := 2) (ci := 6) C.K rfl rfl) rfl rfl (lv_room (Nat.le_of_ble_eq_true rfl)) ⟨Nat.le_of_ble_eq_true rfl, Nat.le_of_ble_eq_true rfl⟩ ⟨(Nat.le_of_ble_eq_true rfl), (Nat.le_of_ble_eq_true rfl)⟩ dX4_sign_30 (fun u H locs hr19 hP hS => ?_)
    obtain ⟨n20, F21, F22, F23, Z24⟩ := u
    have hP : CH D cy ad A (tQ (tA (tA (tA (tI κ 7 n20) 10 F21) 11 F22) 12 F23) 13 Z24) H := hP
    obtain ⟨hr19, hr19y⟩ := hr19
    have hr19y : (κ.1 7).toInt < 41 → ADc (κ.2.2.1 10) (κ.2.2.1 11) (κ.2.2.1 12) (κ.1 7) F21 F22 F23 n20 x5 k0 (0 : Int32) := hr19y
    have hr19 : (SV ad κ.2.2.2.2 (κ.2.1 0) (κ.2.1 1) (κ.2.2.2.1 6) (κ.2.2.2.1 7) (κ.2.2.2.1 8) Z24 (κ.2.2.2.1 15) (κ.2.2.2.1 17) (κ.1 1).toInt) ∧ (0 ≤ n20.toInt ∧ n20.toInt ≤ 41) := hr19
    obtain ⟨hr19_0, hr19_1⟩ := hr19
    obtain ⟨hr19_1_0, hr19_1_1⟩ := hr19_1
    refine lv_iload_n C.x C.b dX4_sign_33 rfl (lv_at hl 2 rfl) ?_
    refine lv_iconst (v := 2) C.x C.b dX4_sign_34 (by decide +kernel) ?_
    refine lv_iadd C.x C.b dX4_sign_35 ?_
    refine lv_topi (fun x25 ex25 => ?_)
    have tx25 : x25.toInt = k0.toInt + 2 := (vX4_sign_11 κ k0 r1 x2 x3 r4 x5 x25 hpre_1 hpre_2 hpre_5 hpre_6 hr1_0 hr1_1 hr1_2 ex2 tx2 ex3 tx3 hr4_0 hr4_1 hr4_2 ex5 tx5 ex25)
    exact c_reti C hsz hsl ⟨n20, F21, F22, F23, Z24⟩ ⟨⟨hr19_0, (vX4_sign_12 κ k0 r1 x2 x3 r4 x5 n20 x25 hpre_1 hpre_2 hpre_5 hpre_6 hr1_0 hr1_1 hr1_2 ex2 tx2 ex3 tx3 hr4_0 hr4_1 ex5 tx5 hr19_1_0 hr19_1_1 ex25 tx25)⟩, (vX4_sign_13 κ k0 r1 x2 x3 r4 x5 r6 n20 F21 F22 F23 x25 hpre_0 hpre_1 hpre_2 hpre_3 hpre_4 hpre_5 hpre_6 hr1y hr1_0 hr1_1 hr1_2 ex2 tx2 ex3 tx3 hr4y hr4_0 hr4_1 hr4_2 ex5 tx5 hr6y_0 hr6y_1 hr6_0 hr6_1 c7 hr19y hr19_1_0 hr19_1_1 ex25 tx25)⟩ hP hS ⟨(Nat.le_of_ble_eq_true rfl), (Nat.le_of_ble_eq_true rfl)⟩ ⟨(Nat.le_of_ble_eq_true rfl), (Nat.le_of_ble_eq_true rfl)⟩ dX4_sign_36

-- pre:X4_endOfDigits@2 @2
theorem vX4_number_1 (κ : KS) (k0 : Int32) (hpre_0 : L9 (κ.2.2.1 9)) (hpre_1 : 0 ≤ (κ.1 6).toInt) (hpre_2 : (κ.1 6).toInt ≤ 40) (hpre_5 : 0 ≤ k0.toInt) (hpre_6 : k0.toInt ≤ 40) : L9 (κ.2.2.1 9) ∧ 0 ≤ (κ.1 6).toInt ∧ (κ.1 6).toInt ≤ 40 ∧ 0 ≤ k0.toInt ∧ k0.toInt ≤ 41 := by
  refine ⟨?_, ?_, ?_, ?_, ?_⟩ <;> first | assumption | omega | (subst_vars; omega) | trivial
-- nw@8 @8
theorem vX4_number_2 (κ : KS) (k0 : Int32) (r1 : Int32) (x2 : Int32) (hpre_1 : 0 ≤ (κ.1 6).toInt) (hpre_2 : (κ.1 6).toInt ≤ 40) (hpre_5 : 0 ≤ k0.toInt) (hpre_6 : k0.toInt ≤ 40) (hr1_0 : k0.toInt ≤ r1.toInt) (hr1_1 : r1.toInt ≤ max k0.toInt (κ.1 6).toInt) (ex2 : x2 = r1 - k0) : x2.toInt = r1.toInt - k0.toInt := by
  rw [ex2, z_sub (by omega) (by omega)]; first | done | omega
-- pre:X4_peek@18 @18
theorem vX4_number_3 (κ : KS) (hpre_0 : L9 (κ.2.2.1 9)) : L9 (κ.2.2.1 9) := by
  first | assumption | omega | (subst_vars; omega) | trivial
-- nw@41 @41
theorem vX4_number_4 (κ : KS) (k0 : Int32) (r1 : Int32) (x2 : Int32) (r4 : Int32) (x6 : Int32) (hpre_1 : 0 ≤ (κ.1 6).toInt) (hpre_2 : (κ.1 6).toInt ≤ 40) (hpre_5 : 0 ≤ k0.toInt) (hpre_6 : k0.toInt ≤ 40) (hr1_0 : k0.toInt ≤ r1.toInt) (hr1_1 : r1.toInt ≤ max k0.toInt (κ.1 6).toInt) (ex2 : x2 = r1 - k0) (tx2 : x2.toInt = r1.toInt - k0.toInt) (c3 : x2.toInt ≤ 6) (hr4_0 : 0 ≤ r4.toInt) (hr4_1 : r4.toInt ≤ 126) (hr4_2 : ¬ r4.toInt = 0 → 0 ≤ r1.toInt ∧ r1.toInt < (κ.1 6).toInt) (c5 : ¬ r4.toInt = 46) (ex6 : x6 = r1 + (1 : Int32)) : x6.toInt = r1.toInt + 1 := by
  have q1 : (1 : Int32).toInt = 1 := by decide +kernel
  have w1 : (1 : Int32).toInt = 1 := by decide +kernel
  rw [ex6, z_add (by omega) (by omega)]; first | done | omega
-- nw@66 @66
theorem vX4_number_5 (κ : KS) (k0 : Int32) (r1 : Int32) (x2 : Int32) (r4 : Int32) (x6 : Int32) (x8 : Int32) (hpre_1 : 0 ≤ (κ.1 6).toInt) (hpre_2 : (κ.1 6).toInt ≤ 40) (hpre_5 : 0 ≤ k0.toInt) (hpre_6 : k0.toInt ≤ 40) (hr1_0 : k0.toInt ≤ r1.toInt) (hr1_1 : r1.toInt ≤ max k0.toInt (κ.1 6).toInt) (ex2 : x2 = r1 - k0) (tx2 : x2.toInt = r1.toInt - k0.toInt) (c3 : x2.toInt ≤ 6) (hr4_0 : 0 ≤ r4.toInt) (hr4_1 : r4.toInt ≤ 126) (hr4_2 : ¬ r4.toInt = 0 → 0 ≤ r1.toInt ∧ r1.toInt < (κ.1 6).toInt) (c5 : ¬ r4.toInt = 46) (ex6 : x6 = r1 + (1 : Int32)) (tx6 : x6.toInt = r1.toInt + 1) (c7 : x6.toInt < r1.toInt) (ex8 : x8 = r1 - r1) : x8.toInt = r1.toInt - r1.toInt := by
  have q1 : (1 : Int32).toInt = 1 := by decide +kernel
  rw [ex8, z_sub (by omega) (by omega)]; first | done | omega
-- nw@68 @68
theorem vX4_number_6 (κ : KS) (k0 : Int32) (r1 : Int32) (x2 : Int32) (r4 : Int32) (x6 : Int32) (x8 : Int32) (x9 : Int32) (hpre_1 : 0 ≤ (κ.1 6).toInt) (hpre_2 : (κ.1 6).toInt ≤ 40) (hpre_5 : 0 ≤ k0.toInt) (hpre_6 : k0.toInt ≤ 40) (hr1_0 : k0.toInt ≤ r1.toInt) (hr1_1 : r1.toInt ≤ max k0.toInt (κ.1 6).toInt) (ex2 : x2 = r1 - k0) (tx2 : x2.toInt = r1.toInt - k0.toInt) (c3 : x2.toInt ≤ 6) (hr4_0 : 0 ≤ r4.toInt) (hr4_1 : r4.toInt ≤ 126) (hr4_2 : ¬ r4.toInt = 0 → 0 ≤ r1.toInt ∧ r1.toInt < (κ.1 6).toInt) (c5 : ¬ r4.toInt = 46) (ex6 : x6 = r1 + (1 : Int32)) (tx6 : x6.toInt = r1.toInt + 1) (c7 : x6.toInt < r1.toInt) (ex8 : x8 = r1 - r1) (tx8 : x8.toInt = r1.toInt - r1.toInt) (ex9 : x9 = x8 - (1 : Int32)) : x9.toInt = x8.toInt - 1 := by
  have q1 : (1 : Int32).toInt = 1 := by decide +kernel
  have w1 : (1 : Int32).toInt = 1 := by decide +kernel
  rw [ex9, z_sub (by omega) (by omega)]; first | done | omega
-- nw@111 @111
theorem vX4_number_7 (κ : KS) (k0 : Int32) (r1 : Int32) (x2 : Int32) (r4 : Int32) (x6 : Int32) (x8 : Int32) (x9 : Int32) (x13 : Int32) (hpre_1 : 0 ≤ (κ.1 6).toInt) (hpre_2 : (κ.1 6).toInt ≤ 40) (hpre_5 : 0 ≤ k0.toInt) (hpre_6 : k0.toInt ≤ 40) (hr1_0 : k0.toInt ≤ r1.toInt) (hr1_1 : r1.toInt ≤ max k0.toInt (κ.1 6).toInt) (ex2 : x2 = r1 - k0) (tx2 : x2.toInt = r1.toInt - k0.toInt) (c3 : x2.toInt ≤ 6) (hr4_0 : 0 ≤ r4.toInt) (hr4_1 : r4.toInt ≤ 126) (hr4_2 : ¬ r4.toInt = 0 → 0 ≤ r1.toInt ∧ r1.toInt < (κ.1 6).toInt) (c5 : ¬ r4.toInt = 46) (ex6 : x6 = r1 + (1 : Int32)) (tx6 : x6.toInt = r1.toInt + 1) (c7 : x6.toInt < r1.toInt) (ex8 : x8 = r1 - r1) (tx8 : x8.toInt = r1.toInt - r1.toInt) (ex9 : x9 = x8 - (1 : Int32)) (tx9 : x9.toInt = x8.toInt - 1) (c10 : x9.toInt ≤ 3) (c11 : ¬ x9.toInt = 1) (c12 : ¬ x9.toInt = 2) (ex13 : x13 = r1 + (1 : Int32)) : x13.toInt = r1.toInt + 1 := by
  have q1 : (1 : Int32).toInt = 1 := by decide +kernel
  have w1 : (1 : Int32).toInt = 1 := by decide +kernel
  rw [ex13, z_add (by omega) (by omega)]; first | done | omega
-- pre:X4_digits@117 @117
theorem vX4_number_8 (κ : KS) (k0 : Int32) (r1 : Int32) (x2 : Int32) (r4 : Int32) (x6 : Int32) (x8 : Int32) (x9 : Int32) (x13 : Int32) (hpre_0 : L9 (κ.2.2.1 9)) (hpre_1 : 0 ≤ (κ.1 6).toInt) (hpre_2 : (κ.1 6).toInt ≤ 40) (hpre_5 : 0 ≤ k0.toInt) (hpre_6 : k0.toInt ≤ 40) (hr1_0 : k0.toInt ≤ r1.toInt) (hr1_1 : r1.toInt ≤ max k0.toInt (κ.1 6).toInt) (ex2 : x2 = r1 - k0) (tx2 : x2.toInt = r1.toInt - k0.toInt) (c3 : x2.toInt ≤ 6) (hr4_0 : 0 ≤ r4.toInt) (hr4_1 : r4.toInt ≤ 126) (hr4_2 : ¬ r4.toInt = 0 → 0 ≤ r1.toInt ∧ r1.toInt < (κ.1 6).toInt) (c5 : ¬ r4.toInt = 46) (ex6 : x6 = r1 + (1 : Int32)) (tx6 : x6.toInt = r1.toInt + 1) (c7 : x6.toInt < r1.toInt) (ex8 : x8 = r1 - r1) (tx8 : x8.toInt = r1.toInt - r1.toInt) (ex9 : x9 = x8 - (1 : Int32)) (tx9 : x9.toInt = x8.toInt - 1) (c10 : x9.toInt ≤ 3) (c11 : ¬ x9.toInt = 1) (c12 : ¬ x9.toInt = 2) (ex13 : x13 = r1 + (1 : Int32)) (tx13 : x13.toInt = r1.toInt + 1) : L9 (κ.2.2.1 9) ∧ 0 ≤ k0.toInt ∧ r1.toInt ≤ 41 := by
  have q1 : (1 : Int32).toInt = 1 := by decide +kernel
  refine ⟨?_, ?_, ?_⟩ <;> first | assumption | omega | (subst_vars; omega) | trivial
-- pre:X4_digits@120 @120
theorem vX4_number_9 (κ : KS) (k0 : Int32) (r1 : Int32) (x2 : Int32) (r4 : Int32) (x6 : Int32) (x8 : Int32) (x9 : Int32) (x13 : Int32) (hpre_0 : L9 (κ.2.2.1 9)) (hpre_1 : 0 ≤ (κ.1 6).toInt) (hpre_2 : (κ.1 6).toInt ≤ 40) (hpre_5 : 0 ≤ k0.toInt) (hpre_6 : k0.toInt ≤ 40) (hr1_0 : k0.toInt ≤ r1.toInt) (hr1_1 : r1.toInt ≤ max k0.toInt (κ.1 6).toInt) (ex2 : x2 = r1 - k0) (tx2 : x2.toInt = r1.toInt - k0.toInt) (c3 : x2.toInt ≤ 6) (hr4_0 : 0 ≤ r4.toInt) (hr4_1 : r4.toInt ≤ 126) (hr4_2 : ¬ r4.toInt = 0 → 0 ≤ r1.toInt ∧ r1.toInt < (κ.1 6).toInt) (c5 : ¬ r4.toInt = 46) (ex6 : x6 = r1 + (1 : Int32)) (tx6 : x6.toInt = r1.toInt + 1) (c7 : x6.toInt < r1.toInt) (ex8 : x8 = r1 - r1) (tx8 : x8.toInt = r1.toInt - r1.toInt) (ex9 : x9 = x8 - (1 : Int32)) (tx9 : x9.toInt = x8.toInt - 1) (c10 : x9.toInt ≤ 3) (c11 : ¬ x9.toInt = 1) (c12 : ¬ x9.toInt = 2) (ex13 : x13 = r1 + (1 : Int32)) (tx13 : x13.toInt = r1.toInt + 1) : L9 (κ.2.2.1 9) ∧ 0 ≤ x13.toInt ∧ r1.toInt ≤ 41 := by
  have q1 : (1 : Int32).toInt = 1 := by decide +kernel
  refine ⟨?_, ?_, ?_⟩ <;> first | assumption | omega | (subst_vars; omega) | trivial
-- nan@134 @134
theorem vX4_number_10 (r15 : Int32) (x16 : UInt64) (ex16 : x16 = FP.i2d r15) (fx16 : FN x16) : vf_n64 (FP.ddiv x16 (4652007308841189376 : UInt64)) := by
  obtain ⟨s, c, q, hx⟩ : FN x16 := by assumption
  obtain ⟨d, g1, g2⟩ := fp_div hx (show Jvm.FP.Core.decode Jvm.FP.Core.b64 (4652007308841189376 : UInt64).toNat = .fin false 8796093022208000 (-43) by decide +kernel) (by omega)
  exact fp_n g1 g2
-- pre:X10_ofReal@135 @135
theorem vX4_number_11 (r15 : Int32) (x16 : UInt64) (x17 : UInt64) (ex16 : x16 = FP.i2d r15) (fx16 : FN x16) (ex17 : x17 = FP.ddiv x16 (4652007308841189376 : UInt64)) : FN x17 := by
  subst ex17
  first | exact fp_d10 (by assumption) | exact fp_d100 (by assumption) | exact fp_d1000 (by assumption)
-- pre:X4_add@138 @138
theorem vX4_number_12 (κ : KS) (hpre_3 : 0 ≤ (κ.1 7).toInt) (hpre_4 : (κ.1 7).toInt ≤ 41) : 0 ≤ (κ.1 7).toInt ∧ (κ.1 7).toInt ≤ 41 := by
  refine ⟨?_, ?_⟩ <;> first | assumption | omega | (subst_vars; omega) | trivial
-- post @142
theorem vX4_number_13 (κ : KS) (k0 : Int32) (r1 : Int32) (x2 : Int32) (r4 : Int32) (x6 : Int32) (x8 : Int32) (x9 : Int32) (x13 : Int32) (n23 : Int32) (hpre_1 : 0 ≤ (κ.1 6).toInt) (hpre_2 : (κ.1 6).toInt ≤ 40) (hpre_5 : 0 ≤ k0.toInt) (hpre_6 : k0.toInt ≤ 40) (hr1_0 : k0.toInt ≤ r1.toInt) (hr1_1 : r1.toInt ≤ max k0.toInt (κ.1 6).toInt) (ex2 : x2 = r1 - k0) (tx2 : x2.toInt = r1.toInt - k0.toInt) (c3 : x2.toInt ≤ 6) (hr4_0 : 0 ≤ r4.toInt) (hr4_1 : r4.toInt ≤ 126) (hr4_2 : ¬ r4.toInt = 0 → 0 ≤ r1.toInt ∧ r1.toInt < (κ.1 6).toInt) (c5 : ¬ r4.toInt = 46) (ex6 : x6 = r1 + (1 : Int32)) (tx6 : x6.toInt = r1.toInt + 1) (c7 : x6.toInt < r1.toInt) (ex8 : x8 = r1 - r1) (tx8 : x8.toInt = r1.toInt - r1.toInt) (ex9 : x9 = x8 - (1 : Int32)) (tx9 : x9.toInt = x8.toInt - 1) (c10 : x9.toInt ≤ 3) (c11 : ¬ x9.toInt = 1) (c12 : ¬ x9.toInt = 2) (ex13 : x13 = r1 + (1 : Int32)) (tx13 : x13.toInt = r1.toInt + 1) (hr22_1_0 : 0 ≤ n23.toInt) (hr22_1_1 : n23.toInt ≤ 41) : 0 ≤ n23.toInt ∧ n23.toInt ≤ 41 ∧ r1.toInt ≤ 40 := by
  have q1 : (1 : Int32).toInt = 1 := by decide +kernel
  refine ⟨?_, ?_, ?_⟩ <;> first | assumption | omega | (subst_vars; omega) | trivial
-- post2 @142
theorem vX4_number_14 (κ : KS) (k0 : Int32) (r1 : Int32) (x2 : Int32) (r4 : Int32) (x6 : Int32) (x8 : Int32) (x9 : Int32) (x13 : Int32) (r15 : Int32) (x16 : UInt64) (x17 : UInt64) (n23 : Int32) (F24 : (Nat → Int32)) (F25 : (Nat → Int32)) (F26 : (Nat → Int32)) (hpre_0 : L9 (κ.2.2.1 9)) (hpre_1 : 0 ≤ (κ.1 6).toInt) (hpre_2 : (κ.1 6).toInt ≤ 40) (hpre_3 : 0 ≤ (κ.1 7).toInt) (hpre_4 : (κ.1 7).toInt ≤ 41) (hpre_5 : 0 ≤ k0.toInt) (hpre_6 : k0.toInt ≤ 40) (hr1y : (κ.1 6).toInt ≤ 40 → RT dg (tx (κ.2.2.1 9) (κ.1 6)) k0.toInt r1.toInt ∧ ¬ dg (tx (κ.2.2.1 9) (κ.1 6) r1.toInt)) (hr1_0 : k0.toInt ≤ r1.toInt) (hr1_1 : r1.toInt ≤ max k0.toInt (κ.1 6).toInt) (ex2 : x2 = r1 - k0) (tx2 : x2.toInt = r1.toInt - k0.toInt) (c3 : x2.toInt ≤ 6) (hr4y : (κ.1 6).toInt ≤ 40 → r4.toInt = tx (κ.2.2.1 9) (κ.1 6) r1.toInt) (hr4_0 : 0 ≤ r4.toInt) (hr4_1 : r4.toInt ≤ 126) (hr4_2 : ¬ r4.toInt = 0 → 0 ≤ r1.toInt ∧ r1.toInt < (κ.1 6).toInt) (c5 : ¬ r4.toInt = 46) (ex6 : x6 = r1 + (1 : Int32)) (tx6 : x6.toInt = r1.toInt + 1) (c7 : x6.toInt < r1.toInt) (ex8 : x8 = r1 - r1) (tx8 : x8.toInt = r1.toInt - r1.toInt) (ex9 : x9 = x8 - (1 : Int32)) (tx9 : x9.toInt = x8.toInt - 1) (c10 : x9.toInt ≤ 3) (c11 : ¬ x9.toInt = 1) (c12 : ¬ x9.toInt = 2) (ex13 : x13 = r1 + (1 : Int32)) (tx13 : x13.toInt = r1.toInt + 1) (ex16 : x16 = FP.i2d r15) (fx16 : FN x16) (ex17 : x17 = FP.ddiv x16 (4652007308841189376 : UInt64)) (hr22y : (κ.1 7).toInt < 41 → ADc (κ.2.2.1 10) (κ.2.2.1 11) (κ.2.2.1 12) (κ.1 7) F24 F25 F26 n23 (1 : Int32) k0 (0 : Int32)) (hr22_1_0 : 0 ≤ n23.toInt) (hr22_1_1 : n23.toInt ≤ 41) : (κ.1 7).toInt ≤ k0.toInt → k0.toInt < (κ.1 6).toInt → dg (tx (κ.2.2.1 9) (κ.1 6) k0.toInt) → ∃ t9, TokR (tx (κ.2.2.1 9) (κ.1 6)) (κ.1 6).toInt k0.toInt t9 ∧ LXc (κ.2.2.1 10) (κ.2.2.1 11) (κ.2.2.1 12) (κ.1 7) F24 F25 F26 n23 k0.toInt r1.toInt t9 := by
  have q0 : (0 : Int32).toInt = 0 := by decide +kernel
  have q1 : (1 : Int32).toInt = 1 := by decide +kernel
  intro h1 h2 h3
  have a := hr1y (by omega)
  have lt := RT_lt a.1 a.2 h3
  have pk0 := hr4y (by omega)
  first | (exfalso; omega) | exact ⟨_, numN a.1 a.2 rfl (by omega) (by omega) h3, LXc.add (hr22y (by omega)) rfl (by omega) (by omega) (by first | rfl | omega) rfl⟩
-- nw@111 @111
theorem vX4_number_15 (κ : KS) (k0 : Int32) (r1 : Int32) (x2 : Int32) (r4 : Int32) (x6 : Int32) (x8 : Int32) (x9 : Int32) (x28 : Int32) (hpre_1 : 0 ≤ (κ.1 6).toInt) (hpre_2 : (κ.1 6).toInt ≤ 40) (hpre_5 : 0 ≤ k0.toInt) (hpre_6 : k0.toInt ≤ 40) (hr1_0 : k0.toInt ≤ r1.toInt) (hr1_1 : r1.toInt ≤ max k0.toInt (κ.1 6).toInt) (ex2 : x2 = r1 - k0) (tx2 : x2.toInt = r1.toInt - k0.toInt) (c3 : x2.toInt ≤ 6) (hr4_0 : 0 ≤ r4.toInt) (hr4_1 : r4.toInt ≤ 126) (hr4_2 : ¬ r4.toInt = 0 → 0 ≤ r1.toInt ∧ r1.toInt < (κ.1 6).toInt) (c5 : ¬ r4.toInt = 46) (ex6 : x6 = r1 + (1 : Int32)) (tx6 : x6.toInt = r1.toInt + 1) (c7 : x6.toInt < r1.toInt) (ex8 : x8 = r1 - r1) (tx8 : x8.toInt = r1.toInt - r1.toInt) (ex9 : x9 = x8 - (1 : Int32)) (tx9 : x9.toInt = x8.toInt - 1) (c10 : x9.toInt ≤ 3) (c11 : ¬ x9.toInt = 1) (c12 : x9.toInt = 2) (ex28 : x28 = r1 + (1 : Int32)) : x28.toInt = r1.toInt + 1 := by
  have q1 : (1 : Int32).toInt = 1 := by decide +kernel
  have w1 : (1 : Int32).toInt = 1 := by decide +kernel
  rw [ex28, z_add (by omega) (by omega)]; first | done | omega
-- pre:X4_digits@117 @117
theorem vX4_number_16 (κ : KS) (k0 : Int32) (r1 : Int32) (x2 : Int32) (r4 : Int32) (x6 : Int32) (x8 : Int32) (x9 : Int32) (x28 : Int32) (hpre_0 : L9 (κ.2.2.1 9)) (hpre_1 : 0 ≤ (κ.1 6).toInt) (hpre_2 : (κ.1 6).toInt ≤ 40) (hpre_5 : 0 ≤ k0.toInt) (hpre_6 : k0.toInt ≤ 40) (hr1_0 : k0.toInt ≤ r1.toInt) (hr1_1 : r1.toInt ≤ max k0.toInt (κ.1 6).toInt) (ex2 : x2 = r1 - k0) (tx2 : x2.toInt = r1.toInt - k0.toInt) (c3 : x2.toInt ≤ 6) (hr4_0 : 0 ≤ r4.toInt) (hr4_1 : r4.toInt ≤ 126) (hr4_2 : ¬ r4.toInt = 0 → 0 ≤ r1.toInt ∧ r1.toInt < (κ.1 6).toInt) (c5 : ¬ r4.toInt = 46) (ex6 : x6 = r1 + (1 : Int32)) (tx6 : x6.toInt = r1.toInt + 1) (c7 : x6.toInt < r1.toInt) (ex8 : x8 = r1 - r1) (tx8 : x8.toInt = r1.toInt - r1.toInt) (ex9 : x9 = x8 - (1 : Int32)) (tx9 : x9.toInt = x8.toInt - 1) (c10 : x9.toInt ≤ 3) (c11 : ¬ x9.toInt = 1) (c12 : x9.toInt = 2) (ex28 : x28 = r1 + (1 : Int32)) (tx28 : x28.toInt = r1.toInt + 1) : L9 (κ.2.2.1 9) ∧ 0 ≤ k0.toInt ∧ r1.toInt ≤ 41 := by
  have q1 : (1 : Int32).toInt = 1 := by decide +kernel
  refine ⟨?_, ?_, ?_⟩ <;> first | assumption | omega | (subst_vars; omega) | trivial
-- pre:X4_digits@120 @120
theorem vX4_number_17 (κ : KS) (k0 : Int32) (r1 : Int32) (x2 : Int32) (r4 : Int32) (x6 : Int32) (x8 : Int32) (x9 : Int32) (x28 : Int32) (hpre_0 : L9 (κ.2.2.1 9)) (hpre_1 : 0 ≤ (κ.1 6).toInt) (hpre_2 : (κ.1 6).toInt ≤ 40) (hpre_5 : 0 ≤ k0.toInt) (hpre_6 : k0.toInt ≤ 40) (hr1_0 : k0.toInt ≤ r1.toInt) (hr1_1 : r1.toInt ≤ max k0.toInt (κ.1 6).toInt) (ex2 : x2 = r1 - k0) (tx2 : x2.toInt = r1.toInt - k0.toInt) (c3 : x2.toInt ≤ 6) (hr4_0 : 0 ≤ r4.toInt) (hr4_1 : r4.toInt ≤ 126) (hr4_2 : ¬ r4.toInt = 0 → 0 ≤ r1.toInt ∧ r1.toInt < (κ.1 6).toInt) (c5 : ¬ r4.toInt = 46) (ex6 : x6 = r1 + (1 : Int32)) (tx6 : x6.toInt = r1.toInt + 1) (c7 : x6.toInt < r1.toInt) (ex8 : x8 = r1 - r1) (tx8 : x8.toInt = r1.toInt - r1.toInt) (ex9 : x9 = x8 - (1 : Int32)) (tx9 : x9.toInt = x8.toInt - 1) (c10 : x9.toInt ≤ 3) (c11 : ¬ x9.toInt = 1) (c12 : x9.toInt = 2) (ex28 : x28 = r1 + (1 : Int32)) (tx28 : x28.toInt = r1.toInt + 1) : L9 (κ.2.2.1 9) ∧ 0 ≤ x28.toInt ∧ r1.toInt ≤ 41 := by
  have q1 : (1 : Int32).toInt = 1 := by decide +kernel
  refine ⟨?_, ?_, ?_⟩ <;> first | assumption | omega | (subst_vars; omega) | trivial
-- nan@134 @134
theorem vX4_number_18 (r30 : Int32) (x31 : UInt64) (ex31 : x31 = FP.i2d r30) (fx31 : FN x31) : vf_n64 (FP.ddiv x31 (4636737291354636288 : UInt64)) := by
  obtain ⟨s, c, q, hx⟩ : FN x31 := by assumption
  obtain ⟨d, g1, g2⟩ := fp_div hx (show Jvm.FP.Core.decode Jvm.FP.Core.b64 (4636737291354636288 : UInt64).toNat = .fin false 7036874417766400 (-46) by decide +kernel) (by omega)
  exact fp_n g1 g2
-- pre:X10_ofReal@135 @135
theorem vX4_number_19 (r30 : Int32) (x31 : UInt64) (x32 : UInt64) (ex31 : x31 = FP.i2d r30) (fx31 : FN x31) (ex32 : x32 = FP.ddiv x31 (4636737291354636288 : UInt64)) : FN x32 := by
  subst ex32
  first | exact fp_d10 (by assumption) | exact fp_d100 (by assumption) | exact fp_d1000 (by assumption)
-- post @142
theorem vX4_number_20 (κ : KS) (k0 : Int32) (r1 : Int32) (x2 : Int32) (r4 : Int32) (x6 : Int32) (x8 : Int32) (x9 : Int32) (x28 : Int32) (n38 : Int32) (hpre_1 : 0 ≤ (κ.1 6).toInt) (hpre_2 : (κ.1 6).toInt ≤ 40) (hpre_5 : 0 ≤ k0.toInt) (hpre_6 : k0.toInt ≤ 40) (hr1_0 : k0.toInt ≤ r1.toInt) (hr1_1 : r1.toInt ≤ max k0.toInt (κ.1 6).toInt) (ex2 : x2 = r1 - k0) (tx2 : x2.toInt = r1.toInt - k0.toInt) (c3 : x2.toInt ≤ 6) (hr4_0 : 0 ≤ r4.toInt) (hr4_1 : r4.toInt ≤ 126) (hr4_2 : ¬ r4.toInt = 0 → 0 ≤ r1.toInt ∧ r1.toInt < (κ.1 6).toInt) (c5 : ¬ r4.toInt = 46) (ex6 : x6 = r1 + (1 : Int32)) (tx6 : x6.toInt = r1.toInt + 1) (c7 : x6.toInt < r1.toInt) (ex8 : x8 = r1 - r1) (tx8 : x8.toInt = r1.toInt - r1.toInt) (ex9 : x9 = x8 - (1 : Int32)) (tx9 : x9.toInt = x8.toInt - 1) (c10 : x9.toInt ≤ 3) (c11 : ¬ x9.toInt = 1) (c12 : x9.toInt = 2) (ex28 : x28 = r1 + (1 : Int32)) (tx28 : x28.toInt = r1.toInt + 1) (hr37_1_0 : 0 ≤ n38.toInt) (hr37_1_1 : n38.toInt ≤ 41) : 0 ≤ n38.toInt ∧ n38.toInt ≤ 41 ∧ r1.toInt ≤ 40 := by
  have q1 : (1 : Int32).toInt = 1 := by decide +kernel
  refine ⟨?_, ?_, ?_⟩ <;> first | assumption | omega | (subst_vars; omega) | trivial
-- post2 @142
theorem vX4_number_21 (κ : KS) (k0 : Int32) (r1 : Int32) (x2 : Int32) (r4 : Int32) (x6 : Int32) (x8 : Int32) (x9 : Int32) (x28 : Int32) (r30 : Int32) (x31 : UInt64) (x32 : UInt64) (n38 : Int32) (F39 : (Nat → Int32)) (F40 : (Nat → Int32)) (F41 : (Nat → Int32)) (hpre_0 : L9 (κ.2.2.1 9)) (hpre_1 : 0 ≤ (κ.1 6).toInt) (hpre_2 : (κ.1 6).toInt ≤ 40) (hpre_3 : 0 ≤ (κ.1 7).toInt) (hpre_4 : (κ.1 7).toInt ≤ 41) (hpre_5 : 0 ≤ k0.toInt) (hpre_6 : k0.toInt ≤ 40) (hr1y : (κ.1 6).toInt ≤ 40 → RT dg (tx (κ.2.2.1 9) (κ.1 6)) k0.toInt r1.toInt ∧ ¬ dg (tx (κ.2.2.1 9) (κ.1 6) r1.toInt)) (hr1_0 : k0.toInt ≤ r1.toInt) (hr1_1 : r1.toInt ≤ max k0.toInt (κ.1 6).toInt) (ex2 : x2 = r1 - k0) (tx2 : x2.toInt = r1.toInt - k0.toInt) (c3 : x2.toInt ≤ 6) (hr4y : (κ.1 6).toInt ≤ 40 → r4.toInt = tx (κ.2.2.1 9) (κ.1 6) r1.toInt) (hr4_0 : 0 ≤ r4.toInt) (hr4_1 : r4.toInt ≤ 126) (hr4_2 : ¬ r4.toInt = 0 → 0 ≤ r1.toInt ∧ r1.toInt < (κ.1 6).toInt) (c5 : ¬ r4.toInt = 46) (ex6 : x6 = r1 + (1 : Int32)) (tx6 : x6.toInt = r1.toInt + 1) (c7 : x6.toInt < r1.toInt) (ex8 : x8 = r1 - r1) (tx8 : x8.toInt = r1.toInt - r1.toInt) (ex9 : x9 = x8 - (1 : Int32)) (tx9 : x9.toInt = x8.toInt - 1) (c10 : x9.toInt ≤ 3) (c11 : ¬ x9.toInt = 1) (c12 : x9.toInt = 2) (ex28 : x28 = r1 + (1 : Int32)) (tx28 : x28.toInt = r1.toInt + 1) (ex31 : x31 = FP.i2d r30) (fx31 : FN x31) (ex32 : x32 = FP.ddiv x31 (4636737291354636288 : UInt64)) (hr37y : (κ.1 7).toInt < 41 → ADc (κ.2.2.1 10) (κ.2.2.1 11) (κ.2.2.1 12) (κ.1 7) F39 F40 F41 n38 (1 : Int32) k0 (0 : Int32)) (hr37_1_0 : 0 ≤ n38.toInt) (hr37_1_1 : n38.toInt ≤ 41) : (κ.1 7).toInt ≤ k0.toInt → k0.toInt < (κ.1 6).toInt → dg (tx (κ.2.2.1 9) (κ.1 6) k0.toInt) → ∃ t9, TokR (tx (κ.2.2.1 9) (κ.1 6)) (κ.1 6).toInt k0.toInt t9 ∧ LXc (κ.2.2.1 10) (κ.2.2.1 11) (κ.2.2.1 12) (κ.1 7) F39 F40 F41 n38 k0.toInt r1.toInt t9 := by
  have q0 : (0 : Int32).toInt = 0 := by decide +kernel
  have q1 : (1 : Int32).toInt = 1 := by decide +kernel
  intro h1 h2 h3
  have a := hr1y (by omega)
  have lt := RT_lt a.1 a.2 h3
  have pk0 := hr4y (by omega)
  first | (exfalso; omega) | exact ⟨_, numN a.1 a.2 rfl (by omega) (by omega) h3, LXc.add (hr37y (by omega)) rfl (by omega) (by omega) (by first | rfl | omega) rfl⟩
-- nw@111 @111
theorem vX4_number_22 (κ : KS) (k0 : Int32) (r1 : Int32) (x2 : Int32) (r4 : Int32) (x6 : Int32) (x8 : Int32) (x9 : Int32) (x43 : Int32) (hpre_1 : 0 ≤ (κ.1 6).toInt) (hpre_2 : (κ.1 6).toInt ≤ 40) (hpre_5 : 0 ≤ k0.toInt) (hpre_6 : k0.toInt ≤ 40) (hr1_0 : k0.toInt ≤ r1.toInt) (hr1_1 : r1.toInt ≤ max k0.toInt (κ.1 6).toInt) (ex2 : x2 = r1 - k0) (tx2 : x2.toInt = r1.toInt - k0.toInt) (c3 : x2.toInt ≤ 6) (hr4_0 : 0 ≤ r4.toInt) (hr4_1 : r4.toInt ≤ 126) (hr4_2 : ¬ r4.toInt = 0 → 0 ≤ r1.toInt ∧ r1.toInt < (κ.1 6).toInt) (c5 : ¬ r4.toInt = 46) (ex6 : x6 = r1 + (1 : Int32)) (tx6 : x6.toInt = r1.toInt + 1) (c7 : x6.toInt < r1.toInt) (ex8 : x8 = r1 - r1) (tx8 : x8.toInt = r1.toInt - r1.toInt) (ex9 : x9 = x8 - (1 : Int32)) (tx9 : x9.toInt = x8.toInt - 1) (c10 : x9.toInt ≤ 3) (c11 : x9.toInt = 1) (ex43 : x43 = r1 + (1 : Int32)) : x43.toInt = r1.toInt + 1 := by
  have q1 : (1 : Int32).toInt = 1 := by decide +kernel
  have w1 : (1 : Int32).toInt = 1 := by decide +kernel
  rw [ex43, z_add (by omega) (by omega)]; first | done | omega
-- pre:X4_digits@117 @117
theorem vX4_number_23 (κ : KS) (k0 : Int32) (r1 : Int32) (x2 : Int32) (r4 : Int32) (x6 : Int32) (x8 : Int32) (x9 : Int32) (x43 : Int32) (hpre_0 : L9 (κ.2.2.1 9)) (hpre_1 : 0 ≤ (κ.1 6).toInt) (hpre_2 : (κ.1 6).toInt ≤ 40) (hpre_5 : 0 ≤ k0.toInt) (hpre_6 : k0.toInt ≤ 40) (hr1_0 : k0.toInt ≤ r1.toInt) (hr1_1 : r1.toInt ≤ max k0.toInt (κ.1 6).toInt) (ex2 : x2 = r1 - k0) (tx2 : x2.toInt = r1.toInt - k0.toInt) (c3 : x2.toInt ≤ 6) (hr4_0 : 0 ≤ r4.toInt) (hr4_1 : r4.toInt ≤ 126) (hr4_2 : ¬ r4.toInt = 0 → 0 ≤ r1.toInt ∧ r1.toInt < (κ.1 6).toInt) (c5 : ¬ r4.toInt = 46) (ex6 : x6 = r1 + (1 : Int32)) (tx6 : x6.toInt = r1.toInt + 1) (c7 : x6.toInt < r1.toInt) (ex8 : x8 = r1 - r1) (tx8 : x8.toInt = r1.toInt - r1.toInt) (ex9 : x9 = x8 - (1 : Int32)) (tx9 : x9.toInt = x8.toInt - 1) (c10 : x9.toInt ≤ 3) (c11 : x9.toInt = 1) (ex43 : x43 = r1 + (1 : Int32)) (tx43 : x43.toInt = r1.toInt + 1) : L9 (κ.2.2.1 9) ∧ 0 ≤ k0.toInt ∧ r1.toInt ≤ 41 := by
  have q1 : (1 : Int32).toInt = 1 := by decide +kernel
  refine ⟨?_, ?_, ?_⟩ <;> first | assumption | omega | (subst_vars; omega) | trivial
-- pre:X4_digits@120 @120
theorem vX4_number_24 (κ : KS) (k0 : Int32) (r1 : Int32) (x2 : Int32) (r4 : Int32) (x6 : Int32) (x8 : Int32) (x9 : Int32) (x43 : Int32) (hpre_0 : L9 (κ.2.2.1 9)) (hpre_1 : 0 ≤ (κ.1 6).toInt) (hpre_2 : (κ.1 6).toInt ≤ 40) (hpre_5 : 0 ≤ k0.toInt) (hpre_6 : k0.toInt ≤ 40) (hr1_0 : k0.toInt ≤ r1.toInt) (hr1_1 : r1.toInt ≤ max k0.toInt (κ.1 6).toInt) (ex2 : x2 = r1 - k0) (tx2 : x2.toInt = r1.toInt - k0.toInt) (c3 : x2.toInt ≤ 6) (hr4_0 : 0 ≤ r4.toInt) (hr4_1 : r4.toInt ≤ 126) (hr4_2 : ¬ r4.toInt = 0 → 0 ≤ r1.toInt ∧ r1.toInt < (κ.1 6).toInt) (c5 : ¬ r4.toInt = 46) (ex6 : x6 = r1 + (1 : Int32)) (tx6 : x6.toInt = r1.toInt + 1) (c7 : x6.toInt < r1.toInt) (ex8 : x8 = r1 - r1) (tx8 : x8.toInt = r1.toInt - r1.toInt) (ex9 : x9 = x8 - (1 : Int32)) (tx9 : x9.toInt = x8.toInt - 1) (c10 : x9.toInt ≤ 3) (c11 : x9.toInt = 1) (ex43 : x43 = r1 + (1 : Int32)) (tx43 : x43.toInt = r1.toInt + 1) : L9 (κ.2.2.1 9) ∧ 0 ≤ x43.toInt ∧ r1.toInt ≤ 41 := by
  have q1 : (1 : Int32).toInt = 1 := by decide +kernel
  refine ⟨?_, ?_, ?_⟩ <;> first | assumption | omega | (subst_vars; omega) | trivial
-- nan@134 @134
theorem vX4_number_25 (r45 : Int32) (x46 : UInt64) (ex46 : x46 = FP.i2d r45) (fx46 : FN x46) : vf_n64 (FP.ddiv x46 (4621819117588971520 : UInt64)) := by
  obtain ⟨s, c, q, hx⟩ : FN x46 := by assumption
  obtain ⟨d, g1, g2⟩ := fp_div hx (show Jvm.FP.Core.decode Jvm.FP.Core.b64 (4621819117588971520 : UInt64).toNat = .fin false 5629499534213120 (-49) by decide +kernel) (by omega)
  exact fp_n g1 g2
-- pre:X10_ofReal@135 @135
theorem vX4_number_26 (r45 : Int32) (x46 : UInt64) (x47 : UInt64) (ex46 : x46 = FP.i2d r45) (fx46 : FN x46) (ex47 : x47 = FP.ddiv x46 (4621819117588971520 : UInt64)) : FN x47 := by
  subst ex47
  first | exact fp_d10 (by assumption) | exact fp_d100 (by assumption) | exact fp_d1000 (by assumption)
-- post @142
theorem vX4_number_27 (κ : KS) (k0 : Int32) (r1 : Int32) (x2 : Int32) (r4 : Int32) (x6 : Int32) (x8 : Int32) (x9 : Int32) (x43 : Int32) (n53 : Int32) (hpre_1 : 0 ≤ (κ.1 6).toInt) (hpre_2 : (κ.1 6).toInt ≤ 40) (hpre_5 : 0 ≤ k0.toInt) (hpre_6 : k0.toInt ≤ 40) (hr1_0 : k0.toInt ≤ r1.toInt) (hr1_1 : r1.toInt ≤ max k0.toInt (κ.1 6).toInt) (ex2 : x2 = r1 - k0) (tx2 : x2.toInt = r1.toInt - k0.toInt) (c3 : x2.toInt ≤ 6) (hr4_0 : 0 ≤ r4.toInt) (hr4_1 : r4.toInt ≤ 126) (hr4_2 : ¬ r4.toInt = 0 → 0 ≤ r1.toInt ∧ r1.toInt < (κ.1 6).toInt) (c5 : ¬ r4.toInt = 46) (ex6 : x6 = r1 + (1 : Int32)) (tx6 : x6.toInt = r1.toInt + 1) (c7 : x6.toInt < r1.toInt) (ex8 : x8 = r1 - r1) (tx8 : x8.toInt = r1.toInt - r1.toInt) (ex9 : x9 = x8 - (1 : Int32)) (tx9 : x9.toInt = x8.toInt - 1) (c10 : x9.toInt ≤ 3) (c11 : x9.toInt = 1) (ex43 : x43 = r1 + (1 : Int32)) (tx43 : x43.toInt = r1.toInt + 1) (hr52_1_0 : 0 ≤ n53.toInt) (hr52_1_1 : n53.toInt ≤ 41) : 0 ≤ n53.toInt ∧ n53.toInt ≤ 41 ∧ r1.toInt ≤ 40 := by
  have q1 : (1 : Int32).toInt = 1 := by decide +kernel
  refine ⟨?_, ?_, ?_⟩ <;> first | assumption | omega | (subst_vars; omega) | trivial
-- post2 @142
theorem vX4_number_28 (κ : KS) (k0 : Int32) (r1 : Int32) (x2 : Int32) (r4 : Int32) (x6 : Int32) (x8 : Int32) (x9 : Int32) (x43 : Int32) (r45 : Int32) (x46 : UInt64) (x47 : UInt64) (n53 : Int32) (F54 : (Nat → Int32)) (F55 : (Nat → Int32)) (F56 : (Nat → Int32)) (hpre_0 : L9 (κ.2.2.1 9)) (hpre_1 : 0 ≤ (κ.1 6).toInt) (hpre_2 : (κ.1 6).toInt ≤ 40) (hpre_3 : 0 ≤ (κ.1 7).toInt) (hpre_4 : (κ.1 7).toInt ≤ 41) (hpre_5 : 0 ≤ k0.toInt) (hpre_6 : k0.toInt ≤ 40) (hr1y : (κ.1 6).toInt ≤ 40 → RT dg (tx (κ.2.2.1 9) (κ.1 6)) k0.toInt r1.toInt ∧ ¬ dg (tx (κ.2.2.1 9) (κ.1 6) r1.toInt)) (hr1_0 : k0.toInt ≤ r1.toInt) (hr1_1 : r1.toInt ≤ max k0.toInt (κ.1 6).toInt) (ex2 : x2 = r1 - k0) (tx2 : x2.toInt = r1.toInt - k0.toInt) (c3 : x2.toInt ≤ 6) (hr4y : (κ.1 6).toInt ≤ 40 → r4.toInt = tx (κ.2.2.1 9) (κ.1 6) r1.toInt) (hr4_0 : 0 ≤ r4.toInt) (hr4_1 : r4.toInt ≤ 126) (hr4_2 : ¬ r4.toInt = 0 → 0 ≤ r1.toInt ∧ r1.toInt < (κ.1 6).toInt) (c5 : ¬ r4.toInt = 46) (ex6 : x6 = r1 + (1 : Int32)) (tx6 : x6.toInt = r1.toInt + 1) (c7 : x6.toInt < r1.toInt) (ex8 : x8 = r1 - r1) (tx8 : x8.toInt = r1.toInt - r1.toInt) (ex9 : x9 = x8 - (1 : Int32)) (tx9 : x9.toInt = x8.toInt - 1) (c10 : x9.toInt ≤ 3) (c11 : x9.toInt = 1) (ex43 : x43 = r1 + (1 : Int32)) (tx43 : x43.toInt = r1.toInt + 1) (ex46 : x46 = FP.i2d r45) (fx46 : FN x46) (ex47 : x47 = FP.ddiv x46 (4621819117588971520 : UInt64)) (hr52y : (κ.1 7).toInt < 41 → ADc (κ.2.2.1 10) (κ.2.2.1 11) (κ.2.2.1 12) (κ.1 7) F54 F55 F56 n53 (1 : Int32) k0 (0 : Int32)) (hr52_1_0 : 0 ≤ n53.toInt) (hr52_1_1 : n53.toInt ≤ 41) : (κ.1 7).toInt ≤ k0.toInt → k0.toInt < (κ.1 6).toInt → dg (tx (κ.2.2.1 9) (κ.1 6) k0.toInt) → ∃ t9, TokR (tx (κ.2.2.1 9) (κ.1 6)) (κ.1 6).toInt k0.toInt t9 ∧ LXc (κ.2.2.1 10) (κ.2.2.1 11) (κ.2.2.1 12) (κ.1 7) F54 F55 F56 n53 k0.toInt r1.toInt t9 := by
  have q0 : (0 : Int32).toInt = 0 := by decide +kernel
  have q1 : (1 : Int32).toInt = 1 := by decide +kernel
  intro h1 h2 h3
  have a := hr1y (by omega)
  have lt := RT_lt a.1 a.2 h3
  have pk0 := hr4y (by omega)
  first | (exfalso; omega) | exact ⟨_, numN a.1 a.2 rfl (by omega) (by omega) h3, LXc.add (hr52y (by omega)) rfl (by omega) (by omega) (by first | rfl | omega) rfl⟩
-- post @78
theorem vX4_number_29 (κ : KS) (hpre_3 : 0 ≤ (κ.1 7).toInt) (hpre_4 : (κ.1 7).toInt ≤ 41) : 0 ≤ (κ.1 7).toInt ∧ (κ.1 7).toInt ≤ 41 ∧ (-1 : Int32).toInt ≤ 40 := by
  have qm1 : (-1 : Int32).toInt = (-1) := by decide +kernel
  refine ⟨?_, ?_, ?_⟩ <;> first | assumption | omega | (subst_vars; omega) | trivial
-- post2 @78
theorem vX4_number_30 (κ : KS) (k0 : Int32) (r1 : Int32) (x2 : Int32) (r4 : Int32) (x6 : Int32) (x8 : Int32) (x9 : Int32) (hpre_0 : L9 (κ.2.2.1 9)) (hpre_1 : 0 ≤ (κ.1 6).toInt) (hpre_2 : (κ.1 6).toInt ≤ 40) (hpre_3 : 0 ≤ (κ.1 7).toInt) (hpre_4 : (κ.1 7).toInt ≤ 41) (hpre_5 : 0 ≤ k0.toInt) (hpre_6 : k0.toInt ≤ 40) (hr1y : (κ.1 6).toInt ≤ 40 → RT dg (tx (κ.2.2.1 9) (κ.1 6)) k0.toInt r1.toInt ∧ ¬ dg (tx (κ.2.2.1 9) (κ.1 6) r1.toInt)) (hr1_0 : k0.toInt ≤ r1.toInt) (hr1_1 : r1.toInt ≤ max k0.toInt (κ.1 6).toInt) (ex2 : x2 = r1 - k0) (tx2 : x2.toInt = r1.toInt - k0.toInt) (c3 : x2.toInt ≤ 6) (hr4y : (κ.1 6).toInt ≤ 40 → r4.toInt = tx (κ.2.2.1 9) (κ.1 6) r1.toInt) (hr4_0 : 0 ≤ r4.toInt) (hr4_1 : r4.toInt ≤ 126) (hr4_2 : ¬ r4.toInt = 0 → 0 ≤ r1.toInt ∧ r1.toInt < (κ.1 6).toInt) (c5 : ¬ r4.toInt = 46) (ex6 : x6 = r1 + (1 : Int32)) (tx6 : x6.toInt = r1.toInt + 1) (c7 : x6.toInt < r1.toInt) (ex8 : x8 = r1 - r1) (tx8 : x8.toInt = r1.toInt - r1.toInt) (ex9 : x9 = x8 - (1 : Int32)) (tx9 : x9.toInt = x8.toInt - 1) (c10 : 3 < x9.toInt) : (κ.1 7).toInt ≤ k0.toInt → k0.toInt < (κ.1 6).toInt → dg (tx (κ.2.2.1 9) (κ.1 6) k0.toInt) → ∃ t9, TokR (tx (κ.2.2.1 9) (κ.1 6)) (κ.1 6).toInt k0.toInt t9 ∧ LXc (κ.2.2.1 10) (κ.2.2.1 11) (κ.2.2.1 12) (κ.1 7) (κ.2.2.1 10) (κ.2.2.1 11) (κ.2.2.1 12) (κ.1 7) k0.toInt (-1 : Int32).toInt t9 := by
  have qm1 : (-1 : Int32).toInt = (-1) := by decide +kernel
  have q1 : (1 : Int32).toInt = 1 := by decide +kernel
  intro h1 h2 h3
  have a := hr1y (by omega)
  have lt := RT_lt a.1 a.2 h3
  have pk0 := hr4y (by omega)
  first | (exfalso; omega) | exact ⟨none, numX a.1 a.2 (by omega) h3, by show (-1 : Int32).toInt ≤ _; omega⟩
-- pre:X4_digits@53 @53
theorem vX4_number_31 (κ : KS) (k0 : Int32) (r1 : Int32) (x2 : Int32) (r4 : Int32) (x6 : Int32) (hpre_0 : L9 (κ.2.2.1 9)) (hpre_1 : 0 ≤ (κ.1 6).toInt) (hpre_2 : (κ.1 6).toInt ≤ 40) (hpre_5 : 0 ≤ k0.toInt) (hpre_6 : k0.toInt ≤ 40) (hr1_0 : k0.toInt ≤ r1.toInt) (hr1_1 : r1.toInt ≤ max k0.toInt (κ.1 6).toInt) (ex2 : x2 = r1 - k0) (tx2 : x2.toInt = r1.toInt - k0.toInt) (c3 : x2.toInt ≤ 6) (hr4_0 : 0 ≤ r4.toInt) (hr4_1 : r4.toInt ≤ 126) (hr4_2 : ¬ r4.toInt = 0 → 0 ≤ r1.toInt ∧ r1.toInt < (κ.1 6).toInt) (c5 : ¬ r4.toInt = 46) (ex6 : x6 = r1 + (1 : Int32)) (tx6 : x6.toInt = r1.toInt + 1) (c7 : r1.toInt ≤ x6.toInt) : L9 (κ.2.2.1 9) ∧ 0 ≤ k0.toInt ∧ r1.toInt ≤ 41 := by
  have q1 : (1 : Int32).toInt = 1 := by decide +kernel
  refine ⟨?_, ?_, ?_⟩ <;> first | assumption | omega | (subst_vars; omega) | trivial
-- post @63
theorem vX4_number_32 (κ : KS) (k0 : Int32) (r1 : Int32) (x2 : Int32) (r4 : Int32) (x6 : Int32) (n64 : Int32) (hpre_1 : 0 ≤ (κ.1 6).toInt) (hpre_2 : (κ.1 6).toInt ≤ 40) (hpre_5 : 0 ≤ k0.toInt) (hpre_6 : k0.toInt ≤ 40) (hr1_0 : k0.toInt ≤ r1.toInt) (hr1_1 : r1.toInt ≤ max k0.toInt (κ.1 6).toInt) (ex2 : x2 = r1 - k0) (tx2 : x2.toInt = r1.toInt - k0.toInt) (c3 : x2.toInt ≤ 6) (hr4_0 : 0 ≤ r4.toInt) (hr4_1 : r4.toInt ≤ 126) (hr4_2 : ¬ r4.toInt = 0 → 0 ≤ r1.toInt ∧ r1.toInt < (κ.1 6).toInt) (c5 : ¬ r4.toInt = 46) (ex6 : x6 = r1 + (1 : Int32)) (tx6 : x6.toInt = r1.toInt + 1) (c7 : r1.toInt ≤ x6.toInt) (hr63_1_0 : 0 ≤ n64.toInt) (hr63_1_1 : n64.toInt ≤ 41) : 0 ≤ n64.toInt ∧ n64.toInt ≤ 41 ∧ r1.toInt ≤ 40 := by
  have q1 : (1 : Int32).toInt = 1 := by decide +kernel
  refine ⟨?_, ?_, ?_⟩ <;> first | assumption | omega | (subst_vars; omega) | trivial
-- post2 @63
theorem vX4_number_33 (κ : KS) (k0 : Int32) (r1 : Int32) (x2 : Int32) (r4 : Int32) (x6 : Int32) (n64 : Int32) (F65 : (Nat → Int32)) (F66 : (Nat → Int32)) (F67 : (Nat → Int32)) (hpre_0 : L9 (κ.2.2.1 9)) (hpre_1 : 0 ≤ (κ.1 6).toInt) (hpre_2 : (κ.1 6).toInt ≤ 40) (hpre_3 : 0 ≤ (κ.1 7).toInt) (hpre_4 : (κ.1 7).toInt ≤ 41) (hpre_5 : 0 ≤ k0.toInt) (hpre_6 : k0.toInt ≤ 40) (hr1y : (κ.1 6).toInt ≤ 40 → RT dg (tx (κ.2.2.1 9) (κ.1 6)) k0.toInt r1.toInt ∧ ¬ dg (tx (κ.2.2.1 9) (κ.1 6) r1.toInt)) (hr1_0 : k0.toInt ≤ r1.toInt) (hr1_1 : r1.toInt ≤ max k0.toInt (κ.1 6).toInt) (ex2 : x2 = r1 - k0) (tx2 : x2.toInt = r1.toInt - k0.toInt) (c3 : x2.toInt ≤ 6) (hr4y : (κ.1 6).toInt ≤ 40 → r4.toInt = tx (κ.2.2.1 9) (κ.1 6) r1.toInt) (hr4_0 : 0 ≤ r4.toInt) (hr4_1 : r4.toInt ≤ 126) (hr4_2 : ¬ r4.toInt = 0 → 0 ≤ r1.toInt ∧ r1.toInt < (κ.1 6).toInt) (c5 : ¬ r4.toInt = 46) (ex6 : x6 = r1 + (1 : Int32)) (tx6 : x6.toInt = r1.toInt + 1) (c7 : r1.toInt ≤ x6.toInt) (hr63y : (κ.1 7).toInt < 41 → ADc (κ.2.2.1 10) (κ.2.2.1 11) (κ.2.2.1 12) (κ.1 7) F65 F66 F67 n64 (1 : Int32) k0 (0 : Int32)) (hr63_1_0 : 0 ≤ n64.toInt) (hr63_1_1 : n64.toInt ≤ 41) : (κ.1 7).toInt ≤ k0.toInt → k0.toInt < (κ.1 6).toInt → dg (tx (κ.2.2.1 9) (κ.1 6) k0.toInt) → ∃ t9, TokR (tx (κ.2.2.1 9) (κ.1 6)) (κ.1 6).toInt k0.toInt t9 ∧ LXc (κ.2.2.1 10) (κ.2.2.1 11) (κ.2.2.1 12) (κ.1 7) F65 F66 F67 n64 k0.toInt r1.toInt t9 := by
  have q0 : (0 : Int32).toInt = 0 := by decide +kernel
  have q1 : (1 : Int32).toInt = 1 := by decide +kernel
  intro h1 h2 h3
  have a := hr1y (by omega)
  have lt := RT_lt a.1 a.2 h3
  have pk0 := hr4y (by omega)
  first | (exfalso; omega) | exact ⟨_, numN a.1 a.2 rfl (by omega) (by omega) h3, LXc.add (hr63y (by omega)) rfl (by omega) (by omega) (by first | rfl | omega) rfl⟩
-- nw@29 @29
theorem vX4_number_34 (κ : KS) (k0 : Int32) (r1 : Int32) (x2 : Int32) (r4 : Int32) (x69 : Int32) (hpre_1 : 0 ≤ (κ.1 6).toInt) (hpre_2 : (κ.1 6).toInt ≤ 40) (hpre_5 : 0 ≤ k0.toInt) (hpre_6 : k0.toInt ≤ 40) (hr1_0 : k0.toInt ≤ r1.toInt) (hr1_1 : r1.toInt ≤ max k0.toInt (κ.1 6).toInt) (ex2 : x2 = r1 - k0) (tx2 : x2.toInt = r1.toInt - k0.toInt) (c3 : x2.toInt ≤ 6) (hr4_0 : 0 ≤ r4.toInt) (hr4_1 : r4.toInt ≤ 126) (hr4_2 : ¬ r4.toInt = 0 → 0 ≤ r1.toInt ∧ r1.toInt < (κ.1 6).toInt) (c5 : r4.toInt = 46) (ex69 : x69 = r1 + (1 : Int32)) : x69.toInt = r1.toInt + 1 := by
  have q1 : (1 : Int32).toInt = 1 := by decide +kernel
  have w1 : (1 : Int32).toInt = 1 := by decide +kernel
  rw [ex69, z_add (by omega) (by omega)]; first | done | omega
-- pre:X4_endOfDigits@30 @30
theorem vX4_number_35 (κ : KS) (k0 : Int32) (r1 : Int32) (x2 : Int32) (r4 : Int32) (x69 : Int32) (hpre_0 : L9 (κ.2.2.1 9)) (hpre_1 : 0 ≤ (κ.1 6).toInt) (hpre_2 : (κ.1 6).toInt ≤ 40) (hpre_5 : 0 ≤ k0.toInt) (hpre_6 : k0.toInt ≤ 40) (hr1_0 : k0.toInt ≤ r1.toInt) (hr1_1 : r1.toInt ≤ max k0.toInt (κ.1 6).toInt) (ex2 : x2 = r1 - k0) (tx2 : x2.toInt = r1.toInt - k0.toInt) (c3 : x2.toInt ≤ 6) (hr4_0 : 0 ≤ r4.toInt) (hr4_1 : r4.toInt ≤ 126) (hr4_2 : ¬ r4.toInt = 0 → 0 ≤ r1.toInt ∧ r1.toInt < (κ.1 6).toInt) (c5 : r4.toInt = 46) (ex69 : x69 = r1 + (1 : Int32)) (tx69 : x69.toInt = r1.toInt + 1) : L9 (κ.2.2.1 9) ∧ 0 ≤ (κ.1 6).toInt ∧ (κ.1 6).toInt ≤ 40 ∧ 0 ≤ x69.toInt ∧ x69.toInt ≤ 41 := by
  have q1 : (1 : Int32).toInt = 1 := by decide +kernel
  refine ⟨?_, ?_, ?_, ?_, ?_⟩ <;> first | assumption | omega | (subst_vars; omega) | trivial
-- nw@41 @41
theorem vX4_number_36 (κ : KS) (k0 : Int32) (r1 : Int32) (x2 : Int32) (r4 : Int32) (x69 : Int32) (r70 : Int32) (x71 : Int32) (hpre_1 : 0 ≤ (κ.1 6).toInt) (hpre_2 : (κ.1 6).toInt ≤ 40) (hpre_5 : 0 ≤ k0.toInt) (hpre_6 : k0.toInt ≤ 40) (hr1_0 : k0.toInt ≤ r1.toInt) (hr1_1 : r1.toInt ≤ max k0.toInt (κ.1 6).toInt) (ex2 : x2 = r1 - k0) (tx2 : x2.toInt = r1.toInt - k0.toInt) (c3 : x2.toInt ≤ 6) (hr4_0 : 0 ≤ r4.toInt) (hr4_1 : r4.toInt ≤ 126) (hr4_2 : ¬ r4.toInt = 0 → 0 ≤ r1.toInt ∧ r1.toInt < (κ.1 6).toInt) (c5 : r4.toInt = 46) (ex69 : x69 = r1 + (1 : Int32)) (tx69 : x69.toInt = r1.toInt + 1) (hr70_0 : x69.toInt ≤ r70.toInt) (hr70_1 : r70.toInt ≤ max x69.toInt (κ.1 6).toInt) (ex71 : x71 = r1 + (1 : Int32)) : x71.toInt = r1.toInt + 1 := by
  have q1 : (1 : Int32).toInt = 1 := by decide +kernel
  have w1 : (1 : Int32).toInt = 1 := by decide +kernel
  rw [ex71, z_add (by omega) (by omega)]; first | done | omega
-- nw@66 @66
theorem vX4_number_37 (κ : KS) (k0 : Int32) (r1 : Int32) (x2 : Int32) (r4 : Int32) (x69 : Int32) (r70 : Int32) (x71 : Int32) (x73 : Int32) (hpre_1 : 0 ≤ (κ.1 6).toInt) (hpre_2 : (κ.1 6).toInt ≤ 40) (hpre_5 : 0 ≤ k0.toInt) (hpre_6 : k0.toInt ≤ 40) (hr1_0 : k0.toInt ≤ r1.toInt) (hr1_1 : r1.toInt ≤ max k0.toInt (κ.1 6).toInt) (ex2 : x2 = r1 - k0) (tx2 : x2.toInt = r1.toInt - k0.toInt) (c3 : x2.toInt ≤ 6) (hr4_0 : 0 ≤ r4.toInt) (hr4_1 : r4.toInt ≤ 126) (hr4_2 : ¬ r4.toInt = 0 → 0 ≤ r1.toInt ∧ r1.toInt < (κ.1 6).toInt) (c5 : r4.toInt = 46) (ex69 : x69 = r1 + (1 : Int32)) (tx69 : x69.toInt = r1.toInt + 1) (hr70_0 : x69.toInt ≤ r70.toInt) (hr70_1 : r70.toInt ≤ max x69.toInt (κ.1 6).toInt) (ex71 : x71 = r1 + (1 : Int32)) (tx71 : x71.toInt = r1.toInt + 1) (c72 : x71.toInt < r70.toInt) (ex73 : x73 = r70 - r1) : x73.toInt = r70.toInt - r1.toInt := by
  have q1 : (1 : Int32).toInt = 1 := by decide +kernel
  rw [ex73, z_sub (by omega) (by omega)]; first | done | omega
-- nw@68 @68
theorem vX4_number_38 (κ : KS) (k0 : Int32) (r1 : Int32) (x2 : Int32) (r4 : Int32) (x69 : Int32) (r70 : Int32) (x71 : Int32) (x73 : Int32) (x74 : Int32) (hpre_1 : 0 ≤ (κ.1 6).toInt) (hpre_2 : (κ.1 6).toInt ≤ 40) (hpre_5 : 0 ≤ k0.toInt) (hpre_6 : k0.toInt ≤ 40) (hr1_0 : k0.toInt ≤ r1.toInt) (hr1_1 : r1.toInt ≤ max k0.toInt (κ.1 6).toInt) (ex2 : x2 = r1 - k0) (tx2 : x2.toInt = r1.toInt - k0.toInt) (c3 : x2.toInt ≤ 6) (hr4_0 : 0 ≤ r4.toInt) (hr4_1 : r4.toInt ≤ 126) (hr4_2 : ¬ r4.toInt = 0 → 0 ≤ r1.toInt ∧ r1.toInt < (κ.1 6).toInt) (c5 : r4.toInt = 46) (ex69 : x69 = r1 + (1 : Int32)) (tx69 : x69.toInt = r1.toInt + 1) (hr70_0 : x69.toInt ≤ r70.toInt) (hr70_1 : r70.toInt ≤ max x69.toInt (κ.1 6).toInt) (ex71 : x71 = r1 + (1 : Int32)) (tx71 : x71.toInt = r1.toInt + 1) (c72 : x71.toInt < r70.toInt) (ex73 : x73 = r70 - r1) (tx73 : x73.toInt = r70.toInt - r1.toInt) (ex74 : x74 = x73 - (1 : Int32)) : x74.toInt = x73.toInt - 1 := by
  have q1 : (1 : Int32).toInt = 1 := by decide +kernel
  have w1 : (1 : Int32).toInt = 1 := by decide +kernel
  rw [ex74, z_sub (by omega) (by omega)]; first | done | omega
-- nw@111 @111
theorem vX4_number_39 (κ : KS) (k0 : Int32) (r1 : Int32) (x2 : Int32) (r4 : Int32) (x69 : Int32) (r70 : Int32) (x71 : Int32) (x73 : Int32) (x74 : Int32) (x78 : Int32) (hpre_1 : 0 ≤ (κ.1 6).toInt) (hpre_2 : (κ.1 6).toInt ≤ 40) (hpre_5 : 0 ≤ k0.toInt) (hpre_6 : k0.toInt ≤ 40) (hr1_0 : k0.toInt ≤ r1.toInt) (hr1_1 : r1.toInt ≤ max k0.toInt (κ.1 6).toInt) (ex2 : x2 = r1 - k0) (tx2 : x2.toInt = r1.toInt - k0.toInt) (c3 : x2.toInt ≤ 6) (hr4_0 : 0 ≤ r4.toInt) (hr4_1 : r4.toInt ≤ 126) (hr4_2 : ¬ r4.toInt = 0 → 0 ≤ r1.toInt ∧ r1.toInt < (κ.1 6).toInt) (c5 : r4.toInt = 46) (ex69 : x69 = r1 + (1 : Int32)) (tx69 : x69.toInt = r1.toInt + 1) (hr70_0 : x69.toInt ≤ r70.toInt) (hr70_1 : r70.toInt ≤ max x69.toInt (κ.1 6).toInt) (ex71 : x71 = r1 + (1 : Int32)) (tx71 : x71.toInt = r1.toInt + 1) (c72 : x71.toInt < r70.toInt) (ex73 : x73 = r70 - r1) (tx73 : x73.toInt = r70.toInt - r1.toInt) (ex74 : x74 = x73 - (1 : Int32)) (tx74 : x74.toInt = x73.toInt - 1) (c75 : x74.toInt ≤ 3) (c76 : ¬ x74.toInt = 1) (c77 : ¬ x74.toInt = 2) (ex78 : x78 = r1 + (1 : Int32)) : x78.toInt = r1.toInt + 1 := by
  have q1 : (1 : Int32).toInt = 1 := by decide +kernel
  have w1 : (1 : Int32).toInt = 1 := by decide +kernel
  rw [ex78, z_add (by omega) (by omega)]; first | done | omega
-- pre:X4_digits@117 @117
theorem vX4_number_40 (κ : KS) (k0 : Int32) (r1 : Int32) (x2 : Int32) (r4 : Int32) (x69 : Int32) (r70 : Int32) (x71 : Int32) (x73 : Int32) (x74 : Int32) (x78 : Int32) (hpre_0 : L9 (κ.2.2.1 9)) (hpre_1 : 0 ≤ (κ.1 6).toInt) (hpre_2 : (κ.1 6).toInt ≤ 40) (hpre_5 : 0 ≤ k0.toInt) (hpre_6 : k0.toInt ≤ 40) (hr1_0 : k0.toInt ≤ r1.toInt) (hr1_1 : r1.toInt ≤ max k0.toInt (κ.1 6).toInt) (ex2 : x2 = r1 - k0) (tx2 : x2.toInt = r1.toInt - k0.toInt) (c3 : x2.toInt ≤ 6) (hr4_0 : 0 ≤ r4.toInt) (hr4_1 : r4.toInt ≤ 126) (hr4_2 : ¬ r4.toInt = 0 → 0 ≤ r1.toInt ∧ r1.toInt < (κ.1 6).toInt) (c5 : r4.toInt = 46) (ex69 : x69 = r1 + (1 : Int32)) (tx69 : x69.toInt = r1.toInt + 1) (hr70_0 : x69.toInt ≤ r70.toInt) (hr70_1 : r70.toInt ≤ max x69.toInt (κ.1 6).toInt) (ex71 : x71 = r1 + (1 : Int32)) (tx71 : x71.toInt = r1.toInt + 1) (c72 : x71.toInt < r70.toInt) (ex73 : x73 = r70 - r1) (tx73 : x73.toInt = r70.toInt - r1.toInt) (ex74 : x74 = x73 - (1 : Int32)) (tx74 : x74.toInt = x73.toInt - 1) (c75 : x74.toInt ≤ 3) (c76 : ¬ x74.toInt = 1) (c77 : ¬ x74.toInt = 2) (ex78 : x78 = r1 + (1 : Int32)) (tx78 : x78.toInt = r1.toInt + 1) : L9 (κ.2.2.1 9) ∧ 0 ≤ k0.toInt ∧ r1.toInt ≤ 41 := by
  have q1 : (1 : Int32).toInt = 1 := by decide +kernel
  refine ⟨?_, ?_, ?_⟩ <;> first | assumption | omega | (subst_vars; omega) | trivial
-- pre:X4_digits@120 @120
theorem vX4_number_41 (κ : KS) (k0 : Int32) (r1 : Int32) (x2 : Int32) (r4 : Int32) (x69 : Int32) (r70 : Int32) (x71 : Int32) (x73 : Int32) (x74 : Int32) (x78 : Int32) (hpre_0 : L9 (κ.2.2.1 9)) (hpre_1 : 0 ≤ (κ.1 6).toInt) (hpre_2 : (κ.1 6).toInt ≤ 40) (hpre_5 : 0 ≤ k0.toInt) (hpre_6 : k0.toInt ≤ 40) (hr1_0 : k0.toInt ≤ r1.toInt) (hr1_1 : r1.toInt ≤ max k0.toInt (κ.1 6).toInt) (ex2 : x2 = r1 - k0) (tx2 : x2.toInt = r1.toInt - k0.toInt) (c3 : x2.toInt ≤ 6) (hr4_0 : 0 ≤ r4.toInt) (hr4_1 : r4.toInt ≤ 126) (hr4_2 : ¬ r4.toInt = 0 → 0 ≤ r1.toInt ∧ r1.toInt < (κ.1 6).toInt) (c5 : r4.toInt = 46) (ex69 : x69 = r1 + (1 : Int32)) (tx69 : x69.toInt = r1.toInt + 1) (hr70_0 : x69.toInt ≤ r70.toInt) (hr70_1 : r70.toInt ≤ max x69.toInt (κ.1 6).toInt) (ex71 : x71 = r1 + (1 : Int32)) (tx71 : x71.toInt = r1.toInt + 1) (c72 : x71.toInt < r70.toInt) (ex73 : x73 = r70 - r1) (tx73 : x73.toInt = r70.toInt - r1.toInt) (ex74 : x74 = x73 - (1 : Int32)) (tx74 : x74.toInt = x73.toInt - 1) (c75 : x74.toInt ≤ 3) (c76 : ¬ x74.toInt = 1) (c77 : ¬ x74.toInt = 2) (ex78 : x78 = r1 + (1 : Int32)) (tx78 : x78.toInt = r1.toInt + 1) : L9 (κ.2.2.1 9) ∧ 0 ≤ x78.toInt ∧ r70.toInt ≤ 41 := by
  have q1 : (1 : Int32).toInt = 1 := by decide +kernel
  refine ⟨?_, ?_, ?_⟩ <;> first | assumption | omega | (subst_vars; omega) | trivial
-- nan@134 @134
theorem vX4_number_42 (r80 : Int32) (x81 : UInt64) (ex81 : x81 = FP.i2d r80) (fx81 : FN x81) : vf_n64 (FP.ddiv x81 (4652007308841189376 : UInt64)) := by
  obtain ⟨s, c, q, hx⟩ : FN x81 := by assumption
  obtain ⟨d, g1, g2⟩ := fp_div hx (show Jvm.FP.Core.decode Jvm.FP.Core.b64 (4652007308841189376 : UInt64).toNat = .fin false 8796093022208000 (-43) by decide +kernel) (by omega)
  exact fp_n g1 g2
-- pre:X10_ofReal@135 @135
theorem vX4_number_43 (r80 : Int32) (x81 : UInt64) (x82 : UInt64) (ex81 : x81 = FP.i2d r80) (fx81 : FN x81) (ex82 : x82 = FP.ddiv x81 (4652007308841189376 : UInt64)) : FN x82 := by
  subst ex82
  first | exact fp_d10 (by assumption) | exact fp_d100 (by assumption) | exact fp_d1000 (by assumption)
-- post @142
theorem vX4_number_44 (κ : KS) (k0 : Int32) (r1 : Int32) (x2 : Int32) (r4 : Int32) (x69 : Int32) (r70 : Int32) (x71 : Int32) (x73 : Int32) (x74 : Int32) (x78 : Int32) (n88 : Int32) (hpre_1 : 0 ≤ (κ.1 6).toInt) (hpre_2 : (κ.1 6).toInt ≤ 40) (hpre_5 : 0 ≤ k0.toInt) (hpre_6 : k0.toInt ≤ 40) (hr1_0 : k0.toInt ≤ r1.toInt) (hr1_1 : r1.toInt ≤ max k0.toInt (κ.1 6).toInt) (ex2 : x2 = r1 - k0) (tx2 : x2.toInt = r1.toInt - k0.toInt) (c3 : x2.toInt ≤ 6) (hr4_0 : 0 ≤ r4.toInt) (hr4_1 : r4.toInt ≤ 126) (hr4_2 : ¬ r4.toInt = 0 → 0 ≤ r1.toInt ∧ r1.toInt < (κ.1 6).toInt) (c5 : r4.toInt = 46) (ex69 : x69 = r1 + (1 : Int32)) (tx69 : x69.toInt = r1.toInt + 1) (hr70_0 : x69.toInt ≤ r70.toInt) (hr70_1 : r70.toInt ≤ max x69.toInt (κ.1 6).toInt) (ex71 : x71 = r1 + (1 : Int32)) (tx71 : x71.toInt = r1.toInt + 1) (c72 : x71.toInt < r70.toInt) (ex73 : x73 = r70 - r1) (tx73 : x73.toInt = r70.toInt - r1.toInt) (ex74 : x74 = x73 - (1 : Int32)) (tx74 : x74.toInt = x73.toInt - 1) (c75 : x74.toInt ≤ 3) (c76 : ¬ x74.toInt = 1) (c77 : ¬ x74.toInt = 2) (ex78 : x78 = r1 + (1 : Int32)) (tx78 : x78.toInt = r1.toInt + 1) (hr87_1_0 : 0 ≤ n88.toInt) (hr87_1_1 : n88.toInt ≤ 41) : 0 ≤ n88.toInt ∧ n88.toInt ≤ 41 ∧ r70.toInt ≤ 40 := by
  have q1 : (1 : Int32).toInt = 1 := by decide +kernel
  refine ⟨?_, ?_, ?_⟩ <;> first | assumption | omega | (subst_vars; omega) | trivial
-- post2 @142
theorem vX4_number_45 (κ : KS) (k0 : Int32) (r1 : Int32) (x2 : Int32) (r4 : Int32) (x69 : Int32) (r70 : Int32) (x71 : Int32) (x73 : Int32) (x74 : Int32) (x78 : Int32) (r80 : Int32) (x81 : UInt64) (x82 : UInt64) (n88 : Int32) (F89 : (Nat → Int32)) (F90 : (Nat → Int32)) (F91 : (Nat → Int32)) (hpre_0 : L9 (κ.2.2.1 9)) (hpre_1 : 0 ≤ (κ.1 6).toInt) (hpre_2 : (κ.1 6).toInt ≤ 40) (hpre_3 : 0 ≤ (κ.1 7).toInt) (hpre_4 : (κ.1 7).toInt ≤ 41) (hpre_5 : 0 ≤ k0.toInt) (hpre_6 : k0.toInt ≤ 40) (hr1y : (κ.1 6).toInt ≤ 40 → RT dg (tx (κ.2.2.1 9) (κ.1 6)) k0.toInt r1.toInt ∧ ¬ dg (tx (κ.2.2.1 9) (κ.1 6) r1.toInt)) (hr1_0 : k0.toInt ≤ r1.toInt) (hr1_1 : r1.toInt ≤ max k0.toInt (κ.1 6).toInt) (ex2 : x2 = r1 - k0) (tx2 : x2.toInt = r1.toInt - k0.toInt) (c3 : x2.toInt ≤ 6) (hr4y : (κ.1 6).toInt ≤ 40 → r4.toInt = tx (κ.2.2.1 9) (κ.1 6) r1.toInt) (hr4_0 : 0 ≤ r4.toInt) (hr4_1 : r4.toInt ≤ 126) (hr4_2 : ¬ r4.toInt = 0 → 0 ≤ r1.toInt ∧ r1.toInt < (κ.1 6).toInt) (c5 : r4.toInt = 46) (ex69 : x69 = r1 + (1 : Int32)) (tx69 : x69.toInt = r1.toInt + 1) (hr70y : (κ.1 6).toInt ≤ 40 → RT dg (tx (κ.2.2.1 9) (κ.1 6)) x69.toInt r70.toInt ∧ ¬ dg (tx (κ.2.2.1 9) (κ.1 6) r70.toInt)) (hr70_0 : x69.toInt ≤ r70.toInt) (hr70_1 : r70.toInt ≤ max x69.toInt (κ.1 6).toInt) (ex71 : x71 = r1 + (1 : Int32)) (tx71 : x71.toInt = r1.toInt + 1) (c72 : x71.toInt < r70.toInt) (ex73 : x73 = r70 - r1) (tx73 : x73.toInt = r70.toInt - r1.toInt) (ex74 : x74 = x73 - (1 : Int32)) (tx74 : x74.toInt = x73.toInt - 1) (c75 : x74.toInt ≤ 3) (c76 : ¬ x74.toInt = 1) (c77 : ¬ x74.toInt = 2) (ex78 : x78 = r1 + (1 : Int32)) (tx78 : x78.toInt = r1.toInt + 1) (ex81 : x81 = FP.i2d r80) (fx81 : FN x81) (ex82 : x82 = FP.ddiv x81 (4652007308841189376 : UInt64)) (hr87y : (κ.1 7).toInt < 41 → ADc (κ.2.2.1 10) (κ.2.2.1 11) (κ.2.2.1 12) (κ.1 7) F89 F90 F91 n88 (1 : Int32) k0 (0 : Int32)) (hr87_1_0 : 0 ≤ n88.toInt) (hr87_1_1 : n88.toInt ≤ 41) : (κ.1 7).toInt ≤ k0.toInt → k0.toInt < (κ.1 6).toInt → dg (tx (κ.2.2.1 9) (κ.1 6) k0.toInt) → ∃ t9, TokR (tx (κ.2.2.1 9) (κ.1 6)) (κ.1 6).toInt k0.toInt t9 ∧ LXc (κ.2.2.1 10) (κ.2.2.1 11) (κ.2.2.1 12) (κ.1 7) F89 F90 F91 n88 k0.toInt r70.toInt t9 := by
  have q0 : (0 : Int32).toInt = 0 := by decide +kernel
  have q1 : (1 : Int32).toInt = 1 := by decide +kernel
  intro h1 h2 h3
  have a := hr1y (by omega)
  have lt := RT_lt a.1 a.2 h3
  have pk0 := hr4y (by omega)
  have b := hr70y (by omega)
  have bl := b.1.1
  first
  | (exfalso; omega)
  | (have z9 : tx (κ.2.2.1 9) (κ.1 6) r70.toInt = tx (κ.2.2.1 9) (κ.1 6) x69.toInt := by rw [show r70.toInt = x69.toInt by omega]
     have b2 := b.2
     exact ⟨_, numN (e1 := x69.toInt) a.1 a.2 (by omega) (by omega) (by omega) h3, LXc.add (hr87y (by omega)) rfl (by omega) (by omega) (by first | rfl | omega) rfl⟩)
  | exact ⟨_, numF (e1 := x69.toInt) (e3 := x69.toInt) a.1 a.2 (by omega) (by omega) (b.1.2 _ (Int.le_refl _) (by omega)) (by omega) (by omega) b.1 b.2 (by omega) h3, LXc.add (hr87y (by omega)) rfl (by omega) (by omega) (by first | rfl | omega) rfl⟩
-- nw@111 @111
theorem vX4_number_46 (κ : KS) (k0 : Int32) (r1 : Int32) (x2 : Int32) (r4 : Int32) (x69 : Int32) (r70 : Int32) (x71 : Int32) (x73 : Int32) (x74 : Int32) (x93 : Int32) (hpre_1 : 0 ≤ (κ.1 6).toInt) (hpre_2 : (κ.1 6).toInt ≤ 40) (hpre_5 : 0 ≤ k0.toInt) (hpre_6 : k0.toInt ≤ 40) (hr1_0 : k0.toInt ≤ r1.toInt) (hr1_1 : r1.toInt ≤ max k0.toInt (κ.1 6).toInt) (ex2 : x2 = r1 - k0) (tx2 : x2.toInt = r1.toInt - k0.toInt) (c3 : x2.toInt ≤ 6) (hr4_0 : 0 ≤ r4.toInt) (hr4_1 : r4.toInt ≤ 126) (hr4_2 : ¬ r4.toInt = 0 → 0 ≤ r1.toInt ∧ r1.toInt < (κ.1 6).toInt) (c5 : r4.toInt = 46) (ex69 : x69 = r1 + (1 : Int32)) (tx69 : x69.toInt = r1.toInt + 1) (hr70_0 : x69.toInt ≤ r70.toInt) (hr70_1 : r70.toInt ≤ max x69.toInt (κ.1 6).toInt) (ex71 : x71 = r1 + (1 : Int32)) (tx71 : x71.toInt = r1.toInt + 1) (c72 : x71.toInt < r70.toInt) (ex73 : x73 = r70 - r1) (tx73 : x73.toInt = r70.toInt - r1.toInt) (ex74 : x74 = x73 - (1 : Int32)) (tx74 : x74.toInt = x73.toInt - 1) (c75 : x74.toInt ≤ 3) (c76 : ¬ x74.toInt = 1) (c77 : x74.toInt = 2) (ex93 : x93 = r1 + (1 : Int32)) : x93.toInt = r1.toInt + 1 := by
  have q1 : (1 : Int32).toInt = 1 := by decide +kernel
  have w1 : (1 : Int32).toInt = 1 := by decide +kernel
  rw [ex93, z_add (by omega) (by omega)]; first | done | omega
-- pre:X4_digits@117 @117
theorem vX4_number_47 (κ : KS) (k0 : Int32) (r1 : Int32) (x2 : Int32) (r4 : Int32) (x69 : Int32) (r70 : Int32) (x71 : Int32) (x73 : Int32) (x74 : Int32) (x93 : Int32) (hpre_0 : L9 (κ.2.2.1 9)) (hpre_1 : 0 ≤ (κ.1 6).toInt) (hpre_2 : (κ.1 6).toInt ≤ 40) (hpre_5 : 0 ≤ k0.toInt) (hpre_6 : k0.toInt ≤ 40) (hr1_0 : k0.toInt ≤ r1.toInt) (hr1_1 : r1.toInt ≤ max k0.toInt (κ.1 6).toInt) (ex2 : x2 = r1 - k0) (tx2 : x2.toInt = r1.toInt - k0.toInt) (c3 : x2.toInt ≤ 6) (hr4_0 : 0 ≤ r4.toInt) (hr4_1 : r4.toInt ≤ 126) (hr4_2 : ¬ r4.toInt = 0 → 0 ≤ r1.toInt ∧ r1.toInt < (κ.1 6).toInt) (c5 : r4.toInt = 46) (ex69 : x69 = r1 + (1 : Int32)) (tx69 : x69.toInt = r1.toInt + 1) (hr70_0 : x69.toInt ≤ r70.toInt) (hr70_1 : r70.toInt ≤ max x69.toInt (κ.1 6).toInt) (ex71 : x71 = r1 + (1 : Int32)) (tx71 : x71.toInt = r1.toInt + 1) (c72 : x71.toInt < r70.toInt) (ex73 : x73 = r70 - r1) (tx73 : x73.toInt = r70.toInt - r1.toInt) (ex74 : x74 = x73 - (1 : Int32)) (tx74 : x74.toInt = x73.toInt - 1) (c75 : x74.toInt ≤ 3) (c76 : ¬ x74.toInt = 1) (c77 : x74.toInt = 2) (ex93 : x93 = r1 + (1 : Int32)) (tx93 : x93.toInt = r1.toInt + 1) : L9 (κ.2.2.1 9) ∧ 0 ≤ k0.toInt ∧ r1.toInt ≤ 41 := by
  have q1 : (1 : Int32).toInt = 1 := by decide +kernel
  refine ⟨?_, ?_, ?_⟩ <;> first | assumption | omega | (subst_vars; omega) | trivial
-- pre:X4_digits@120 @120
theorem vX4_number_48 (κ : KS) (k0 : Int32) (r1 : Int32) (x2 : Int32) (r4 : Int32) (x69 : Int32) (r70 : Int32) (x71 : Int32) (x73 : Int32) (x74 : Int32) (x93 : Int32) (hpre_0 : L9 (κ.2.2.1 9)) (hpre_1 : 0 ≤ (κ.1 6).toInt) (hpre_2 : (κ.1 6).toInt ≤ 40) (hpre_5 : 0 ≤ k0.toInt) (hpre_6 : k0.toInt ≤ 40) (hr1_0 : k0.toInt ≤ r1.toInt) (hr1_1 : r1.toInt ≤ max k0.toInt (κ.1 6).toInt) (ex2 : x2 = r1 - k0) (tx2 : x2.toInt = r1.toInt - k0.toInt) (c3 : x2.toInt ≤ 6) (hr4_0 : 0 ≤ r4.toInt) (hr4_1 : r4.toInt ≤ 126) (hr4_2 : ¬ r4.toInt = 0 → 0 ≤ r1.toInt ∧ r1.toInt < (κ.1 6).toInt) (c5 : r4.toInt = 46) (ex69 : x69 = r1 + (1 : Int32)) (tx69 : x69.toInt = r1.toInt + 1) (hr70_0 : x69.toInt ≤ r70.toInt) (hr70_1 : r70.toInt ≤ max x69.toInt (κ.1 6).toInt) (ex71 : x71 = r1 + (1 : Int32)) (tx71 : x71.toInt = r1.toInt + 1) (c72 : x71.toInt < r70.toInt) (ex73 : x73 = r70 - r1) (tx73 : x73.toInt = r70.toInt - r1.toInt) (ex74 : x74 = x73 - (1 : Int32)) (tx74 : x74.toInt = x73.toInt - 1) (c75 : x74.toInt ≤ 3) (c76 : ¬ x74.toInt = 1) (c77 : x74.toInt = 2) (ex93 : x93 = r1 + (1 : Int32)) (tx93 : x93.toInt = r1.toInt + 1) : L9 (κ.2.2.1 9) ∧ 0 ≤ x93.toInt ∧ r70.toInt ≤ 41 := by
  have q1 : (1 : Int32).toInt = 1 := by decide +kernel
  refine ⟨?_, ?_, ?_⟩ <;> first | assumption | omega | (subst_vars; omega) | trivial
-- nan@134 @134
theorem vX4_number_49 (r95 : Int32) (x96 : UInt64) (ex96 : x96 = FP.i2d r95) (fx96 : FN x96) : vf_n64 (FP.ddiv x96 (4636737291354636288 : UInt64)) := by
  obtain ⟨s, c, q, hx⟩ : FN x96 := by assumption
  obtain ⟨d, g1, g2⟩ := fp_div hx (show Jvm.FP.Core.decode Jvm.FP.Core.b64 (4636737291354636288 : UInt64).toNat = .fin false 7036874417766400 (-46) by decide +kernel) (by omega)
  exact fp_n g1 g2
-- pre:X10_ofReal@135 @135
theorem vX4_number_50 (r95 : Int32) (x96 : UInt64) (x97 : UInt64) (ex96 : x96 = FP.i2d r95) (fx96 : FN x96) (ex97 : x97 = FP.ddiv x96 (4636737291354636288 : UInt64)) : FN x97 := by
  subst ex97
  first | exact fp_d10 (by assumption) | exact fp_d100 (by assumption) | exact fp_d1000 (by assumption)
-- post @142
theorem vX4_number_51 (κ : KS) (k0 : Int32) (r1 : Int32) (x2 : Int32) (r4 : Int32) (x69 : Int32) (r70 : Int32) (x71 : Int32) (x73 : Int32) (x74 : Int32) (x93 : Int32) (n103 : Int32) (hpre_1 : 0 ≤ (κ.1 6).toInt) (hpre_2 : (κ.1 6).toInt ≤ 40) (hpre_5 : 0 ≤ k0.toInt) (hpre_6 : k0.toInt ≤ 40) (hr1_0 : k0.toInt ≤ r1.toInt) (hr1_1 : r1.toInt ≤ max k0.toInt (κ.1 6).toInt) (ex2 : x2 = r1 - k0) (tx2 : x2.toInt = r1.toInt - k0.toInt) (c3 : x2.toInt ≤ 6) (hr4_0 : 0 ≤ r4.toInt) (hr4_1 : r4.toInt ≤ 126) (hr4_2 : ¬ r4.toInt = 0 → 0 ≤ r1.toInt ∧ r1.toInt < (κ.1 6).toInt) (c5 : r4.toInt = 46) (ex69 : x69 = r1 + (1 : Int32)) (tx69 : x69.toInt = r1.toInt + 1) (hr70_0 : x69.toInt ≤ r70.toInt) (hr70_1 : r70.toInt ≤ max x69.toInt (κ.1 6).toInt) (ex71 : x71 = r1 + (1 : Int32)) (tx71 : x71.toInt = r1.toInt + 1) (c72 : x71.toInt < r70.toInt) (ex73 : x73 = r70 - r1) (tx73 : x73.toInt = r70.toInt - r1.toInt) (ex74 : x74 = x73 - (1 : Int32)) (tx74 : x74.toInt = x73.toInt - 1) (c75 : x74.toInt ≤ 3) (c76 : ¬ x74.toInt = 1) (c77 : x74.toInt = 2) (ex93 : x93 = r1 + (1 : Int32)) (tx93 : x93.toInt = r1.toInt + 1) (hr102_1_0 : 0 ≤ n103.toInt) (hr102_1_1 : n103.toInt ≤ 41) : 0 ≤ n103.toInt ∧ n103.toInt ≤ 41 ∧ r70.toInt ≤ 40 := by
  have q1 : (1 : Int32).toInt = 1 := by decide +kernel
  refine ⟨?_, ?_, ?_⟩ <;> first | assumption | omega | (subst_vars; omega) | trivial
-- post2 @142
theorem vX4_number_52 (κ : KS) (k0 : Int32) (r1 : Int32) (x2 : Int32) (r4 : Int32) (x69 : Int32) (r70 : Int32) (x71 : Int32) (x73 : Int32) (x74 : Int32) (x93 : Int32) (r95 : Int32) (x96 : UInt64) (x97 : UInt64) (n103 : Int32) (F104 : (Nat → Int32)) (F105 : (Nat → Int32)) (F106 : (Nat → Int32)) (hpre_0 : L9 (κ.2.2.1 9)) (hpre_1 : 0 ≤ (κ.1 6).toInt) (hpre_2 : (κ.1 6).toInt ≤ 40) (hpre_3 : 0 ≤ (κ.1 7).toInt) (hpre_4 : (κ.1 7).toInt ≤ 41) (hpre_5 : 0 ≤ k0.toInt) (hpre_6 : k0.toInt ≤ 40) (hr1y : (κ.1 6).toInt ≤ 40 → RT dg (tx (κ.2.2.1 9) (κ.1 6)) k0.toInt r1.toInt ∧ ¬ dg (tx (κ.2.2.1 9) (κ.1 6) r1.toInt)) (hr1_0 : k0.toInt ≤ r1.toInt) (hr1_1 : r1.toInt ≤ max k0.toInt (κ.1 6).toInt) (ex2 : x2 = r1 - k0) (tx2 : x2.toInt = r1.toInt - k0.toInt) (c3 : x2.toInt ≤ 6) (hr4y : (κ.1 6).toInt ≤ 40 → r4.toInt = tx (κ.2.2.1 9) (κ.1 6) r1.toInt) (hr4_0 : 0 ≤ r4.toInt) (hr4_1 : r4.toInt ≤ 126) (hr4_2 : ¬ r4.toInt = 0 → 0 ≤ r1.toInt ∧ r1.toInt < (κ.1 6).toInt) (c5 : r4.toInt = 46) (ex69 : x69 = r1 + (1 : Int32)) (tx69 : x69.toInt = r1.toInt + 1) (hr70y : (κ.1 6).toInt ≤ 40 → RT dg (tx (κ.2.2.1 9) (κ.1 6)) x69.toInt r70.toInt ∧ ¬ dg (tx (κ.2.2.1 9) (κ.1 6) r70.toInt)) (hr70_0 : x69.toInt ≤ r70.toInt) (hr70_1 : r70.toInt ≤ max x69.toInt (κ.1 6).toInt) (ex71 : x71 = r1 + (1 : Int32)) (tx71 : x71.toInt = r1.toInt + 1) (c72 : x71.toInt < r70.toInt) (ex73 : x73 = r70 - r1) (tx73 : x73.toInt = r70.toInt - r1.toInt) (ex74 : x74 = x73 - (1 : Int32)) (tx74 : x74.toInt = x73.toInt - 1) (c75 : x74.toInt ≤ 3) (c76 : ¬ x74.toInt = 1) (c77 : x74.toInt = 2) (ex93 : x93 = r1 + (1 : Int32)) (tx93 : x93.toInt = r1.toInt + 1) (ex96 : x96 = FP.i2d r95) (fx96 : FN x96) (ex97 : x97 = FP.ddiv x96 (4636737291354636288 : UInt64)) (hr102y : (κ.1 7).toInt < 41 → ADc (κ.2.2.1 10) (κ.2.2.1 11) (κ.2.2.1 12) (κ.1 7) F104 F105 F106 n103 (1 : Int32) k0 (0 : Int32)) (hr102_1_0 : 0 ≤ n103.toInt) (hr102_1_1 : n103.toInt ≤ 41) : (κ.1 7).toInt ≤ k0.toInt → k0.toInt < (κ.1 6).toInt → dg (tx (κ.2.2.1 9) (κ.1 6) k0.toInt) → ∃ t9, TokR (tx (κ.2.2.1 9) (κ.1 6)) (κ.1 6).toInt k0.toInt t9 ∧ LXc (κ.2.2.1 10) (κ.2.2.1 11) (κ.2.2.1 12) (κ.1 7) F104 F105 F106 n103 k0.toInt r70.toInt t9 := by
  have q0 : (0 : Int32).toInt = 0 := by decide +kernel
  have q1 : (1 : Int32).toInt = 1 := by decide +kernel
  intro h1 h2 h3
  have a := hr1y (by omega)
  have lt := RT_lt a.1 a.2 h3
  have pk0 := hr4y (by omega)
  have b := hr70y (by omega)
  have bl := b.1.1
  first
  | (exfalso; omega)
  | (have z9 : tx (κ.2.2.1 9) (κ.1 6) r70.toInt = tx (κ.2.2.1 9) (κ.1 6) x69.toInt := by rw [show r70.toInt = x69.toInt by omega]
     have b2 := b.2
     exact ⟨_, numN (e1 := x69.toInt) a.1 a.2 (by omega) (by omega) (by omega) h3, LXc.add (hr102y (by omega)) rfl (by omega) (by omega) (by first | rfl | omega) rfl⟩)
  | exact ⟨_, numF (e1 := x69.toInt) (e3 := x69.toInt) a.1 a.2 (by omega) (by omega) (b.1.2 _ (Int.le_refl _) (by omega)) (by omega) (by omega) b.1 b.2 (by omega) h3, LXc.add (hr102y (by omega)) rfl (by omega) (by omega) (by first | rfl | omega) rfl⟩
-- nw@111 @111
theorem vX4_number_53 (κ : KS) (k0 : Int32) (r1 : Int32) (x2 : Int32) (r4 : Int32) (x69 : Int32) (r70 : Int32) (x71 : Int32) (x73 : Int32) (x74 : Int32) (x108 : Int32) (hpre_1 : 0 ≤ (κ.1 6).toInt) (hpre_2 : (κ.1 6).toInt ≤ 40) (hpre_5 : 0 ≤ k0.toInt) (hpre_6 : k0.toInt ≤ 40) (hr1_0 : k0.toInt ≤ r1.toInt) (hr1_1 : r1.toInt ≤ max k0.toInt (κ.1 6).toInt) (ex2 : x2 = r1 - k0) (tx2 : x2.toInt = r1.toInt - k0.toInt) (c3 : x2.toInt ≤ 6) (hr4_0 : 0 ≤ r4.toInt) (hr4_1 : r4.toInt ≤ 126) (hr4_2 : ¬ r4.toInt = 0 → 0 ≤ r1.toInt ∧ r1.toInt < (κ.1 6).toInt) (c5 : r4.toInt = 46) (ex69 : x69 = r1 + (1 : Int32)) (tx69 : x69.toInt = r1.toInt + 1) (hr70_0 : x69.toInt ≤ r70.toInt) (hr70_1 : r70.toInt ≤ max x69.toInt (κ.1 6).toInt) (ex71 : x71 = r1 + (1 : Int32)) (tx71 : x71.toInt = r1.toInt + 1) (c72 : x71.toInt < r70.toInt) (ex73 : x73 = r70 - r1) (tx73 : x73.toInt = r70.toInt - r1.toInt) (ex74 : x74 = x73 - (1 : Int32)) (tx74 : x74.toInt = x73.toInt - 1) (c75 : x74.toInt ≤ 3) (c76 : x74.toInt = 1) (ex108 : x108 = r1 + (1 : Int32)) : x108.toInt = r1.toInt + 1 := by
  have q1 : (1 : Int32).toInt = 1 := by decide +kernel
  have w1 : (1 : Int32).toInt = 1 := by decide +kernel
  rw [ex108, z_add (by omega) (by omega)]; first | done | omega
-- pre:X4_digits@117 @117
theorem vX4_number_54 (κ : KS) (k0 : Int32) (r1 : Int32) (x2 : Int32) (r4 : Int32) (x69 : Int32) (r70 : Int32) (x71 : Int32) (x73 : Int32) (x74 : Int32) (x108 : Int32) (hpre_0 : L9 (κ.2.2.1 9)) (hpre_1 : 0 ≤ (κ.1 6).toInt) (hpre_2 : (κ.1 6).toInt ≤ 40) (hpre_5 : 0 ≤ k0.toInt) (hpre_6 : k0.toInt ≤ 40) (hr1_0 : k0.toInt ≤ r1.toInt) (hr1_1 : r1.toInt ≤ max k0.toInt (κ.1 6).toInt) (ex2 : x2 = r1 - k0) (tx2 : x2.toInt = r1.toInt - k0.toInt) (c3 : x2.toInt ≤ 6) (hr4_0 : 0 ≤ r4.toInt) (hr4_1 : r4.toInt ≤ 126) (hr4_2 : ¬ r4.toInt = 0 → 0 ≤ r1.toInt ∧ r1.toInt < (κ.1 6).toInt) (c5 : r4.toInt = 46) (ex69 : x69 = r1 + (1 : Int32)) (tx69 : x69.toInt = r1.toInt + 1) (hr70_0 : x69.toInt ≤ r70.toInt) (hr70_1 : r70.toInt ≤ max x69.toInt (κ.1 6).toInt) (ex71 : x71 = r1 + (1 : Int32)) (tx71 : x71.toInt = r1.toInt + 1) (c72 : x71.toInt < r70.toInt) (ex73 : x73 = r70 - r1) (tx73 : x73.toInt = r70.toInt - r1.toInt) (ex74 : x74 = x73 - (1 : Int32)) (tx74 : x74.toInt = x73.toInt - 1) (c75 : x74.toInt ≤ 3) (c76 : x74.toInt = 1) (ex108 : x108 = r1 + (1 : Int32)) (tx108 : x108.toInt = r1.toInt + 1) : L9 (κ.2.2.1 9) ∧ 0 ≤ k0.toInt ∧ r1.toInt ≤ 41 := by
  have q1 : (1 : Int32).toInt = 1 := by decide +kernel
  refine ⟨?_, ?_, ?_⟩ <;> first | assumption | omega | (subst_vars; omega) | trivial
-- pre:X4_digits@120 @120
theorem vX4_number_55 (κ : KS) (k0 : Int32) (r1 : Int32) (x2 : Int32) (r4 : Int32) (x69 : Int32) (r70 : Int32) (x71 : Int32) (x73 : Int32) (x74 : Int32) (x108 : Int32) (hpre_0 : L9 (κ.2.2.1 9)) (hpre_1 : 0 ≤ (κ.1 6).toInt) (hpre_2 : (κ.1 6).toInt ≤ 40) (hpre_5 : 0 ≤ k0.toInt) (hpre_6 : k0.toInt ≤ 40) (hr1_0 : k0.toInt ≤ r1.toInt) (hr1_1 : r1.toInt ≤ max k0.toInt (κ.1 6).toInt) (ex2 : x2 = r1 - k0) (tx2 : x2.toInt = r1.toInt - k0.toInt) (c3 : x2.toInt ≤ 6) (hr4_0 : 0 ≤ r4.toInt) (hr4_1 : r4.toInt ≤ 126) (hr4_2 : ¬ r4.toInt = 0 → 0 ≤ r1.toInt ∧ r1.toInt < (κ.1 6).toInt) (c5 : r4.toInt = 46) (ex69 : x69 = r1 + (1 : Int32)) (tx69 : x69.toInt = r1.toInt + 1) (hr70_0 : x69.toInt ≤ r70.toInt) (hr70_1 : r70.toInt ≤ max x69.toInt (κ.1 6).toInt) (ex71 : x71 = r1 + (1 : Int32)) (tx71 : x71.toInt = r1.toInt + 1) (c72 : x71.toInt < r70.toInt) (ex73 : x73 = r70 - r1) (tx73 : x73.toInt = r70.toInt - r1.toInt) (ex74 : x74 = x73 - (1 : Int32)) (tx74 : x74.toInt = x73.toInt - 1) (c75 : x74.toInt ≤ 3) (c76 : x74.toInt = 1) (ex108 : x108 = r1 + (1 : Int32)) (tx108 : x108.toInt = r1.toInt + 1) : L9 (κ.2.2.1 9) ∧ 0 ≤ x108.toInt ∧ r70.toInt ≤ 41 := by
  have q1 : (1 : Int32).toInt = 1 := by decide +kernel
  refine ⟨?_, ?_, ?_⟩ <;> first | assumption | omega | (subst_vars; omega) | trivial
-- nan@134 @134
theorem vX4_number_56 (r110 : Int32) (x111 : UInt64) (ex111 : x111 = FP.i2d r110) (fx111 : FN x111) : vf_n64 (FP.ddiv x111 (4621819117588971520 : UInt64)) := by
  obtain ⟨s, c, q, hx⟩ : FN x111 := by assumption
  obtain ⟨d, g1, g2⟩ := fp_div hx (show Jvm.FP.Core.decode Jvm.FP.Core.b64 (4621819117588971520 : UInt64).toNat = .fin false 5629499534213120 (-49) by decide +kernel) (by omega)
  exact fp_n g1 g2
-- pre:X10_ofReal@135 @135
theorem vX4_number_57 (r110 : Int32) (x111 : UInt64) (x112 : UInt64) (ex111 : x111 = FP.i2d r110) (fx111 : FN x111) (ex112 : x112 = FP.ddiv x111 (4621819117588971520 : UInt64)) : FN x112 := by
  subst ex112
  first | exact fp_d10 (by assumption) | exact fp_d100 (by assumption) | exact fp_d1000 (by assumption)
-- post @142
theorem vX4_number_58 (κ : KS) (k0 : Int32) (r1 : Int32) (x2 : Int32) (r4 : Int32) (x69 : Int32) (r70 : Int32) (x71 : Int32) (x73 : Int32) (x74 : Int32) (x108 : Int32) (n118 : Int32) (hpre_1 : 0 ≤ (κ.1 6).toInt) (hpre_2 : (κ.1 6).toInt ≤ 40) (hpre_5 : 0 ≤ k0.toInt) (hpre_6 : k0.toInt ≤ 40) (hr1_0 : k0.toInt ≤ r1.toInt) (hr1_1 : r1.toInt ≤ max k0.toInt (κ.1 6).toInt) (ex2 : x2 = r1 - k0) (tx2 : x2.toInt = r1.toInt - k0.toInt) (c3 : x2.toInt ≤ 6) (hr4_0 : 0 ≤ r4.toInt) (hr4_1 : r4.toInt ≤ 126) (hr4_2 : ¬ r4.toInt = 0 → 0 ≤ r1.toInt ∧ r1.toInt < (κ.1 6).toInt) (c5 : r4.toInt = 46) (ex69 : x69 = r1 + (1 : Int32)) (tx69 : x69.toInt = r1.toInt + 1) (hr70_0 : x69.toInt ≤ r70.toInt) (hr70_1 : r70.toInt ≤ max x69.toInt (κ.1 6).toInt) (ex71 : x71 = r1 + (1 : Int32)) (tx71 : x71.toInt = r1.toInt + 1) (c72 : x71.toInt < r70.toInt) (ex73 : x73 = r70 - r1) (tx73 : x73.toInt = r70.toInt - r1.toInt) (ex74 : x74 = x73 - (1 : Int32)) (tx74 : x74.toInt = x73.toInt - 1) (c75 : x74.toInt ≤ 3) (c76 : x74.toInt = 1) (ex108 : x108 = r1 + (1 : Int32)) (tx108 : x108.toInt = r1.toInt + 1) (hr117_1_0 : 0 ≤ n118.toInt) (hr117_1_1 : n118.toInt ≤ 41) : 0 ≤ n118.toInt ∧ n118.toInt ≤ 41 ∧ r70.toInt ≤ 40 := by
  have q1 : (1 : Int32).toInt = 1 := by decide +kernel
  refine ⟨?_, ?_, ?_⟩ <;> first | assumption | omega | (subst_vars; omega) | trivial
-- post2 @142
theorem vX4_number_59 (κ : KS) (k0 : Int32) (r1 : Int32) (x2 : Int32) (r4 : Int32) (x69 : Int32) (r70 : Int32) (x71 : Int32) (x73 : Int32) (x74 : Int32) (x108 : Int32) (r110 : Int32) (x111 : UInt64) (x112 : UInt64) (n118 : Int32) (F119 : (Nat → Int32)) (F120 : (Nat → Int32)) (F121 : (Nat → Int32)) (hpre_0 : L9 (κ.2.2.1 9)) (hpre_1 : 0 ≤ (κ.1 6).toInt) (hpre_2 : (κ.1 6).toInt ≤ 40) (hpre_3 : 0 ≤ (κ.1 7).toInt) (hpre_4 : (κ.1 7).toInt ≤ 41) (hpre_5 : 0 ≤ k0.toInt) (hpre_6 : k0.toInt ≤ 40) (hr1y : (κ.1 6).toInt ≤ 40 → RT dg (tx (κ.2.2.1 9) (κ.1 6)) k0.toInt r1.toInt ∧ ¬ dg (tx (κ.2.2.1 9) (κ.1 6) r1.toInt)) (hr1_0 : k0.toInt ≤ r1.toInt) (hr1_1 : r1.toInt ≤ max k0.toInt (κ.1 6).toInt) (ex2 : x2 = r1 - k0) (tx2 : x2.toInt = r1.toInt - k0.toInt) (c3 : x2.toInt ≤ 6) (hr4y : (κ.1 6).toInt ≤ 40 → r4.toInt = tx (κ.2.2.1 9) (κ.1 6) r1.toInt) (hr4_0 : 0 ≤ r4.toInt) (hr4_1 : r4.toInt ≤ 126) (hr4_2 : ¬ r4.toInt = 0 → 0 ≤ r1.toInt ∧ r1.toInt < (κ.1 6).toInt) (c5 : r4.toInt = 46) (ex69 : x69 = r1 + (1 : Int32)) (tx69 : x69.toInt = r1.toInt + 1) (hr70y : (κ.1 6).toInt ≤ 40 → RT dg (tx (κ.2.2.1 9) (κ.1 6)) x69.toInt r70.toInt ∧ ¬ dg (tx (κ.2.2.1 9) (κ.1 6) r70.toInt)) (hr70_0 : x69.toInt ≤ r70.toInt) (hr70_1 : r70.toInt ≤ max x69.toInt (κ.1 6).toInt) (ex71 : x71 = r1 + (1 : Int32)) (tx71 : x71.toInt = r1.toInt + 1) (c72 : x71.toInt < r70.toInt) (ex73 : x73 = r70 - r1) (tx73 : x73.toInt = r70.toInt - r1.toInt) (ex74 : x74 = x73 - (1 : Int32)) (tx74 : x74.toInt = x73.toInt - 1) (c75 : x74.toInt ≤ 3) (c76 : x74.toInt = 1) (ex108 : x108 = r1 + (1 : Int32)) (tx108 : x108.toInt = r1.toInt + 1) (ex111 : x111 = FP.i2d r110) (fx111 : FN x111) (ex112 : x112 = FP.ddiv x111 (4621819117588971520 : UInt64)) (hr117y : (κ.1 7).toInt < 41 → ADc (κ.2.2.1 10) (κ.2.2.1 11) (κ.2.2.1 12) (κ.1 7) F119 F120 F121 n118 (1 : Int32) k0 (0 : Int32)) (hr117_1_0 : 0 ≤ n118.toInt) (hr117_1_1 : n118.toInt ≤ 41) : (κ.1 7).toInt ≤ k0.toInt → k0.toInt < (κ.1 6).toInt → dg (tx (κ.2.2.1 9) (κ.1 6) k0.toInt) → ∃ t9, TokR (tx (κ.2.2.1 9) (κ.1 6)) (κ.1 6).toInt k0.toInt t9 ∧ LXc (κ.2.2.1 10) (κ.2.2.1 11) (κ.2.2.1 12) (κ.1 7) F119 F120 F121 n118 k0.toInt r70.toInt t9 := by
  have q0 : (0 : Int32).toInt = 0 := by decide +kernel
  have q1 : (1 : Int32).toInt = 1 := by decide +kernel
  intro h1 h2 h3
  have a := hr1y (by omega)
  have lt := RT_lt a.1 a.2 h3
  have pk0 := hr4y (by omega)
  have b := hr70y (by omega)
  have bl := b.1.1
  first
  | (exfalso; omega)
  | (have z9 : tx (κ.2.2.1 9) (κ.1 6) r70.toInt = tx (κ.2.2.1 9) (κ.1 6) x69.toInt := by rw [show r70.toInt = x69.toInt by omega]
     have b2 := b.2
     exact ⟨_, numN (e1 := x69.toInt) a.1 a.2 (by omega) (by omega) (by omega) h3, LXc.add (hr117y (by omega)) rfl (by omega) (by omega) (by first | rfl | omega) rfl⟩)
  | exact ⟨_, numF (e1 := x69.toInt) (e3 := x69.toInt) a.1 a.2 (by omega) (by omega) (b.1.2 _ (Int.le_refl _) (by omega)) (by omega) (by omega) b.1 b.2 (by omega) h3, LXc.add (hr117y (by omega)) rfl (by omega) (by omega) (by first | rfl | omega) rfl⟩
-- post2 @78
theorem vX4_number_60 (κ : KS) (k0 : Int32) (r1 : Int32) (x2 : Int32) (r4 : Int32) (x69 : Int32) (r70 : Int32) (x71 : Int32) (x73 : Int32) (x74 : Int32) (hpre_0 : L9 (κ.2.2.1 9)) (hpre_1 : 0 ≤ (κ.1 6).toInt) (hpre_2 : (κ.1 6).toInt ≤ 40) (hpre_3 : 0 ≤ (κ.1 7).toInt) (hpre_4 : (κ.1 7).toInt ≤ 41) (hpre_5 : 0 ≤ k0.toInt) (hpre_6 : k0.toInt ≤ 40) (hr1y : (κ.1 6).toInt ≤ 40 → RT dg (tx (κ.2.2.1 9) (κ.1 6)) k0.toInt r1.toInt ∧ ¬ dg (tx (κ.2.2.1 9) (κ.1 6) r1.toInt)) (hr1_0 : k0.toInt ≤ r1.toInt) (hr1_1 : r1.toInt ≤ max k0.toInt (κ.1 6).toInt) (ex2 : x2 = r1 - k0) (tx2 : x2.toInt = r1.toInt - k0.toInt) (c3 : x2.toInt ≤ 6) (hr4y : (κ.1 6).toInt ≤ 40 → r4.toInt = tx (κ.2.2.1 9) (κ.1 6) r1.toInt) (hr4_0 : 0 ≤ r4.toInt) (hr4_1 : r4.toInt ≤ 126) (hr4_2 : ¬ r4.toInt = 0 → 0 ≤ r1.toInt ∧ r1.toInt < (κ.1 6).toInt) (c5 : r4.toInt = 46) (ex69 : x69 = r1 + (1 : Int32)) (tx69 : x69.toInt = r1.toInt + 1) (hr70y : (κ.1 6).toInt ≤ 40 → RT dg (tx (κ.2.2.1 9) (κ.1 6)) x69.toInt r70.toInt ∧ ¬ dg (tx (κ.2.2.1 9) (κ.1 6) r70.toInt)) (hr70_0 : x69.toInt ≤ r70.toInt) (hr70_1 : r70.toInt ≤ max x69.toInt (κ.1 6).toInt) (ex71 : x71 = r1 + (1 : Int32)) (tx71 : x71.toInt = r1.toInt + 1) (c72 : x71.toInt < r70.toInt) (ex73 : x73 = r70 - r1) (tx73 : x73.toInt = r70.toInt - r1.toInt) (ex74 : x74 = x73 - (1 : Int32)) (tx74 : x74.toInt = x73.toInt - 1) (c75 : 3 < x74.toInt) : (κ.1 7).toInt ≤ k0.toInt → k0.toInt < (κ.1 6).toInt → dg (tx (κ.2.2.1 9) (κ.1 6) k0.toInt) → ∃ t9, TokR (tx (κ.2.2.1 9) (κ.1 6)) (κ.1 6).toInt k0.toInt t9 ∧ LXc (κ.2.2.1 10) (κ.2.2.1 11) (κ.2.2.1 12) (κ.1 7) (κ.2.2.1 10) (κ.2.2.1 11) (κ.2.2.1 12) (κ.1 7) k0.toInt (-1 : Int32).toInt t9 := by
  have qm1 : (-1 : Int32).toInt = (-1) := by decide +kernel
  have q1 : (1 : Int32).toInt = 1 := by decide +kernel
  intro h1 h2 h3
  have a := hr1y (by omega)
  have lt := RT_lt a.1 a.2 h3
  have pk0 := hr4y (by omega)
  have b := hr70y (by omega)
  have bl := b.1.1
  first | (exfalso; omega) | exact ⟨none, numX a.1 a.2 (by omega) h3, by show (-1 : Int32).toInt ≤ _; omega⟩ | exact ⟨none, numY (e1 := x69.toInt) (e3 := x69.toInt) a.1 a.2 (by omega) (by omega) (by first | exact b.1.2 _ (Int.le_refl _) (by omega)) (by omega) (by omega) b.1 b.2 (by omega) h3, by show (-1 : Int32).toInt ≤ _; omega⟩
-- pre:X4_digits@53 @53
theorem vX4_number_61 (κ : KS) (k0 : Int32) (r1 : Int32) (x2 : Int32) (r4 : Int32) (x69 : Int32) (r70 : Int32) (x71 : Int32) (hpre_0 : L9 (κ.2.2.1 9)) (hpre_1 : 0 ≤ (κ.1 6).toInt) (hpre_2 : (κ.1 6).toInt ≤ 40) (hpre_5 : 0 ≤ k0.toInt) (hpre_6 : k0.toInt ≤ 40) (hr1_0 : k0.toInt ≤ r1.toInt) (hr1_1 : r1.toInt ≤ max k0.toInt (κ.1 6).toInt) (ex2 : x2 = r1 - k0) (tx2 : x2.toInt = r1.toInt - k0.toInt) (c3 : x2.toInt ≤ 6) (hr4_0 : 0 ≤ r4.toInt) (hr4_1 : r4.toInt ≤ 126) (hr4_2 : ¬ r4.toInt = 0 → 0 ≤ r1.toInt ∧ r1.toInt < (κ.1 6).toInt) (c5 : r4.toInt = 46) (ex69 : x69 = r1 + (1 : Int32)) (tx69 : x69.toInt = r1.toInt + 1) (hr70_0 : x69.toInt ≤ r70.toInt) (hr70_1 : r70.toInt ≤ max x69.toInt (κ.1 6).toInt) (ex71 : x71 = r1 + (1 : Int32)) (tx71 : x71.toInt = r1.toInt + 1) (c72 : r70.toInt ≤ x71.toInt) : L9 (κ.2.2.1 9) ∧ 0 ≤ k0.toInt ∧ r1.toInt ≤ 41 := by
  have q1 : (1 : Int32).toInt = 1 := by decide +kernel
  refine ⟨?_, ?_, ?_⟩ <;> first | assumption | omega | (subst_vars; omega) | trivial
-- post @63
theorem vX4_number_62 (κ : KS) (k0 : Int32) (r1 : Int32) (x2 : Int32) (r4 : Int32) (x69 : Int32) (r70 : Int32) (x71 : Int32) (n129 : Int32) (hpre_1 : 0 ≤ (κ.1 6).toInt) (hpre_2 : (κ.1 6).toInt ≤ 40) (hpre_5 : 0 ≤ k0.toInt) (hpre_6 : k0.toInt ≤ 40) (hr1_0 : k0.toInt ≤ r1.toInt) (hr1_1 : r1.toInt ≤ max k0.toInt (κ.1 6).toInt) (ex2 : x2 = r1 - k0) (tx2 : x2.toInt = r1.toInt - k0.toInt) (c3 : x2.toInt ≤ 6) (hr4_0 : 0 ≤ r4.toInt) (hr4_1 : r4.toInt ≤ 126) (hr4_2 : ¬ r4.toInt = 0 → 0 ≤ r1.toInt ∧ r1.toInt < (κ.1 6).toInt) (c5 : r4.toInt = 46) (ex69 : x69 = r1 + (1 : Int32)) (tx69 : x69.toInt = r1.toInt + 1) (hr70_0 : x69.toInt ≤ r70.toInt) (hr70_1 : r70.toInt ≤ max x69.toInt (κ.1 6).toInt) (ex71 : x71 = r1 + (1 : Int32)) (tx71 : x71.toInt = r1.toInt + 1) (c72 : r70.toInt ≤ x71.toInt) (hr128_1_0 : 0 ≤ n129.toInt) (hr128_1_1 : n129.toInt ≤ 41) : 0 ≤ n129.toInt ∧ n129.toInt ≤ 41 ∧ r1.toInt ≤ 40 := by
  have q1 : (1 : Int32).toInt = 1 := by decide +kernel
  refine ⟨?_, ?_, ?_⟩ <;> first | assumption | omega | (subst_vars; omega) | trivial
-- post2 @63
theorem vX4_number_63 (κ : KS) (k0 : Int32) (r1 : Int32) (x2 : Int32) (r4 : Int32) (x69 : Int32) (r70 : Int32) (x71 : Int32) (n129 : Int32) (F130 : (Nat → Int32)) (F131 : (Nat → Int32)) (F132 : (Nat → Int32)) (hpre_0 : L9 (κ.2.2.1 9)) (hpre_1 : 0 ≤ (κ.1 6).toInt) (hpre_2 : (κ.1 6).toInt ≤ 40) (hpre_3 : 0 ≤ (κ.1 7).toInt) (hpre_4 : (κ.1 7).toInt ≤ 41) (hpre_5 : 0 ≤ k0.toInt) (hpre_6 : k0.toInt ≤ 40) (hr1y : (κ.1 6).toInt ≤ 40 → RT dg (tx (κ.2.2.1 9) (κ.1 6)) k0.toInt r1.toInt ∧ ¬ dg (tx (κ.2.2.1 9) (κ.1 6) r1.toInt)) (hr1_0 : k0.toInt ≤ r1.toInt) (hr1_1 : r1.toInt ≤ max k0.toInt (κ.1 6).toInt) (ex2 : x2 = r1 - k0) (tx2 : x2.toInt = r1.toInt - k0.toInt) (c3 : x2.toInt ≤ 6) (hr4y : (κ.1 6).toInt ≤ 40 → r4.toInt = tx (κ.2.2.1 9) (κ.1 6) r1.toInt) (hr4_0 : 0 ≤ r4.toInt) (hr4_1 : r4.toInt ≤ 126) (hr4_2 : ¬ r4.toInt = 0 → 0 ≤ r1.toInt ∧ r1.toInt < (κ.1 6).toInt) (c5 : r4.toInt = 46) (ex69 : x69 = r1 + (1 : Int32)) (tx69 : x69.toInt = r1.toInt + 1) (hr70y : (κ.1 6).toInt ≤ 40 → RT dg (tx (κ.2.2.1 9) (κ.1 6)) x69.toInt r70.toInt ∧ ¬ dg (tx (κ.2.2.1 9) (κ.1 6) r70.toInt)) (hr70_0 : x69.toInt ≤ r70.toInt) (hr70_1 : r70.toInt ≤ max x69.toInt (κ.1 6).toInt) (ex71 : x71 = r1 + (1 : Int32)) (tx71 : x71.toInt = r1.toInt + 1) (c72 : r70.toInt ≤ x71.toInt) (hr128y : (κ.1 7).toInt < 41 → ADc (κ.2.2.1 10) (κ.2.2.1 11) (κ.2.2.1 12) (κ.1 7) F130 F131 F132 n129 (1 : Int32) k0 (0 : Int32)) (hr128_1_0 : 0 ≤ n129.toInt) (hr128_1_1 : n129.toInt ≤ 41) : (κ.1 7).toInt ≤ k0.toInt → k0.toInt < (κ.1 6).toInt → dg (tx (κ.2.2.1 9) (κ.1 6) k0.toInt) → ∃ t9, TokR (tx (κ.2.2.1 9) (κ.1 6)) (κ.1 6).toInt k0.toInt t9 ∧ LXc (κ.2.2.1 10) (κ.2.2.1 11) (κ.2.2.1 12) (κ.1 7) F130 F131 F132 n129 k0.toInt r1.toInt t9 := by
  have q0 : (0 : Int32).toInt = 0 := by decide +kernel
  have q1 : (1 : Int32).toInt = 1 := by decide +kernel
  intro h1 h2 h3
  have a := hr1y (by omega)
  have lt := RT_lt a.1 a.2 h3
  have pk0 := hr4y (by omega)
  have b := hr70y (by omega)
  have bl := b.1.1
  first
  | (exfalso; omega)
  | (have z9 : tx (κ.2.2.1 9) (κ.1 6) r70.toInt = tx (κ.2.2.1 9) (κ.1 6) x69.toInt := by rw [show r70.toInt = x69.toInt by omega]
     have b2 := b.2
     exact ⟨_, numN (e1 := x69.toInt) a.1 a.2 (by omega) (by omega) (by omega) h3, LXc.add (hr128y (by omega)) rfl (by omega) (by omega) (by first | rfl | omega) rfl⟩)
  | exact ⟨_, numF (e1 := x69.toInt) (e3 := x69.toInt) a.1 a.2 (by omega) (by omega) (b.1.2 _ (Int.le_refl _) (by omega)) (by omega) (by omega) b.1 b.2 (by omega) h3, LXc.add (hr128y (by omega)) rfl (by omega) (by omega) (by first | rfl | omega) rfl⟩
-- post2 @15
theorem vX4_number_64 (κ : KS) (k0 : Int32) (r1 : Int32) (x2 : Int32) (hpre_0 : L9 (κ.2.2.1 9)) (hpre_1 : 0 ≤ (κ.1 6).toInt) (hpre_2 : (κ.1 6).toInt ≤ 40) (hpre_3 : 0 ≤ (κ.1 7).toInt) (hpre_4 : (κ.1 7).toInt ≤ 41) (hpre_5 : 0 ≤ k0.toInt) (hpre_6 : k0.toInt ≤ 40) (hr1y : (κ.1 6).toInt ≤ 40 → RT dg (tx (κ.2.2.1 9) (κ.1 6)) k0.toInt r1.toInt ∧ ¬ dg (tx (κ.2.2.1 9) (κ.1 6) r1.toInt)) (hr1_0 : k0.toInt ≤ r1.toInt) (hr1_1 : r1.toInt ≤ max k0.toInt (κ.1 6).toInt) (ex2 : x2 = r1 - k0) (tx2 : x2.toInt = r1.toInt - k0.toInt) (c3 : 6 < x2.toInt) : (κ.1 7).toInt ≤ k0.toInt → k0.toInt < (κ.1 6).toInt → dg (tx (κ.2.2.1 9) (κ.1 6) k0.toInt) → ∃ t9, TokR (tx (κ.2.2.1 9) (κ.1 6)) (κ.1 6).toInt k0.toInt t9 ∧ LXc (κ.2.2.1 10) (κ.2.2.1 11) (κ.2.2.1 12) (κ.1 7) (κ.2.2.1 10) (κ.2.2.1 11) (κ.2.2.1 12) (κ.1 7) k0.toInt (-1 : Int32).toInt t9 := by
  have qm1 : (-1 : Int32).toInt = (-1) := by decide +kernel
  intro h1 h2 h3
  have a := hr1y (by omega)
  have lt := RT_lt a.1 a.2 h3
  first | (exfalso; omega) | exact ⟨none, numX a.1 a.2 (by omega) h3, by show (-1 : Int32).toInt ≤ _; omega⟩
set_option maxHeartbeats 4000000 in
set_option maxRecDepth 100000 in
theorem NX4_number (l : Launch) (D : va_G) (cy : Nat → ClassId) (ad : Nat → Nat) (A : Nat → Prop) (sz0 : Nat) (sa : Nat → Nat)  (κ : KS) (sz sl : Nat) (hAF : ∀ q, A q → Fr sz0 q) (hAn : ∀ q : Nat, sz ≤ q → A q) (k0 : Int32) (hPV : PV sa κ.2.2.2.2) (hSV : SV ad κ.2.2.2.2 (κ.2.1 0) (κ.2.1 1) (κ.2.2.2.1 6) (κ.2.2.2.1 7) (κ.2.2.2.1 8) (κ.2.2.2.1 13) (κ.2.2.2.1 15) (κ.2.2.2.1 17) (κ.1 1).toInt) (hpre : L9 (κ.2.2.1 9) ∧ 0 ≤ (κ.1 6).toInt ∧ (κ.1 6).toInt ≤ 40 ∧ 0 ≤ (κ.1 7).toInt ∧ (κ.1 7).toInt ≤ 41 ∧ 0 ≤ k0.toInt ∧ k0.toInt ≤ 40) : Met l yX4_number (Cond.code yX4_number cX4_number 9 (some .int) :: GWc) ({ frames := 3, cells := 1, slots := 5, locals := 67 }) (PcC D cy ad A sz0 sa [.ref (ad 2), .int k0] κ sz sl) (va_Qi (fun (r : Int32) (u : PL × Int32 × (Nat → Int32) × (Nat → Int32) × (Nat → Int32) × (Nat → Option Nat)) => ((EX κ.2.2.2.2 u.1) ∧ (PV sa u.1) ∧ (SV ad u.1 (κ.2.1 0) (κ.2.1 1) (κ.2.2.2.1 6) (κ.2.2.2.1 7) (κ.2.2.2.1 8) u.2.2.2.2.2 (κ.2.2.2.1 15) (κ.2.2.2.1 17) (κ.1 1).toInt) ∧ (0 ≤ u.2.1.toInt ∧ u.2.1.toInt ≤ 41 ∧ r.toInt ≤ 40)) ∧ ((κ.1 7).toInt ≤ k0.toInt → k0.toInt < (κ.1 6).toInt → dg (tx (κ.2.2.1 9) (κ.1 6) k0.toInt) → ∃ t9, TokR (tx (κ.2.2.1 9) (κ.1 6)) (κ.1 6).toInt k0.toInt t9 ∧ LXc (κ.2.2.1 10) (κ.2.2.1 11) (κ.2.2.1 12) (κ.1 7) u.2.2.1 u.2.2.2.1 u.2.2.2.2.1 u.2.1 k0.toInt r.toInt t9)) (fun (u : PL × Int32 × (Nat → Int32) × (Nat → Int32) × (Nat → Int32) × (Nat → Option Nat)) (t : State) => Bx D cy ad A sz sl (tQ (tA (tA (tA (tI (tP κ u.1) 7 u.2.1) 10 u.2.2.1) 11 u.2.2.2.1) 12 u.2.2.2.2.1) 13 u.2.2.2.2.2) (1) (5) t) A) (1) (5) A := by
  refine CM_of (loc0 := [(0, .ref (ad 2)), (1, .int k0)]) (own := RX4) (nm := "number") (by decide) rfl rfl rfl (Nat.le_of_ble_eq_true rfl) hAF hAn ?_
  intro p e s m below meth c ls hsz hsl C hP hS hl
  obtain ⟨hpre_0, hpre_1, hpre_2, hpre_3, hpre_4, hpre_5, hpre_6⟩ := hpre
  refine lv_aload_n C.x C.b dX4_number_0 rfl (lv_at hl 0 rfl) ?_
  refine lv_iload_n C.x C.b dX4_number_1 rfl (lv_at hl 1 rfl) ?_
  refine c_callVi (n := 1) (As := [.int k0]) (rest := []) C hP hS hl.1 (NX4_endOfDigits l D cy ad A sz0 sa κ s.heap.size (SLT s.heap) C.f (fun q h => C.a q (Nat.le_trans hS.1 h)) k0 (vX4_number_1 κ k0 hpre_0 hpre_1 hpre_2 hpre_5 hpre_6)) ⟨cw_500, cw_503, by decide +kernel⟩ ⟨cw_501, cw_502, cw_484⟩ rfl (hP.recvS (k := 2) (ci := 6) C.K rfl rfl) rfl rfl (lv_room (Nat.le_of_ble_eq_true rfl)) ⟨Nat.le_of_ble_eq_true rfl, Nat.le_of_ble_eq_true rfl⟩ ⟨(Nat.le_of_ble_eq_true rfl), (Nat.le_of_ble_eq_true rfl)⟩ dX4_number_2 (fun r1 u H locs hr1 hP hS => ?_)
  obtain ⟨hr1, hr1y⟩ := hr1
  have hr1y : (κ.1 6).toInt ≤ 40 → RT dg (tx (κ.2.2.1 9) (κ.1 6)) k0.toInt r1.toInt ∧ ¬ dg (tx (κ.2.2.1 9) (κ.1 6) r1.toInt) := hr1y
  have hr1 : (k0.toInt ≤ r1.toInt ∧ r1.toInt ≤ max k0.toInt (κ.1 6).toInt) := hr1
  obtain ⟨hr1_0, hr1_1⟩ := hr1
  refine lv_istore_n (lv' := [(2, .int r1), (0, .ref (ad 2)), (1, .int k0)]) C.x C.b dX4_number_5 rfl hl (by decide) rfl (fun ls hl => ?_)
  refine lv_iload_n C.x C.b dX4_number_6 rfl (lv_at hl 0 rfl) ?_
  refine lv_iload_n C.x C.b dX4_number_7 rfl (lv_at hl 2 rfl) ?_
  refine lv_isub C.x C.b dX4_number_8 ?_
  refine lv_topi (fun x2 ex2 => ?_)
  have tx2 : x2.toInt = r1.toInt - k0.toInt := (vX4_number_2 κ k0 r1 x2 hpre_1 hpre_2 hpre_5 hpre_6 hr1_0 hr1_1 ex2)
  refine lv_bipush (v := 6) C.x C.b dX4_number_9 (by decide +kernel) ?_
  refine lv_icmp_le (tgt := 16) C.x C.b dX4_number_11 (by decide) (fun c3 => ?_) (fun c3 => ?_)
  · have c3 : x2.toInt ≤ 6 := by have h := z_le c3; rw [show (6 : Int32).toInt = 6 from by decide +kernel] at h; exact h
    refine lv_aload_n C.x C.b dX4_number_16 rfl (lv_at hl 1 rfl) ?_
    refine lv_iload_n C.x C.b dX4_number_17 rfl (lv_at hl 0 rfl) ?_
    refine c_callVi (n := 1) (As := [.int r1]) (rest := []) C hP hS hl.1 (NX4_peek l D cy ad A sz0 sa κ H.size (SLT H) C.f (fun q h => C.a q (Nat.le_trans hS.1 h)) r1 (vX4_number_3 κ hpre_0)) ⟨cw_481, cw_485, by decide +kernel⟩ ⟨cw_482, cw_483, cw_484⟩ rfl (hP.recvS (k := 2) (ci := 6) C.K rfl rfl) rfl rfl (lv_room (Nat.le_of_ble_eq_true rfl)) ⟨Nat.le_of_ble_eq_true rfl, Nat.le_of_ble_eq_true rfl⟩ ⟨(Nat.le_of_ble_eq_true rfl), (Nat.le_of_ble_eq_true rfl)⟩ dX4_number_18 (fun r4 u H locs hr4 hP hS => ?_)
    obtain ⟨hr4, hr4y⟩ := hr4
    have hr4y : (κ.1 6).toInt ≤ 40 → r4.toInt = tx (κ.2.2.1 9) (κ.1 6) r1.toInt := hr4y
    have hr4 : (0 ≤ r4.toInt ∧ r4.toInt ≤ 126 ∧ (¬ r4.toInt = 0 → 0 ≤ r1.toInt ∧ r1.toInt < (κ.1 6).toInt)) := hr4
    obtain ⟨hr4_0, hr4_1, hr4_2⟩ := hr4
    refine lv_bipush (v := 46) C.x C.b dX4_number_21 (by decide +kernel) ?_
    refine lv_icmp_ne (tgt := 36) C.x C.b dX4_number_23 (by decide) (fun c5 => ?_) (fun c5 => ?_)
    · have c5 : ¬ r4.toInt = 46 := by have h := z_ne c5; rw [show (46 : Int32).toInt = 46 from by decide +kernel] at h; exact h
      refine lv_iload_n C.x C.b dX4_number_36 rfl (lv_at hl 0 rfl) ?_
      refine lv_istore_n (lv' := [(3, .int r1), (2, .int r1), (0, .ref (ad 2)), (1, .int k0)]) C.x C.b dX4_number_37 rfl hl (by decide) rfl (fun ls hl => ?_)
      refine lv_iload_n C.x C.b dX4_number_38 rfl (lv_at hl 0 rfl) ?_
      refine lv_iload_n C.x C.b dX4_number_39 rfl (lv_at hl 1 rfl) ?_
      refine lv_iconst (v := 1) C.x C.b dX4_number_40 (by decide +kernel) ?_
      refine lv_iadd C.x C.b dX4_number_41 ?_
      refine lv_topi (fun x6 ex6 => ?_)
      have tx6 : x6.toInt = r1.toInt + 1 := (vX4_number_4 κ k0 r1 x2 r4 x6 hpre_1 hpre_2 hpre_5 hpre_6 hr1_0 hr1_1 ex2 tx2 c3 hr4_0 hr4_1 hr4_2 c5 ex6)
      refine lv_icmp_gt (tgt := 64) C.x C.b dX4_number_42 (by decide) (fun c7 => ?_) (fun c7 => ?_)
      · have c7 : x6.toInt < r1.toInt := by have h := z_lt c7; exact h
        refine lv_iload_n C.x C.b dX4_number_64 rfl (lv_at hl 0 rfl) ?_
        refine lv_iload_n C.x C.b dX4_number_65 rfl (lv_at hl 1 rfl) ?_
        refine lv_isub C.x C.b dX4_number_66 ?_
        refine lv_topi (fun x8 ex8 => ?_)
        have tx8 : x8.toInt = r1.toInt - r1.toInt := (vX4_number_5 κ k0 r1 x2 r4 x6 x8 hpre_1 hpre_2 hpre_5 hpre_6 hr1_0 hr1_1 ex2 tx2 c3 hr4_0 hr4_1 hr4_2 c5 ex6 tx6 c7 ex8)
        refine lv_iconst (v := 1) C.x C.b dX4_number_67 (by decide +kernel) ?_
        refine lv_isub C.x C.b dX4_number_68 ?_
        refine lv_topi (fun x9 ex9 => ?_)
        have tx9 : x9.toInt = x8.toInt - 1 := (vX4_number_6 κ k0 r1 x2 r4 x6 x8 x9 hpre_1 hpre_2 hpre_5 hpre_6 hr1_0 hr1_1 ex2 tx2 c3 hr4_0 hr4_1 hr4_2 c5 ex6 tx6 c7 ex8 tx8 ex9)
        refine lv_istore (lv' := [(4, .int x9), (3, .int r1), (2, .int r1), (0, .ref (ad 2)), (1, .int k0)]) C.x C.b dX4_number_69 hl (by decide) rfl (fun ls hl => ?_)
        refine lv_iload C.x C.b dX4_number_71 (lv_at hl 0 rfl) ?_
        refine lv_iconst (v := 3) C.x C.b dX4_number_73 (by decide +kernel) ?_
        refine lv_icmp_le (tgt := 79) C.x C.b dX4_number_74 (by decide) (fun c10 => ?_) (fun c10 => ?_)
        · have c10 : x9.toInt ≤ 3 := by have h := z_le c10; rw [show (3 : Int32).toInt = 3 from by decide +kernel] at h; exact h
          refine lv_iload C.x C.b dX4_number_79 (lv_at hl 0 rfl) ?_
          refine lv_iconst (v := 1) C.x C.b dX4_number_81 (by decide +kernel) ?_
          refine lv_icmp_ne (tgt := 91) C.x C.b dX4_number_82 (by decide) (fun c11 => ?_) (fun c11 => ?_)
          · have c11 : ¬ x9.toInt = 1 := by have h := z_ne c11; rw [show (1 : Int32).toInt = 1 from by decide +kernel] at h; exact h
            refine lv_iload C.x C.b dX4_number_91 (lv_at hl 0 rfl) ?_
            refine lv_iconst (v := 2) C.x C.b dX4_number_93 (by decide +kernel) ?_
            refine lv_icmp_ne (tgt := 103) C.x C.b dX4_number_94 (by decide) (fun c12 => ?_) (fun c12 => ?_)
            · have c12 : ¬ x9.toInt = 2 := by have h := z_ne c12; rw [show (2 : Int32).toInt = 2 from by decide +kernel] at h; exact h
              refine lv_ldc2d (v := 4652007308841189376) C.x C.b C.o (C.w _ cw_499) dX4_number_103 ?_
              refine lv_dstore (lv' := [(5, .double (4652007308841189376 : UInt64)), (4, .int x9), (3, .int r1), (2, .int r1), (0, .ref (ad 2)), (1, .int k0)]) C.x C.b dX4_number_106 hl (by decide) rfl (fun ls hl => ?_)
              refine lv_aload_n C.x C.b dX4_number_108 rfl (lv_at hl 4 rfl) ?_
              refine lv_iload_n C.x C.b dX4_number_109 rfl (lv_at hl 3 rfl) ?_
              refine lv_iconst (v := 1) C.x C.b dX4_number_110 (by decide +kernel) ?_
              refine lv_iadd C.x C.b dX4_number_111 ?_
              refine lv_topi (fun x13 ex13 => ?_)
              have tx13 : x13.toInt = r1.toInt + 1 := (vX4_number_7 κ k0 r1 x2 r4 x6 x8 x9 x13 hpre_1 hpre_2 hpre_5 hpre_6 hr1_0 hr1_1 ex2 tx2 c3 hr4_0 hr4_1 hr4_2 c5 ex6 tx6 c7 ex8 tx8 ex9 tx9 c10 c11 c12 ex13)
              refine lv_iload_n C.x C.b dX4_number_112 rfl (lv_at hl 2 rfl) ?_
              refine lv_aload_n C.x C.b dX4_number_113 rfl (lv_at hl 4 rfl) ?_
              refine lv_iload_n C.x C.b dX4_number_114 rfl (lv_at hl 5 rfl) ?_
              refine lv_iload_n C.x C.b dX4_number_115 rfl (lv_at hl 3 rfl) ?_
              refine lv_iconst (v := 0) C.x C.b dX4_number_116 (by decide +kernel) ?_
              refine c_callVi (n := 3) (As := [.int k0, .int r1, .int 0]) (rest := [.int r1, .int x13, .ref (ad 2)]) C hP hS hl.1 (NX4_digits l D cy ad A sz0 sa κ H.size (SLT H) C.f (fun q h => C.a q (Nat.le_trans hS.1 h)) k0 r1 (0 : Int32) (vX4_number_8 κ k0 r1 x2 r4 x6 x8 x9 x13 hpre_0 hpre_1 hpre_2 hpre_5 hpre_6 hr1_0 hr1_1 ex2 tx2 c3 hr4_0 hr4_1 hr4_2 c5 ex6 tx6 c7 ex8 tx8 ex9 tx9 c10 c11 c12 ex13 tx13)) ⟨cw_504, cw_507, by decide +kernel⟩ ⟨cw_505, cw_506, cw_484⟩ rfl (hP.recvS (k := 2) (ci := 6) C.K rfl rfl) rfl rfl (lv_room (Nat.le_of_ble_eq_true rfl)) ⟨Nat.le_of_ble_eq_true rfl, Nat.le_of_ble_eq_true rfl⟩ ⟨(Nat.le_of_ble_eq_true rfl), (Nat.le_of_ble_eq_true rfl)⟩ dX4_number_117 (fun r14 u H locs hr14 hP hS => ?_)
              have hr14 : True := hr14
              refine c_callVi (n := 3) (As := [.int x13, .int r1, .int r14]) (rest := []) C hP hS hl.1 (NX4_digits l D cy ad A sz0 sa κ H.size (SLT H) C.f (fun q h => C.a q (Nat.le_trans hS.1 h)) x13 r1 r14 (vX4_number_9 κ k0 r1 x2 r4 x6 x8 x9 x13 hpre_0 hpre_1 hpre_2 hpre_5 hpre_6 hr1_0 hr1_1 ex2 tx2 c3 hr4_0 hr4_1 hr4_2 c5 ex6 tx6 c7 ex8 tx8 ex9 tx9 c10 c11 c12 ex13 tx13)) ⟨cw_504, cw_507, by decide +kernel⟩ ⟨cw_505, cw_506, cw_484⟩ rfl (hP.recvS (k := 2) (ci := 6) C.K rfl rfl) rfl rfl (lv_room (Nat.le_of_ble_eq_true rfl)) ⟨Nat.le_of_ble_eq_true rfl, Nat.le_of_ble_eq_true rfl⟩ ⟨(Nat.le_of_ble_eq_true rfl), (Nat.le_of_ble_eq_true rfl)⟩ dX4_number_120 (fun r15 u H locs hr15 hP hS => ?_)
              have hr15 : True := hr15
              refine lv_i2d C.x C.b dX4_number_123 ?_
              refine lv_topd (fun x16 ex16 => ?_)
              have fx16 : FN x16 := by rw [ex16]; exact fp_i2d _
              refine lv_dstore (lv' := [(7, .double x16), (5, .double (4652007308841189376 : UInt64)), (4, .int x9), (3, .int r1), (2, .int r1), (0, .ref (ad 2)), (1, .int k0)]) C.x C.b dX4_number_124 hl (by decide) rfl (fun ls hl => ?_)
              refine lv_aload_n C.x C.b dX4_number_126 rfl (lv_at hl 5 rfl) ?_
              refine lv_iconst (v := 1) C.x C.b dX4_number_127 (by decide +kernel) ?_
              refine lv_iload_n C.x C.b dX4_number_128 rfl (lv_at hl 6 rfl) ?_
              refine lv_iconst (v := 0) C.x C.b dX4_number_129 (by decide +kernel) ?_
              refine lv_dload C.x C.b dX4_number_130 (lv_at hl 0 rfl) ?_
              refine lv_dload C.x C.b dX4_number_132 (lv_at hl 1 rfl) ?_
              refine lv_ddiv C.x C.b dX4_number_134 (vX4_number_10 r15 x16 ex16 fx16) ?_
              refine lv_topd (fun x17 ex17 => ?_)
              refine c_callSq (C2 := "") (b := 0) (n := 1) (As := [.double x17]) (rest := [.int 0, .int k0, .int 1, .ref (ad 2)]) C hP hS hl.1 (NX10_ofReal l D cy ad A sz0 sa κ H.size (SLT H) C.f (fun q h => C.a q (Nat.le_trans hS.1 h)) x17 hPV (vX4_number_11 r15 x16 x17 ex16 fx16 ex17)) ⟨cw_513, cw_143, by decide +kernel⟩ ⟨cw_142, cw_40⟩ rfl rfl (lv_room (Nat.le_of_ble_eq_true rfl)) ⟨Nat.le_of_ble_eq_true rfl, Nat.le_of_ble_eq_true rfl⟩ ⟨(Nat.le_of_ble_eq_true rfl), (Nat.le_of_ble_eq_true rfl)⟩ dX4_number_135 (fun r18 u H locs hr18 hP hS => ?_)
              obtain ⟨P19, rfl⟩ : ∃ z, z = u := ⟨_, rfl⟩
              have hP : CH D cy ad A (tP κ P19) H := hP
              have hr18 : (EX κ.2.2.2.2 P19) ∧ (PV sa P19) ∧ (NN P19 1 r18) := hr18
              obtain ⟨hr18_0, hr18_1, hr18_2⟩ := hr18
              obtain ⟨b20, rfl, tb20⟩ := hr18_2
              have svz21 : SV ad P19 (κ.2.1 0) (κ.2.1 1) (κ.2.2.2.1 6) (κ.2.2.2.1 7) (κ.2.2.2.1 8) (κ.2.2.2.1 13) (κ.2.2.2.1 15) (κ.2.2.2.1 17) (κ.1 1).toInt := hSV.ex hr18_0
              refine c_callVv (n := 4) (As := [.int 1, .int k0, .int 0, .ref b20]) (rest := []) C hP hS hl.1 (NX4_add l D cy ad A sz0 sa (tP κ P19) H.size (SLT H) C.f (fun q h => C.a q (Nat.le_trans hS.1 h)) (1 : Int32) k0 (0 : Int32) (some b20) (nt_s tb20) svz21 (vX4_number_12 κ hpre_3 hpre_4)) ⟨cw_509, cw_512, by decide +kernel⟩ ⟨cw_510, cw_511, cw_484⟩ rfl (hP.recvS (k := 2) (ci := 6) C.K rfl rfl) rfl rfl (lv_room (Nat.le_of_ble_eq_true rfl)) ⟨Nat.le_of_ble_eq_true rfl, Nat.le_of_ble_eq_true rfl⟩ ⟨(Nat.le_of_ble_eq_true rfl), (Nat.le_of_ble_eq_true rfl)⟩ dX4_number_138 (fun u H locs hr22 hP hS => ?_)
              obtain ⟨n23, F24, F25, F26, Z27⟩ := u
              have hP : CH D cy ad A (tQ (tA (tA (tA (tI (tP κ P19) 7 n23) 10 F24) 11 F25) 12 F26) 13 Z27) H := hP
              obtain ⟨hr22, hr22y⟩ := hr22
              have hr22y : (κ.1 7).toInt < 41 → ADc (κ.2.2.1 10) (κ.2.2.1 11) (κ.2.2.1 12) (κ.1 7) F24 F25 F26 n23 (1 : Int32) k0 (0 : Int32) := hr22y
              have hr22 : (SV ad P19 (κ.2.1 0) (κ.2.1 1) (κ.2.2.2.1 6) (κ.2.2.2.1 7) (κ.2.2.2.1 8) Z27 (κ.2.2.2.1 15) (κ.2.2.2.1 17) (κ.1 1).toInt) ∧ (0 ≤ n23.toInt ∧ n23.toInt ≤ 41) := hr22
              obtain ⟨hr22_0, hr22_1⟩ := hr22
              obtain ⟨hr22_1_0, hr22_1_1⟩ := hr22_1
              refine lv_iload_n C.x C.b dX4_number_141 rfl (lv_at hl 3 rfl) ?_
              exact c_reti C hsz hsl ⟨P19, n23, F24, F25, F26, Z27⟩ ⟨⟨hr18_0, hr18_1, hr22_0, (vX4_number_13 κ k0 r1 x2 r4 x6 x8 x9 x13 n23 hpre_1 hpre_2 hpre_5 hpre_6 hr1_0 hr1_1 ex2 tx2 c3 hr4_0 hr4_1 hr4_2 c5 ex6 tx6 c7 ex8 tx8 ex9 tx9 c10 c11 c12 ex13 tx13 hr22_1_0 hr22_1_1)⟩, (vX4_number_14 κ k0 r1 x2 r4 x6 x8 x9 x13 r15 x16 x17 n23 F24 F25 F26 hpre_0 hpre_1 hpre_2 hpre_3 hpre_4 hpre_5 hpre_6 hr1y hr1_0 hr1_1 ex2 tx2 c3 hr4y hr4_0 hr4_1 hr4_2 c5 ex6 tx6 c7 ex8 tx8 ex9 tx9 c10 c11 c12 ex13 tx13 ex16 fx16 ex17 hr22y hr22_1_0 hr22_1_1)⟩ hP hS ⟨(Nat.le_of_ble_eq_true rfl), (Nat.le_of_ble_eq_true rfl)⟩ ⟨(Nat.le_of_ble_eq_true rfl), (Nat.le_of_ble_eq_true rfl)⟩ dX4_number_142
            · have c12 : x9.toInt = 2 := by have h := z_eq c12; rw [show (2 : Int32).toInt = 2 from by decide +kernel] at h; exact h
              refine lv_ldc2d (v := 4636737291354636288) C.x C.b C.o (C.w _ cw_498) dX4_number_97 ?_
              refine lv_goto (tgt := 106) C.x C.b dX4_number_100 (by decide) ?_
              refine lv_dstore (lv' := [(5, .double (4636737291354636288 : UInt64)), (4, .int x9), (3, .int r1), (2, .int r1), (0, .ref (ad 2)), (1, .int k0)]) C.x C.b dX4_number_106 hl (by decide) rfl (fun ls hl => ?_)
              refine lv_aload_n C.x C.b dX4_number_108 rfl (lv_at hl 4 rfl) ?_
              refine lv_iload_n C.x C.b dX4_number_109 rfl (lv_at hl 3 rfl) ?_
              refine lv_iconst (v := 1) C.x C.b dX4_number_110 (by decide +kernel) ?_
              refine lv_iadd C.x C.b dX4_number_111 ?_
              refine lv_topi (fun x28 ex28 => ?_)
              have tx28 : x28.toInt = r1.toInt + 1 := (vX4_number_15 κ k0 r1 x2 r4 x6 x8 x9 x28 hpre_1 hpre_2 hpre_5 hpre_6 hr1_0 hr1_1 ex2 tx2 c3 hr4_0 hr4_1 hr4_2 c5 ex6 tx6 c7 ex8 tx8 ex9 tx9 c10 c11 c12 ex28)
              refine lv_iload_n C.x C.b dX4_number_112 rfl (lv_at hl 2 rfl) ?_
              refine lv_aload_n C.x C.b dX4_number_113 rfl (lv_at hl 4 rfl) ?_
              refine lv_iload_n C.x C.b dX4_number_114 rfl (lv_at hl 5 rfl) ?_
              refine lv_iload_n C.x C.b dX4_number_115 rfl (lv_at hl 3 rfl) ?_
              refine lv_iconst (v := 0) C.x C.b dX4_number_116 (by decide +kernel) ?_
              refine c_callVi (n := 3) (As := [.int k0, .int r1, .int 0]) (rest := [.int r1, .int x28, .ref (ad 2)]) C hP hS hl.1 (NX4_digits l D cy ad A sz0 sa κ H.size (SLT H) C.f (fun q h => C.a q (Nat.le_trans hS.1 h)) k0 r1 (0 : Int32) (vX4_number_16 κ k0 r1 x2 r4 x6 x8 x9 x28 hpre_0 hpre_1 hpre_2 hpre_5 hpre_6 hr1_0 hr1_1 ex2 tx2 c3 hr4_0 hr4_1 hr4_2 c5 ex6 tx6 c7 ex8 tx8 ex9 tx9 c10 c11 c12 ex28 tx28)) ⟨cw_504, cw_507, by decide +kernel⟩ ⟨cw_505, cw_506, cw_484⟩ rfl (hP.recvS (k := 2) (ci := 6) C.K rfl rfl) rfl rfl (lv_room (Nat.le_of_ble_eq_true rfl)) ⟨Nat.le_of_ble_eq_true rfl, Nat.le_of_ble_eq_true rfl⟩ ⟨(Nat.le_of_ble_eq_true rfl), (Nat.le_of_ble_eq_true rfl)⟩ dX4_number_117 (fun r29 u H locs hr29 hP hS => ?_)
              have hr29 : True := hr29
              refine c_callVi (n := 3) (As := [.int x28, .int r1, .int r29]) (rest := []) C hP hS hl.1 (NX4_digits l D cy ad A sz0 sa κ H.size (SLT H) C.f (fun q h => C.a q (Nat.le_trans hS.1 h)) x28 r1 r29 (vX4_number_17 κ k0 r1 x2 r4 x6 x8 x9 x28 hpre_0 hpre_1 hpre_2 hpre_5 hpre_6 hr1_0 hr1_1 ex2 tx2 c3 hr4_0 hr4_1 hr4_2 c5 ex6 tx6 c7 ex8 tx8 ex9 tx9 c10 c11 c12 ex28 tx28)) ⟨cw_504, cw_507, by decide +kernel⟩ ⟨cw_505, cw_506, cw_484⟩ rfl (hP.recvS (k := 2) (ci := 6) C.K rfl rfl) rfl rfl (lv_room (Nat.le_of_ble_eq_true rfl)) ⟨Nat.le_of_ble_eq_true rfl, Nat.le_of_ble_eq_true rfl⟩ ⟨(Nat.le_of_ble_eq_true rfl), (Nat.le_of_ble_eq_true rfl)⟩ dX4_number_120 (fun r30 u H locs hr30 hP hS => ?_)
              have hr30 : True := hr30
              refine lv_i2d C.x C.b dX4_number_123 ?_
              refine lv_topd (fun x31 ex31 => ?_)
              have fx31 : FN x31 := by rw [ex31]; exact fp_i2d _
              refine lv_dstore (lv' := [(7, .double x31), (5, .double (4636737291354636288 : UInt64)), (4, .int x9), (3, .int r1), (2, .int r1), (0, .ref (ad 2)), (1, .int k0)]) C.x C.b dX4_number_124 hl (by decide) rfl (fun ls hl => ?_)
              refine lv_aload_n C.x C.b dX4_number_126 rfl (lv_at hl 5 rfl) ?_
              refine lv_iconst (v := 1) C.x C.b dX4_number_127 (by decide +kernel) ?_
              refine lv_iload_n C.x C.b dX4_number_128 rfl (lv_at hl 6 rfl) ?_
              refine lv_iconst (v := 0) C.x C.b dX4_number_129 (by decide +kernel) ?_
              refine lv_dload C.x C.b dX4_number_130 (lv_at hl 0 rfl) ?_
              refine lv_dload C.x C.b dX4_number_132 (lv_at hl 1 rfl) ?_
              refine lv_ddiv C.x C.b dX4_number_134 (vX4_number_18 r30 x31 ex31 fx31) ?_
              refine lv_topd (fun x32 ex32 => ?_)
              refine c_callSq (C2 := "") (b := 0) (n := 1) (As := [.double x32]) (rest := [.int 0, .int k0, .int 1, .ref (ad 2)]) C hP hS hl.1 (NX10_ofReal l D cy ad A sz0 sa κ H.size (SLT H) C.f (fun q h => C.a q (Nat.le_trans hS.1 h)) x32 hPV (vX4_number_19 r30 x31 x32 ex31 fx31 ex32)) ⟨cw_513, cw_143, by decide +kernel⟩ ⟨cw_142, cw_40⟩ rfl rfl (lv_room (Nat.le_of_ble_eq_true rfl)) ⟨Nat.le_of_ble_eq_true rfl, Nat.le_of_ble_eq_true rfl⟩ ⟨(Nat.le_of_ble_eq_true rfl), (Nat.le_of_ble_eq_true rfl)⟩ dX4_number_135 (fun r33 u H locs hr33 hP hS => ?_)
              obtain ⟨P34, rfl⟩ : ∃ z, z = u := ⟨_, rfl⟩
              have hP : CH D cy ad A (tP κ P34) H := hP
              have hr33 : (EX κ.2.2.2.2 P34) ∧ (PV sa P34) ∧ (NN P34 1 r33) := hr33
              obtain ⟨hr33_0, hr33_1, hr33_2⟩ := hr33
              obtain ⟨b35, rfl, tb35⟩ := hr33_2
              have svz36 : SV ad P34 (κ.2.1 0) (κ.2.1 1) (κ.2.2.2.1 6) (κ.2.2.2.1 7) (κ.2.2.2.1 8) (κ.2.2.2.1 13) (κ.2.2.2.1 15) (κ.2.2.2.1 17) (κ.1 1).toInt := hSV.ex hr33_0
              refine c_callVv (n := 4) (As := [.int 1, .int k0, .int 0, .ref b35]) (rest := []) C hP hS hl.1 (NX4_add l D cy ad A sz0 sa (tP κ P34) H.size (SLT H) C.f (fun q h => C.a q (Nat.le_trans hS.1 h)) (1 : Int32) k0 (0 : Int32) (some b35) (nt_s tb35) svz36 (vX4_number_12 κ hpre_3 hpre_4)) ⟨cw_509, cw_512, by decide +kernel⟩ ⟨cw_510, cw_511, cw_484⟩ rfl (hP.recvS (k := 2) (ci := 6) C.K rfl rfl) rfl rfl (lv_room (Nat.le_of_ble_eq_true rfl)) ⟨Nat.le_of_ble_eq_true rfl, Nat.le_of_ble_eq_true rfl⟩ ⟨(Nat.le_of_ble_eq_true rfl), (Nat.le_of_ble_eq_true rfl)⟩ dX4_number_138 (fun u H locs hr37 hP hS => ?_)
              obtain ⟨n38, F39, F40, F41, Z42⟩ := u
              have hP : CH D cy ad A (tQ (tA (tA (tA (tI (tP κ P34) 7 n38) 10 F39) 11 F40) 12 F41) 13 Z42) H := hP
              obtain ⟨hr37, hr37y⟩ := hr37
              have hr37y : (κ.1 7).toInt < 41 → ADc (κ.2.2.1 10) (κ.2.2.1 11) (κ.2.2.1 12) (κ.1 7) F39 F40 F41 n38 (1 : Int32) k0 (0 : Int32) := hr37y
              have hr37 : (SV ad P34 (κ.2.1 0) (κ.2.1 1) (κ.2.2.2.1 6) (κ.2.2.2.1 7) (κ.2.2.2.1 8) Z42 (κ.2.2.2.1 15) (κ.2.2.2.1 17) (κ.1 1).toInt) ∧ (0 ≤ n38.toInt ∧ n38.toInt ≤ 41) := hr37
              obtain ⟨hr37_0, hr37_1⟩ := hr37
              obtain ⟨hr37_1_0, hr37_1_1⟩ := hr37_1
              refine lv_iload_n C.x C.b dX4_number_141 rfl (lv_at hl 3 rfl) ?_
              exact c_reti C hsz hsl ⟨P34, n38, F39, F40, F41, Z42⟩ ⟨⟨hr33_0, hr33_1, hr37_0, (vX4_number_20 κ k0 r1 x2 r4 x6 x8 x9 x28 n38 hpre_1 hpre_2 hpre_5 hpre_6 hr1_0 hr1_1 ex2 tx2 c3 hr4_0 hr4_1 hr4_2 c5 ex6 tx6 c7 ex8 tx8 ex9 tx9 c10 c11 c12 ex28 tx28 hr37_1_0 hr37_1_1)⟩, (vX4_number_21 κ k0 r1 x2 r4 x6 x8 x9 x28 r30 x31 x32 n38 F39 F40 F41 hpre_0 hpre_1 hpre_2 hpre_3 hpre_4 hpre_5 hpre_6 hr1y hr1_0 hr1_1 ex2 tx2 c3 hr4y hr4_0 hr4_1 hr4_2 c5 ex6 tx6 c7 ex8 tx8 ex9 tx9 c10 c11 c12 ex28 tx28 ex31 fx31 ex32 hr37y hr37_1_0 hr37_1_1)⟩ hP hS ⟨(Nat.le_of_ble_eq_true rfl), (Nat.le_of_ble_eq_true rfl)⟩ ⟨(Nat.le_of_ble_eq_true rfl), (Nat.le_of_ble_eq_true rfl)⟩ dX4_number_142
          · have c11 : x9.toInt = 1 := by have h := z_eq c11; rw [show (1 : Int32).toInt = 1 from by decide +kernel] at h; exact h
            refine lv_ldc2d (v := 4621819117588971520) C.x C.b C.o (C.w _ cw_497) dX4_number_85 ?_
            refine lv_goto (tgt := 106) C.x C.b dX4_number_88 (by decide) ?_
            refine lv_dstore (lv' := [(5, .double (4621819117588971520 : UInt64)), (4, .int x9), (3, .int r1), (2, .int r1), (0, .ref (ad 2)), (1, .int k0)]) C.x C.b dX4_number_106 hl (by decide) rfl (fun ls hl => ?_)
            refine lv_aload_n C.x C.b dX4_number_108 rfl (lv_at hl 4 rfl) ?_
            refine lv_iload_n C.x C.b dX4_number_109 rfl (lv_at hl 3 rfl) ?_
            refine lv_iconst (v := 1) C.x C.b dX4_number_110 (by decide +kernel) ?_
            refine lv_iadd C.x C.b dX4_number_111 ?_
            refine lv_topi (fun x43 ex43 => ?_)
            have tx43 : x43.toInt = r1.toInt + 1 := (vX4_number_22 κ k0 r1 x2 r4 x6 x8 x9 x43 hpre_1 hpre_2 hpre_5 hpre_6 hr1_0 hr1_1 ex2 tx2 c3 hr4_0 hr4_1 hr4_2 c5 ex6 tx6 c7 ex8 tx8 ex9 tx9 c10 c11 ex43)
            refine lv_iload_n C.x C.b dX4_number_112 rfl (lv_at hl 2 rfl) ?_
            refine lv_aload_n C.x C.b dX4_number_113 rfl (lv_at hl 4 rfl) ?_
            refine lv_iload_n C.x C.b dX4_number_114 rfl (lv_at hl 5 rfl) ?_
            refine lv_iload_n C.x C.b dX4_number_115 rfl (lv_at hl 3 rfl) ?_
            refine lv_iconst (v := 0) C.x C.b dX4_number_116 (by decide +kernel) ?_
            refine c_callVi (n := 3) (As := [.int k0, .int r1, .int 0]) (rest := [.int r1, .int x43, .ref (ad 2)]) C hP hS hl.1 (NX4_digits l D cy ad A sz0 sa κ H.size (SLT H) C.f (fun q h => C.a q (Nat.le_trans hS.1 h)) k0 r1 (0 : Int32) (vX4_number_23 κ k0 r1 x2 r4 x6 x8 x9 x43 hpre_0 hpre_1 hpre_2 hpre_5 hpre_6 hr1_0 hr1_1 ex2 tx2 c3 hr4_0 hr4_1 hr4_2 c5 ex6 tx6 c7 ex8 tx8 ex9 tx9 c10 c11 ex43 tx43)) ⟨cw_504, cw_507, by decide +kernel⟩ ⟨cw_505, cw_506, cw_484⟩ rfl (hP.recvS (k := 2) (ci := 6) C.K rfl rfl) rfl rfl (lv_room (Nat.le_of_ble_eq_true rfl)) ⟨Nat.le_of_ble_eq_true rfl, Nat.le_of_ble_eq_true rfl⟩ ⟨(Nat.le_of_ble_eq_true rfl), (Nat.le_of_ble_eq_true rfl)⟩ dX4_number_117 (fun r44 u H locs hr44 hP hS => ?_)
            have hr44 : True := hr44
            refine c_callVi (n := 3) (As := [.int x43, .int r1, .int r44]) (rest := []) C hP hS hl.1 (NX4_digits l D cy ad A sz0 sa κ H.size (SLT H) C.f (fun q h => C.a q (Nat.le_trans hS.1 h)) x43 r1 r44 (vX4_number_24 κ k0 r1 x2 r4 x6 x8 x9 x43 hpre_0 hpre_1 hpre_2 hpre_5 hpre_6 hr1_0 hr1_1 ex2 tx2 c3 hr4_0 hr4_1 hr4_2 c5 ex6 tx6 c7 ex8 tx8 ex9 tx9 c10 c11 ex43 tx43)) ⟨cw_504, cw_507, by decide +kernel⟩ ⟨cw_505, cw_506, cw_484⟩ rfl (hP.recvS (k := 2) (ci := 6) C.K rfl rfl) rfl rfl (lv_room (Nat.le_of_ble_eq_true rfl)) ⟨Nat.le_of_ble_eq_true rfl, Nat.le_of_ble_eq_true rfl⟩ ⟨(Nat.le_of_ble_eq_true rfl), (Nat.le_of_ble_eq_true rfl)⟩ dX4_number_120 (fun r45 u H locs hr45 hP hS => ?_)
            have hr45 : True := hr45
            refine lv_i2d C.x C.b dX4_number_123 ?_
            refine lv_topd (fun x46 ex46 => ?_)
            have fx46 : FN x46 := by rw [ex46]; exact fp_i2d _
            refine lv_dstore (lv' := [(7, .double x46), (5, .double (4621819117588971520 : UInt64)), (4, .int x9), (3, .int r1), (2, .int r1), (0, .ref (ad 2)), (1, .int k0)]) C.x C.b dX4_number_124 hl (by decide) rfl (fun ls hl => ?_)
            refine lv_aload_n C.x C.b dX4_number_126 rfl (lv_at hl 5 rfl) ?_
            refine lv_iconst (v := 1) C.x C.b dX4_number_127 (by decide +kernel) ?_
            refine lv_iload_n C.x C.b dX4_number_128 rfl (lv_at hl 6 rfl) ?_
            refine lv_iconst (v := 0) C.x C.b dX4_number_129 (by decide +kernel) ?_
            refine lv_dload C.x C.b dX4_number_130 (lv_at hl 0 rfl) ?_
            refine lv_dload C.x C.b dX4_number_132 (lv_at hl 1 rfl) ?_
            refine lv_ddiv C.x C.b dX4_number_134 (vX4_number_25 r45 x46 ex46 fx46) ?_
            refine lv_topd (fun x47 ex47 => ?_)
            refine c_callSq (C2 := "") (b := 0) (n := 1) (As := [.double x47]) (rest := [.int 0, .int k0, .int 1, .ref (ad 2)]) C hP hS hl.1 (NX10_ofReal l D cy ad A sz0 sa κ H.size (SLT H) C.f (fun q h => C.a q (Nat.le_trans hS.1 h)) x47 hPV (vX4_number_26 r45 x46 x47 ex46 fx46 ex47)) ⟨cw_513, cw_143, by decide +kernel⟩ ⟨cw_142, cw_40⟩ rfl rfl (lv_room (Nat.le_of_ble_eq_true rfl)) ⟨Nat.le_of_ble_eq_true rfl, Nat.le_of_ble_eq_true rfl⟩ ⟨(Nat.le_of_ble_eq_true rfl), (Nat.le_of_ble_eq_true rfl)⟩ dX4_number_135 (fun r48 u H locs hr48 hP hS => ?_)
            obtain ⟨P49, rfl⟩ : ∃ z, z = u := ⟨_, rfl⟩
            have hP : CH D cy ad A (tP κ P49) H := hP
            have hr48 : (EX κ.2.2.2.2 P49) ∧ (PV sa P49) ∧ (NN P49 1 r48) := hr48
            obtain ⟨hr48_0, hr48_1, hr48_2⟩ := hr48
            obtain ⟨b50, rfl, tb50⟩ := hr48_2
            have svz51 : SV ad P49 (κ.2.1 0) (κ.2.1 1) (κ.2.2.2.1 6) (κ.2.2.2.1 7) (κ.2.2.2.1 8) (κ.2.2.2.1 13) (κ.2.2.2.1 15) (κ.2.2.2.1 17) (κ.1 1).toInt := hSV.ex hr48_0
            refine c_callVv (n := 4) (As := [.int 1, .int k0, .int 0, .ref b50]) (rest := []) C hP hS hl.1 (NX4_add l D cy ad A sz0 sa (tP κ P49) H.size (SLT H) C.f (fun q h => C.a q (Nat.le_trans hS.1 h)) (1 : Int32) k0 (0 : Int32) (some b50) (nt_s tb50) svz51 (vX4_number_12 κ hpre_3 hpre_4)) ⟨cw_509, cw_512, by decide +kernel⟩ ⟨cw_510, cw_511, cw_484⟩ rfl (hP.recvS (k := 2) (ci := 6) C.K rfl rfl) rfl rfl (lv_room (Nat.le_of_ble_eq_true rfl)) ⟨Nat.le_of_ble_eq_true rfl, Nat.le_of_ble_eq_true rfl⟩ ⟨(Nat.le_of_ble_eq_true rfl), (Nat.le_of_ble_eq_true rfl)⟩ dX4_number_138 (fun u H locs hr52 hP hS => ?_)
            obtain ⟨n53, F54, F55, F56, Z57⟩ := u
            have hP : CH D cy ad A (tQ (tA (tA (tA (tI (tP κ P49) 7 n53) 10 F54) 11 F55) 12 F56) 13 Z57) H := hP
            obtain ⟨hr52, hr52y⟩ := hr52
            have hr52y : (κ.1 7).toInt < 41 → ADc (κ.2.2.1 10) (κ.2.2.1 11) (κ.2.2.1 12) (κ.1 7) F54 F55 F56 n53 (1 : Int32) k0 (0 : Int32) := hr52y
            have hr52 : (SV ad P49 (κ.2.1 0) (κ.2.1 1) (κ.2.2.2.1 6) (κ.2.2.2.1 7) (κ.2.2.2.1 8) Z57 (κ.2.2.2.1 15) (κ.2.2.2.1 17) (κ.1 1).toInt) ∧ (0 ≤ n53.toInt ∧ n53.toInt ≤ 41) := hr52
            obtain ⟨hr52_0, hr52_1⟩ := hr52
            obtain ⟨hr52_1_0, hr52_1_1⟩ := hr52_1
            refine lv_iload_n C.x C.b dX4_number_141 rfl (lv_at hl 3 rfl) ?_
            exact c_reti C hsz hsl ⟨P49, n53, F54, F55, F56, Z57⟩ ⟨⟨hr48_0, hr48_1, hr52_0, (vX4_number_27 κ k0 r1 x2 r4 x6 x8 x9 x43 n53 hpre_1 hpre_2 hpre_5 hpre_6 hr1_0 hr1_1 ex2 tx2 c3 hr4_0 hr4_1 hr4_2 c5 ex6 tx6 c7 ex8 tx8 ex9 tx9 c10 c11 ex43 tx43 hr52_1_0 hr52_1_1)⟩, (vX4_number_28 κ k0 r1 x2 r4 x6 x8 x9 x43 r45 x46 x47 n53 F54 F55 F56 hpre_0 hpre_1 hpre_2 hpre_3 hpre_4 hpre_5 hpre_6 hr1y hr1_0 hr1_1 ex2 tx2 c3 hr4y hr4_0 hr4_1 hr4_2 c5 ex6 tx6 c7 ex8 tx8 ex9 tx9 c10 c11 ex43 tx43 ex46 fx46 ex47 hr52y hr52_1_0 hr52_1_1)⟩ hP hS ⟨(Nat.le_of_ble_eq_true rfl), (Nat.le_of_ble_eq_true rfl)⟩ ⟨(Nat.le_of_ble_eq_true rfl), (Nat.le_of_ble_eq_true rfl)⟩ dX4_number_142
        · have c10 : 3 < x9.toInt := by have h := z_nle c10; rw [show (3 : Int32).toInt = 3 from by decide +kernel] at h; exact h
          refine lv_iconst (v := (-1)) C.x C.b dX4_number_77 (by decide +kernel) ?_
          have hP : CH D cy ad A (tQ (tA (tA (tA (tI (tP κ κ.2.2.2.2) 7 (κ.1 7)) 10 (κ.2.2.1 10)) 11 (κ.2.2.1 11)) 12 (κ.2.2.1 12)) 13 (κ.2.2.2.1 13)) H := CH.cong hP rfl rfl rfl rfl rfl rfl rfl rfl rfl rfl rfl rfl rfl rfl rfl rfl rfl rfl rfl rfl rfl rfl rfl rfl rfl rfl rfl
          exact c_reti C hsz hsl ⟨κ.2.2.2.2, (κ.1 7), (κ.2.2.1 10), (κ.2.2.1 11), (κ.2.2.1 12), (κ.2.2.2.1 13)⟩ ⟨⟨EX.rf, hPV, hSV, (vX4_number_29 κ hpre_3 hpre_4)⟩, (vX4_number_30 κ k0 r1 x2 r4 x6 x8 x9 hpre_0 hpre_1 hpre_2 hpre_3 hpre_4 hpre_5 hpre_6 hr1y hr1_0 hr1_1 ex2 tx2 c3 hr4y hr4_0 hr4_1 hr4_2 c5 ex6 tx6 c7 ex8 tx8 ex9 tx9 c10)⟩ hP hS ⟨(Nat.le_of_ble_eq_true rfl), (Nat.le_of_ble_eq_true rfl)⟩ ⟨(Nat.le_of_ble_eq_true rfl), (Nat.le_of_ble_eq_true rfl)⟩ dX4_number_78
      · have c7 : r1.toInt ≤ x6.toInt := by have h := z_nlt c7; exact h
        refine lv_aload_n C.x C.b dX4_number_45 rfl (lv_at hl 2 rfl) ?_
        refine lv_iconst (v := 1) C.x C.b dX4_number_46 (by decide +kernel) ?_
        refine lv_iload_n C.x C.b dX4_number_47 rfl (lv_at hl 3 rfl) ?_
        refine lv_iconst (v := 0) C.x C.b dX4_number_48 (by decide +kernel) ?_
        refine lv_aload_n C.x C.b dX4_number_49 rfl (lv_at hl 2 rfl) ?_
        refine lv_iload_n C.x C.b dX4_number_50 rfl (lv_at hl 3 rfl) ?_
        refine lv_iload_n C.x C.b dX4_number_51 rfl (lv_at hl 1 rfl) ?_
        refine lv_iconst (v := 0) C.x C.b dX4_number_52 (by decide +kernel) ?_
        refine c_callVi (n := 3) (As := [.int k0, .int r1, .int 0]) (rest := [.int 0, .int k0, .int 1, .ref (ad 2)]) C hP hS hl.1 (NX4_digits l D cy ad A sz0 sa κ H.size (SLT H) C.f (fun q h => C.a q (Nat.le_trans hS.1 h)) k0 r1 (0 : Int32) (vX4_number_31 κ k0 r1 x2 r4 x6 hpre_0 hpre_1 hpre_2 hpre_5 hpre_6 hr1_0 hr1_1 ex2 tx2 c3 hr4_0 hr4_1 hr4_2 c5 ex6 tx6 c7)) ⟨cw_504, cw_507, by decide +kernel⟩ ⟨cw_505, cw_506, cw_484⟩ rfl (hP.recvS (k := 2) (ci := 6) C.K rfl rfl) rfl rfl (lv_room (Nat.le_of_ble_eq_true rfl)) ⟨Nat.le_of_ble_eq_true rfl, Nat.le_of_ble_eq_true rfl⟩ ⟨(Nat.le_of_ble_eq_true rfl), (Nat.le_of_ble_eq_true rfl)⟩ dX4_number_53 (fun r58 u H locs hr58 hP hS => ?_)
        have hr58 : True := hr58
        refine c_callSq (C2 := "") (b := 0) (n := 1) (As := [.int r58]) (rest := [.int 0, .int k0, .int 1, .ref (ad 2)]) C hP hS hl.1 (NX10_ofInt l D cy ad A sz0 sa κ H.size (SLT H) C.f (fun q h => C.a q (Nat.le_trans hS.1 h)) r58 hPV) ⟨cw_508, cw_97, by decide +kernel⟩ ⟨cw_96, cw_40⟩ rfl rfl (lv_room (Nat.le_of_ble_eq_true rfl)) ⟨Nat.le_of_ble_eq_true rfl, Nat.le_of_ble_eq_true rfl⟩ ⟨(Nat.le_of_ble_eq_true rfl), (Nat.le_of_ble_eq_true rfl)⟩ dX4_number_56 (fun r59 u H locs hr59 hP hS => ?_)
        obtain ⟨P60, rfl⟩ : ∃ z, z = u := ⟨_, rfl⟩
        have hP : CH D cy ad A (tP κ P60) H := hP
        have hr59 : (EX κ.2.2.2.2 P60) ∧ (PV sa P60) ∧ (NN P60 1 r59) := hr59
        obtain ⟨hr59_0, hr59_1, hr59_2⟩ := hr59
        obtain ⟨b61, rfl, tb61⟩ := hr59_2
        have svz62 : SV ad P60 (κ.2.1 0) (κ.2.1 1) (κ.2.2.2.1 6) (κ.2.2.2.1 7) (κ.2.2.2.1 8) (κ.2.2.2.1 13) (κ.2.2.2.1 15) (κ.2.2.2.1 17) (κ.1 1).toInt := hSV.ex hr59_0
        refine c_callVv (n := 4) (As := [.int 1, .int k0, .int 0, .ref b61]) (rest := []) C hP hS hl.1 (NX4_add l D cy ad A sz0 sa (tP κ P60) H.size (SLT H) C.f (fun q h => C.a q (Nat.le_trans hS.1 h)) (1 : Int32) k0 (0 : Int32) (some b61) (nt_s tb61) svz62 (vX4_number_12 κ hpre_3 hpre_4)) ⟨cw_509, cw_512, by decide +kernel⟩ ⟨cw_510, cw_511, cw_484⟩ rfl (hP.recvS (k := 2) (ci := 6) C.K rfl rfl) rfl rfl (lv_room (Nat.le_of_ble_eq_true rfl)) ⟨Nat.le_of_ble_eq_true rfl, Nat.le_of_ble_eq_true rfl⟩ ⟨(Nat.le_of_ble_eq_true rfl), (Nat.le_of_ble_eq_true rfl)⟩ dX4_number_59 (fun u H locs hr63 hP hS => ?_)
        obtain ⟨n64, F65, F66, F67, Z68⟩ := u
        have hP : CH D cy ad A (tQ (tA (tA (tA (tI (tP κ P60) 7 n64) 10 F65) 11 F66) 12 F67) 13 Z68) H := hP
        obtain ⟨hr63, hr63y⟩ := hr63
        have hr63y : (κ.1 7).toInt < 41 → ADc (κ.2.2.1 10) (κ.2.2.1 11) (κ.2.2.1 12) (κ.1 7) F65 F66 F67 n64 (1 : Int32) k0 (0 : Int32) := hr63y
        have hr63 : (SV ad P60 (κ.2.1 0) (κ.2.1 1) (κ.2.2.2.1 6) (κ.2.2.2.1 7) (κ.2.2.2.1 8) Z68 (κ.2.2.2.1 15) (κ.2.2.2.1 17) (κ.1 1).toInt) ∧ (0 ≤ n64.toInt ∧ n64.toInt ≤ 41) := hr63
        obtain ⟨hr63_0, hr63_1⟩ := hr63
        obtain ⟨hr63_1_0, hr63_1_1⟩ := hr63_1
        refine lv_iload_n C.x C.b dX4_number_62 rfl (lv_at hl 1 rfl) ?_
        exact c_reti C hsz hsl ⟨P60, n64, F65, F66, F67, Z68⟩ ⟨⟨hr59_0, hr59_1, hr63_0, (vX4_number_32 κ k0 r1 x2 r4 x6 n64 hpre_1 hpre_2 hpre_5 hpre_6 hr1_0 hr1_1 ex2 tx2 c3 hr4_0 hr4_1 hr4_2 c5 ex6 tx6 c7 hr63_1_0 hr63_1_1)⟩, (vX4_number_33 κ k0 r1 x2 r4 x6 n64 F65 F66 F67 hpre_0 hpre_1 hpre_2 hpre_3 hpre_4 hpre_5 hpre_6 hr1y hr1_0 hr1_1 ex2 tx2 c3 hr4y hr4_0 hr4_1 hr4_2 c5 ex6 tx6 c7 hr63y hr63_1_0 hr63_1_1)⟩ hP hS ⟨(Nat.le_of_ble_eq_true rfl), (Nat.le_of_ble_eq_true rfl)⟩ ⟨(Nat.le_of_ble_eq_true rfl), (Nat.le_of_ble_eq_true rfl)⟩ dX4_number_63
    · have c5 : r4.toInt = 46 := by have h := z_eq c5; rw [show (46 : Int32).toInt = 46 from by decide +kernel] at h; exact h
      refine lv_aload_n C.x C.b dX4_number_26 rfl (lv_at hl 1 rfl) ?_
      refine lv_iload_n C.x C.b dX4_number_27 rfl (lv_at hl 0 rfl) ?_
      refine lv_iconst (v := 1) C.x C.b dX4_number_28 (by decide +kernel) ?_
      refine lv_iadd C.x C.b dX4_number_29 ?_
      refine lv_topi (fun x69 ex69 => ?_)
      have tx69 : x69.toInt = r1.toInt + 1 := (vX4_number_34 κ k0 r1 x2 r4 x69 hpre_1 hpre_2 hpre_5 hpre_6 hr1_0 hr1_1 ex2 tx2 c3 hr4_0 hr4_1 hr4_2 c5 ex69)
      refine c_callVi (n := 1) (As := [.int x69]) (rest := []) C hP hS hl.1 (NX4_endOfDigits l D cy ad A sz0 sa κ H.size (SLT H) C.f (fun q h => C.a q (Nat.le_trans hS.1 h)) x69 (vX4_number_35 κ k0 r1 x2 r4 x69 hpre_0 hpre_1 hpre_2 hpre_5 hpre_6 hr1_0 hr1_1 ex2 tx2 c3 hr4_0 hr4_1 hr4_2 c5 ex69 tx69)) ⟨cw_500, cw_503, by decide +kernel⟩ ⟨cw_501, cw_502, cw_484⟩ rfl (hP.recvS (k := 2) (ci := 6) C.K rfl rfl) rfl rfl (lv_room (Nat.le_of_ble_eq_true rfl)) ⟨Nat.le_of_ble_eq_true rfl, Nat.le_of_ble_eq_true rfl⟩ ⟨(Nat.le_of_ble_eq_true rfl), (Nat.le_of_ble_eq_true rfl)⟩ dX4_number_30 (fun r70 u H locs hr70 hP hS => ?_)
      obtain ⟨hr70, hr70y⟩ := hr70
      have hr70y : (κ.1 6).toInt ≤ 40 → RT dg (tx (κ.2.2.1 9) (κ.1 6)) x69.toInt r70.toInt ∧ ¬ dg (tx (κ.2.2.1 9) (κ.1 6) r70.toInt) := hr70y
      have hr70 : (x69.toInt ≤ r70.toInt ∧ r70.toInt ≤ max x69.toInt (κ.1 6).toInt) := hr70
      obtain ⟨hr70_0, hr70_1⟩ := hr70
      refine lv_goto (tgt := 37) C.x C.b dX4_number_33 (by decide) ?_
      refine lv_istore_n (lv' := [(3, .int r70), (2, .int r1), (0, .ref (ad 2)), (1, .int k0)]) C.x C.b dX4_number_37 rfl hl (by decide) rfl (fun ls hl => ?_)
      refine lv_iload_n C.x C.b dX4_number_38 rfl (lv_at hl 0 rfl) ?_
      refine lv_iload_n C.x C.b dX4_number_39 rfl (lv_at hl 1 rfl) ?_
      refine lv_iconst (v := 1) C.x C.b dX4_number_40 (by decide +kernel) ?_
      refine lv_iadd C.x C.b dX4_number_41 ?_
      refine lv_topi (fun x71 ex71 => ?_)
      have tx71 : x71.toInt = r1.toInt + 1 := (vX4_number_36 κ k0 r1 x2 r4 x69 r70 x71 hpre_1 hpre_2 hpre_5 hpre_6 hr1_0 hr1_1 ex2 tx2 c3 hr4_0 hr4_1 hr4_2 c5 ex69 tx69 hr70_0 hr70_1 ex71)
      refine lv_icmp_gt (tgt := 64) C.x C.b dX4_number_42 (by decide) (fun c72 => ?_) (fun c72 => ?_)
      · have c72 : x71.toInt < r70.toInt := by have h := z_lt c72; exact h
        refine lv_iload_n C.x C.b dX4_number_64 rfl (lv_at hl 0 rfl) ?_
        refine lv_iload_n C.x C.b dX4_number_65 rfl (lv_at hl 1 rfl) ?_
        refine lv_isub C.x C.b dX4_number_66 ?_
        refine lv_topi (fun x73 ex73 => ?_)
        have tx73 : x73.toInt = r70.toInt - r1.toInt := (vX4_number_37 κ k0 r1 x2 r4 x69 r70 x71 x73 hpre_1 hpre_2 hpre_5 hpre_6 hr1_0 hr1_1 ex2 tx2 c3 hr4_0 hr4_1 hr4_2 c5 ex69 tx69 hr70_0 hr70_1 ex71 tx71 c72 ex73)
        refine lv_iconst (v := 1) C.x C.b dX4_number_67 (by decide +kernel) ?_
        refine lv_isub C.x C.b dX4_number_68 ?_
        refine lv_topi (fun x74 ex74 => ?_)
        have tx74 : x74.toInt = x73.toInt - 1 := (vX4_number_38 κ k0 r1 x2 r4 x69 r70 x71 x73 x74 hpre_1 hpre_2 hpre_5 hpre_6 hr1_0 hr1_1 ex2 tx2 c3 hr4_0 hr4_1 hr4_2 c5 ex69 tx69 hr70_0 hr70_1 ex71 tx71 c72 ex73 tx73 ex74)
        refine lv_istore (lv' := [(4, .int x74), (3, .int r70), (2, .int r1), (0, .ref (ad 2)), (1, .int k0)]) C.x C.b dX4_number_69 hl (by decide) rfl (fun ls hl => ?_)
        refine lv_iload C.x C.b dX4_number_71 (lv_at hl 0 rfl) ?_
        refine lv_iconst (v := 3) C.x C.b dX4_number_73 (by decide +kernel) ?_
        refine lv_icmp_le (tgt := 79) C.x C.b dX4_number_74 (by decide) (fun c75 => ?_) (fun c75 => ?_)
        · have c75 : x74.toInt ≤ 3 := by have h := z_le c75; rw [show (3 : Int32).toInt = 3 from by decide +kernel] at h; exact h
          refine lv_iload C.x C.b dX4_number_79 (lv_at hl 0 rfl) ?_
          refine lv_iconst (v := 1) C.x C.b dX4_number_81 (by decide +kernel) ?_
          refine lv_icmp_ne (tgt := 91) C.x C.b dX4_number_82 (by decide) (fun c76 => ?_) (fun c76 => ?_)
          · have c76 : ¬ x74.toInt = 1 := by have h := z_ne c76; rw [show (1 : Int32).toInt = 1 from by decide +kernel] at h; exact h
            refine lv_iload C.x C.b dX4_number_91 (lv_at hl 0 rfl) ?_
            refine lv_iconst (v := 2) C.x C.b dX4_number_93 (by decide +kernel) ?_
            refine lv_icmp_ne (tgt := 103) C.x C.b dX4_number_94 (by decide) (fun c77 => ?_) (fun c77 => ?_)
            · have c77 : ¬ x74.toInt = 2 := by have h := z_ne c77; rw [show (2 : Int32).toInt = 2 from by decide +kernel] at h; exact h
              refine lv_ldc2d (v := 4652007308841189376) C.x C.b C.o (C.w _ cw_499) dX4_number_103 ?_
              refine lv_dstore (lv' := [(5, .double (4652007308841189376 : UInt64)), (4, .int x74), (3, .int r70), (2, .int r1), (0, .ref (ad 2)), (1, .int k0)]) C.x C.b dX4_number_106 hl (by decide) rfl (fun ls hl => ?_)
              refine lv_aload_n C.x C.b dX4_number_108 rfl (lv_at hl 4 rfl) ?_
              refine lv_iload_n C.x C.b dX4_number_109 rfl (lv_at hl 3 rfl) ?_
              refine lv_iconst (v := 1) C.x C.b dX4_number_110 (by decide +kernel) ?_
              refine lv_iadd C.x C.b dX4_number_111 ?_
              refine lv_topi (fun x78 ex78 => ?_)
              have tx78 : x78.toInt = r1.toInt + 1 := (vX4_number_39 κ k0 r1 x2 r4 x69 r70 x71 x73 x74 x78 hpre_1 hpre_2 hpre_5 hpre_6 hr1_0 hr1_1 ex2 tx2 c3 hr4_0 hr4_1 hr4_2 c5 ex69 tx69 hr70_0 hr70_1 ex71 tx71 c72 ex73 tx73 ex74 tx74 c75 c76 c77 ex78)
              refine lv_iload_n C.x C.b dX4_number_112 rfl (lv_at hl 2 rfl) ?_
              refine lv_aload_n C.x C.b dX4_number_113 rfl (lv_at hl 4 rfl) ?_
              refine lv_iload_n C.x C.b dX4_number_114 rfl (lv_at hl 5 rfl) ?_
              refine lv_iload_n C.x C.b dX4_number_115 rfl (lv_at hl 3 rfl) ?_
              refine lv_iconst (v := 0) C.x C.b dX4_number_116 (by decide +kernel) ?_
              refine c_callVi (n := 3) (As := [.int k0, .int r1, .int 0]) (rest := [.int r70, .int x78, .ref (ad 2)]) C hP hS hl.1 (NX4_digits l D cy ad A sz0 sa κ H.size (SLT H) C.f (fun q h => C.a q (Nat.le_trans hS.1 h)) k0 r1 (0 : Int32) (vX4_number_40 κ k0 r1 x2 r4 x69 r70 x71 x73 x74 x78 hpre_0 hpre_1 hpre_2 hpre_5 hpre_6 hr1_0 hr1_1 ex2 tx2 c3 hr4_0 hr4_1 hr4_2 c5 ex69 tx69 hr70_0 hr70_1 ex71 tx71 c72 ex73 tx73 ex74 tx74 c75 c76 c77 ex78 tx78)) ⟨cw_504, cw_507, by decide +kernel⟩ ⟨cw_505, cw_506, cw_484⟩ rfl (hP.recvS (k := 2) (ci := 6) C.K rfl rfl) rfl rfl (lv_room (Nat.le_of_ble_eq_true rfl)) ⟨Nat.le_of_ble_eq_true rfl, Nat.le_of_ble_eq_true rfl⟩ ⟨(Nat.le_of_ble_eq_true rfl), (Nat.le_of_ble_eq_true rfl)⟩ dX4_number_117 (fun r79 u H locs hr79 hP hS => ?_)
              have hr79 : True := hr79
              refine c_callVi (n := 3) (As := [.int x78, .int r70, .int r79]) (rest := []) C hP hS hl.1 (NX4_digits l D cy ad A sz0 sa κ H.size (SLT H) C.f (fun q h => C.a q (Nat.le_trans hS.1 h)) x78 r70 r79 (vX4_number_41 κ k0 r1 x2 r4 x69 r70 x71 x73 x74 x78 hpre_0 hpre_1 hpre_2 hpre_5 hpre_6 hr1_0 hr1_1 ex2 tx2 c3 hr4_0 hr4_1 hr4_2 c5 ex69 tx69 hr70_0 hr70_1 ex71 tx71 c72 ex73 tx73 ex74 tx74 c75 c76 c77 ex78 tx78)) ⟨cw_504, cw_507, by decide +kernel⟩ ⟨cw_505, cw_506, cw_484⟩ rfl (hP.recvS (k := 2) (ci := 6) C.K rfl rfl) rfl rfl (lv_room (Nat.le_of_ble_eq_true rfl)) ⟨Nat.le_of_ble_eq_true rfl, Nat.le_of_ble_eq_true rfl⟩ ⟨(Nat.le_of_ble_eq_true rfl), (Nat.le_of_ble_eq_true rfl)⟩ dX4_number_120 (fun r80 u H locs hr80 hP hS => ?_)
              have hr80 : True := hr80
              refine lv_i2d C.x C.b dX4_number_123 ?_
              refine lv_topd (fun x81 ex81 => ?_)
              have fx81 : FN x81 := by rw [ex81]; exact fp_i2d _
              refine lv_dstore (lv' := [(7, .double x81), (5, .double (4652007308841189376 : UInt64)), (4, .int x74), (3, .int r70), (2, .int r1), (0, .ref (ad 2)), (1, .int k0)]) C.x C.b dX4_number_124 hl (by decide) rfl (fun ls hl => ?_)
              refine lv_aload_n C.x C.b dX4_number_126 rfl (lv_at hl 5 rfl) ?_
              refine lv_iconst (v := 1) C.x C.b dX4_number_127 (by decide +kernel) ?_
              refine lv_iload_n C.x C.b dX4_number_128 rfl (lv_at hl 6 rfl) ?_
              refine lv_iconst (v := 0) C.x C.b dX4_number_129 (by decide +kernel) ?_
              refine lv_dload C.x C.b dX4_number_130 (lv_at hl 0 rfl) ?_
              refine lv_dload C.x C.b dX4_number_132 (lv_at hl 1 rfl) ?_
              refine lv_ddiv C.x C.b dX4_number_134 (vX4_number_42 r80 x81 ex81 fx81) ?_
              refine lv_topd (fun x82 ex82 => ?_)
              refine c_callSq (C2 := "") (b := 0) (n := 1) (As := [.double x82]) (rest := [.int 0, .int k0, .int 1, .ref (ad 2)]) C hP hS hl.1 (NX10_ofReal l D cy ad A sz0 sa κ H.size (SLT H) C.f (fun q h => C.a q (Nat.le_trans hS.1 h)) x82 hPV (vX4_number_43 r80 x81 x82 ex81 fx81 ex82)) ⟨cw_513, cw_143, by decide +kernel⟩ ⟨cw_142, cw_40⟩ rfl rfl (lv_room (Nat.le_of_ble_eq_true rfl)) ⟨Nat.le_of_ble_eq_true rfl, Nat.le_of_ble_eq_true rfl⟩ ⟨(Nat.le_of_ble_eq_true rfl), (Nat.le_of_ble_eq_true rfl)⟩ dX4_number_135 (fun r83 u H locs hr83 hP hS => ?_)
              obtain ⟨P84, rfl⟩ : ∃ z, z = u := ⟨_, rfl⟩
              have hP : CH D cy ad A (tP κ P84) H := hP
              have hr83 : (EX κ.2.2.2.2 P84) ∧ (PV sa P84) ∧ (NN P84 1 r83) := hr83
              obtain ⟨hr83_0, hr83_1, hr83_2⟩ := hr83
              obtain ⟨b85, rfl, tb85⟩ := hr83_2
              have svz86 : SV ad P84 (κ.2.1 0) (κ.2.1 1) (κ.2.2.2.1 6) (κ.2.2.2.1 7) (κ.2.2.2.1 8) (κ.2.2.2.1 13) (κ.2.2.2.1 15) (κ.2.2.2.1 17) (κ.1 1).toInt := hSV.ex hr83_0
              refine c_callVv (n := 4) (As := [.int 1, .int k0, .int 0, .ref b85]) (rest := []) C hP hS hl.1 (NX4_add l D cy ad A sz0 sa (tP κ P84) H.size (SLT H) C.f (fun q h => C.a q (Nat.le_trans hS.1 h)) (1 : Int32) k0 (0 : Int32) (some b85) (nt_s tb85) svz86 (vX4_number_12 κ hpre_3 hpre_4)) ⟨cw_509, cw_512, by decide +kernel⟩ ⟨cw_510, cw_511, cw_484⟩ rfl (hP.recvS (k := 2) (ci := 6) C.K rfl rfl) rfl rfl (lv_room (Nat.le_of_ble_eq_true rfl)) ⟨Nat.le_of_ble_eq_true rfl, Nat.le_of_ble_eq_true rfl⟩ ⟨(Nat.le_of_ble_eq_true rfl), (Nat.le_of_ble_eq_true rfl)⟩ dX4_number_138 (fun u H locs hr87 hP hS => ?_)
              obtain ⟨n88, F89, F90, F91, Z92⟩ := u
              have hP : CH D cy ad A (tQ (tA (tA (tA (tI (tP κ P84) 7 n88) 10 F89) 11 F90) 12 F91) 13 Z92) H := hP
              obtain ⟨hr87, hr87y⟩ := hr87
              have hr87y : (κ.1 7).toInt < 41 → ADc (κ.2.2.1 10) (κ.2.2.1 11) (κ.2.2.1 12) (κ.1 7) F89 F90 F91 n88 (1 : Int32) k0 (0 : Int32) := hr87y
              have hr87 : (SV ad P84 (κ.2.1 0) (κ.2.1 1) (κ.2.2.2.1 6) (κ.2.2.2.1 7) (κ.2.2.2.1 8) Z92 (κ.2.2.2.1 15) (κ.2.2.2.1 17) (κ.1 1).toInt) ∧ (0 ≤ n88.toInt ∧ n88.toInt ≤ 41) := hr87
              obtain ⟨hr87_0, hr87_1⟩ := hr87
              obtain ⟨hr87_1_0, hr87_1_1⟩ := hr87_1
              refine lv_iload_n C.x C.b dX4_number_141 rfl (lv_at hl 3 rfl) ?_
              exact c_reti C hsz hsl ⟨P84, n88, F89, F90, F91, Z92⟩ ⟨⟨hr83_0, hr83_1, hr87_0, (vX4_number_44 κ k0 r1 x2 r4 x69 r70 x71 x73 x74 x78 n88 hpre_1 hpre_2 hpre_5 hpre_6 hr1_0 hr1_1 ex2 tx2 c3 hr4_0 hr4_1 hr4_2 c5 ex69 tx69 hr70_0 hr70_1 ex71 tx71 c72 ex73 tx73 ex74 tx74 c75 c76 c77 ex78 tx78 hr87_1_0 hr87_1_1)⟩, (vX4_number_45 κ k0 r1 x2 r4 x69 r70 x71 x73 x74 x78 r80 x81 x82 n88 F89 F90 F91 hpre_0 hpre_1 hpre_2 hpre_3 hpre_4 hpre_5 hpre_6 hr1y hr1_0 hr1_1 ex2 tx2 c3 hr4y hr4_0 hr4_1 hr4_2 c5 ex69 tx69 hr70y hr70_0 hr70_1 ex71 tx71 c72 ex73 tx73 ex74 tx74 c75 c76 c77 ex78 tx78 ex81 fx81 ex82 hr87y hr87_1_0 hr87_1_1)⟩ hP hS ⟨(Nat.le_of_ble_eq_true rfl), (Nat.le_of_ble_eq_true rfl)⟩ ⟨(Nat.le_of_ble_eq_true rfl), (Nat.le_of_ble_eq_true rfl)⟩ dX4_number_142
            · have c77 : x74.toInt = 2 := by have h := z_eq c77; rw [show (2 : Int32).toInt = 2 from by decide +kernel] at h; exact h
              refine lv_ldc2d (v := 4636737291354636288) C.x C.b C.o (C.w _ cw_498) dX4_number_97 ?_
              refine lv_goto (tgt := 106) C.x C.b dX4_number_100 (by decide) ?_
              refine lv_dstore (lv' := [(5, .double (4636737291354636288 : UInt64)), (4, .int x74), (3, .int r70), (2, .int r1), (0, .ref (ad 2)), (1, .int k0)]) C.x C.b dX4_number_106 hl (by decide) rfl (fun ls hl => ?_)
              refine lv_aload_n C.x C.b dX4_number_108 rfl (lv_at hl 4 rfl) ?_
              refine lv_iload_n C.x C.b dX4_number_109 rfl (lv_at hl 3 rfl) ?_
              refine lv_iconst (v := 1) C.x C.b dX4_number_110 (by decide +kernel) ?_
              refine lv_iadd C.x C.b dX4_number_111 ?_
              refine lv_topi (fun x93 ex93 => ?_)
              have tx93 : x93.toInt = r1.toInt + 1 := (vX4_number_46 κ k0 r1 x2 r4 x69 r70 x71 x73 x74 x93 hpre_1 hpre_2 hpre_5 hpre_6 hr1_0 hr1_1 ex2 tx2 c3 hr4_0 hr4_1 hr4_2 c5 ex69 tx69 hr70_0 hr70_1 ex71 tx71 c72 ex73 tx73 ex74 tx74 c75 c76 c77 ex93)
              refine lv_iload_n C.x C.b dX4_number_112 rfl (lv_at hl 2 rfl) ?_
              refine lv_aload_n C.x C.b dX4_number_113 rfl (lv_at hl 4 rfl) ?_
              refine lv_iload_n C.x C.b dX4_number_114 rfl (lv_at hl 5 rfl) ?_
              refine lv_iload_n C.x C.b dX4_number_115 rfl (lv_at hl 3 rfl) ?_
              refine lv_iconst (v := 0) C.x C.b dX4_number_116 (by decide +kernel) ?_
              refine c_callVi (n := 3) (As := [.int k0, .int r1, .int 0]) (rest := [.int r70, .int x93, .ref (ad 2)]) C hP hS hl.1 (NX4_digits l D cy ad A sz0 sa κ H.size (SLT H) C.f (fun q h => C.a q (Nat.le_trans hS.1 h)) k0 r1 (0 : Int32) (vX4_number_47 κ k0 r1 x2 r4 x69 r70 x71 x73 x74 x93 hpre_0 hpre_1 hpre_2 hpre_5 hpre_6 hr1_0 hr1_1 ex2 tx2 c3 hr4_0 hr4_1 hr4_2 c5 ex69 tx69 hr70_0 hr70_1 ex71 tx71 c72 ex73 tx73 ex74 tx74 c75 c76 c77 ex93 tx93)) ⟨cw_504, cw_507, by decide +kernel⟩ ⟨cw_505, cw_506, cw_484⟩ rfl (hP.recvS (k := 2) (ci := 6) C.K rfl rfl) rfl rfl (lv_room (Nat.le_of_ble_eq_true rfl)) ⟨Nat.le_of_ble_eq_true rfl, Nat.le_of_ble_eq_true rfl⟩ ⟨(Nat.le_of_ble_eq_true rfl), (Nat.le_of_ble_eq_true rfl)⟩ dX4_number_117 (fun r94 u H locs hr94 hP hS => ?_)
              have hr94 : True := hr94
              refine c_callVi (n := 3) (As := [.int x93, .int r70, .int r94]) (rest := []) C hP hS hl.1 (NX4_digits l D cy ad A sz0 sa κ H.size (SLT H) C.f (fun q h => C.a q (Nat.le_trans hS.1 h)) x93 r70 r94 (vX4_number_48 κ k0 r1 x2 r4 x69 r70 x71 x73 x74 x93 hpre_0 hpre_1 hpre_2 hpre_5 hpre_6 hr1_0 hr1_1 ex2 tx2 c3 hr4_0 hr4_1 hr4_2 c5 ex69 tx69 hr70_0 hr70_1 ex71 tx71 c72 ex73 tx73 ex74 tx74 c75 c76 c77 ex93 tx93)) ⟨cw_504, cw_507, by decide +kernel⟩ ⟨cw_505, cw_506, cw_484⟩ rfl (hP.recvS (k := 2) (ci := 6) C.K rfl rfl) rfl rfl (lv_room (Nat.le_of_ble_eq_true rfl)) ⟨Nat.le_of_ble_eq_true rfl, Nat.le_of_ble_eq_true rfl⟩ ⟨(Nat.le_of_ble_eq_true rfl), (Nat.le_of_ble_eq_true rfl)⟩ dX4_number_120 (fun r95 u H locs hr95 hP hS => ?_)
              have hr95 : True := hr95
              refine lv_i2d C.x C.b dX4_number_123 ?_
              refine lv_topd (fun x96 ex96 => ?_)
              have fx96 : FN x96 := by rw [ex96]; exact fp_i2d _
              refine lv_dstore (lv' := [(7, .double x96), (5, .double (4636737291354636288 : UInt64)), (4, .int x74), (3, .int r70), (2, .int r1), (0, .ref (ad 2)), (1, .int k0)]) C.x C.b dX4_number_124 hl (by decide) rfl (fun ls hl => ?_)
              refine lv_aload_n C.x C.b dX4_number_126 rfl (lv_at hl 5 rfl) ?_
              refine lv_iconst (v := 1) C.x C.b dX4_number_127 (by decide +kernel) ?_
              refine lv_iload_n C.x C.b dX4_number_128 rfl (lv_at hl 6 rfl) ?_
              refine lv_iconst (v := 0) C.x C.b dX4_number_129 (by decide +kernel) ?_
              refine lv_dload C.x C.b dX4_number_130 (lv_at hl 0 rfl) ?_
              refine lv_dload C.x C.b dX4_number_132 (lv_at hl 1 rfl) ?_
              refine lv_ddiv C.x C.b dX4_number_134 (vX4_number_49 r95 x96 ex96 fx96) ?_
              refine lv_topd (fun x97 ex97 => ?_)
              refine c_callSq (C2 := "") (b := 0) (n := 1) (As := [.double x97]) (rest := [.int 0, .int k0, .int 1, .ref (ad 2)]) C hP hS hl.1 (NX10_ofReal l D cy ad A sz0 sa κ H.size (SLT H) C.f (fun q h => C.a q (Nat.le_trans hS.1 h)) x97 hPV (vX4_number_50 r95 x96 x97 ex96 fx96 ex97)) ⟨cw_513, cw_143, by decide +kernel⟩ ⟨cw_142, cw_40⟩ rfl rfl (lv_room (Nat.le_of_ble_eq_true rfl)) ⟨Nat.le_of_ble_eq_true rfl, Nat.le_of_ble_eq_true rfl⟩ ⟨(Nat.le_of_ble_eq_true rfl), (Nat.le_of_ble_eq_true rfl)⟩ dX4_number_135 (fun r98 u H locs hr98 hP hS => ?_)
              obtain ⟨P99, rfl⟩ : ∃ z, z = u := ⟨_, rfl⟩
              have hP : CH D cy ad A (tP κ P99) H := hP
              have hr98 : (EX κ.2.2.2.2 P99) ∧ (PV sa P99) ∧ (NN P99 1 r98) := hr98
              obtain ⟨hr98_0, hr98_1, hr98_2⟩ := hr98
              obtain ⟨b100, rfl, tb100⟩ := hr98_2
              have svz101 : SV ad P99 (κ.2.1 0) (κ.2.1 1) (κ.2.2.2.1 6) (κ.2.2.2.1 7) (κ.2.2.2.1 8) (κ.2.2.2.1 13) (κ.2.2.2.1 15) (κ.2.2.2.1 17) (κ.1 1).toInt := hSV.ex hr98_0
              refine c_callVv (n := 4) (As := [.int 1, .int k0, .int 0, .ref b100]) (rest := []) C hP hS hl.1 (NX4_add l D cy ad A sz0 sa (tP κ P99) H.size (SLT H) C.f (fun q h => C.a q (Nat.le_trans hS.1 h)) (1 : Int32) k0 (0 : Int32) (some b100) (nt_s tb100) svz101 (vX4_number_12 κ hpre_3 hpre_4)) ⟨cw_509, cw_512, by decide +kernel⟩ ⟨cw_510, cw_511, cw_484⟩ rfl (hP.recvS (k := 2) (ci := 6) C.K rfl rfl) rfl rfl (lv_room (Nat.le_of_ble_eq_true rfl)) ⟨Nat.le_of_ble_eq_true rfl, Nat.le_of_ble_eq_true rfl⟩ ⟨(Nat.le_of_ble_eq_true rfl), (Nat.le_of_ble_eq_true rfl)⟩ dX4_number_138 (fun u H locs hr102 hP hS => ?_)
              obtain ⟨n103, F104, F105, F106, Z107⟩ := u
              have hP : CH D cy ad A (tQ (tA (tA (tA (tI (tP κ P99) 7 n103) 10 F104) 11 F105) 12 F106) 13 Z107) H := hP
              obtain ⟨hr102, hr102y⟩ := hr102
              have hr102y : (κ.1 7).toInt < 41 → ADc (κ.2.2.1 10) (κ.2.2.1 11) (κ.2.2.1 12) (κ.1 7) F104 F105 F106 n103 (1 : Int32) k0 (0 : Int32) := hr102y
              have hr102 : (SV ad P99 (κ.2.1 0) (κ.2.1 1) (κ.2.2.2.1 6) (κ.2.2.2.1 7) (κ.2.2.2.1 8) Z107 (κ.2.2.2.1 15) (κ.2.2.2.1 17) (κ.1 1).toInt) ∧ (0 ≤ n103.toInt ∧ n103.toInt ≤ 41) := hr102
              obtain ⟨hr102_0, hr102_1⟩ := hr102
              obtain ⟨hr102_1_0, hr102_1_1⟩ := hr102_1
              refine lv_iload_n C.x C.b dX4_number_141 rfl (lv_at hl 3 rfl) ?_
              exact c_reti C hsz hsl ⟨P99, n103, F104, F105, F106, Z107⟩ ⟨⟨hr98_0, hr98_1, hr102_0, (vX4_number_51 κ k0 r1 x2 r4 x69 r70 x71 x73 x74 x93 n103 hpre_1 hpre_2 hpre_5 hpre_6 hr1_0 hr1_1 ex2 tx2 c3 hr4_0 hr4_1 hr4_2 c5 ex69 tx69 hr70_0 hr70_1 ex71 tx71 c72 ex73 tx73 ex74 tx74 c75 c76 c77 ex93 tx93 hr102_1_0 hr102_1_1)⟩, (vX4_number_52 κ k0 r1 x2 r4 x69 r70 x71 x73 x74 x93 r95 x96 x97 n103 F104 F105 F106 hpre_0 hpre_1 hpre_2 hpre_3 hpre_4 hpre_5 hpre_6 hr1y hr1_0 hr1_1 ex2 tx2 c3 hr4y hr4_0 hr4_1 hr4_2 c5 ex69 tx69 hr70y hr70_0 hr70_1 ex71 tx71 c72 ex73 tx73 ex74 tx74 c75 c76 c77 ex93 tx93 ex96 fx96 ex97 hr102y hr102_1_0 hr102_1_1)⟩ hP hS ⟨(Nat.le_of_ble_eq_true rfl), (Nat.le_of_ble_eq_true rfl)⟩ ⟨(Nat.le_of_ble_eq_true rfl), (Nat.le_of_ble_eq_true rfl)⟩ dX4_number_142
          · have c76 : x74.toInt = 1 := by have h := z_eq c76; rw [show (1 : Int32).toInt = 1 from by decide +kernel] at h; exact h
            refine lv_ldc2d (v := 4621819117588971520) C.x C.b C.o (C.w _ cw_497) dX4_number_85 ?_
            refine lv_goto (tgt := 106) C.x C.b dX4_number_88 (by decide) ?_
            refine lv_dstore (lv' := [(5, .double (4621819117588971520 : UInt64)), (4, .int x74), (3, .int r70), (2, .int r1), (0, .ref (ad 2)), (1, .int k0)]) C.x C.b dX4_number_106 hl (by decide) rfl (fun ls hl => ?_)
            refine lv_aload_n C.x C.b dX4_number_108 rfl (lv_at hl 4 rfl) ?_
            refine lv_iload_n C.x C.b dX4_number_109 rfl (lv_at hl 3 rfl) ?_
            refine lv_iconst (v := 1) C.x C.b dX4_number_110 (by decide +kernel) ?_
            refine lv_iadd C.x C.b dX4_number_111 ?_
            refine lv_topi (fun x108 ex108 => ?_)
            have tx108 : x108.toInt = r1.toInt + 1 := (vX4_number_53 κ k0 r1 x2 r4 x69 r70 x71 x73 x74 x108 hpre_1 hpre_2 hpre_5 hpre_6 hr1_0 hr1_1 ex2 tx2 c3 hr4_0 hr4_1 hr4_2 c5 ex69 tx69 hr70_0 hr70_1 ex71 tx71 c72 ex73 tx73 ex74 tx74 c75 c76 ex108)
            refine lv_iload_n C.x C.b dX4_number_112 rfl (lv_at hl 2 rfl) ?_
            refine lv_aload_n C.x C.b dX4_number_113 rfl (lv_at hl 4 rfl) ?_
            refine lv_iload_n C.x C.b dX4_number_114 rfl (lv_at hl 5 rfl) ?_
            refine lv_iload_n C.x C.b dX4_number_115 rfl (lv_at hl 3 rfl) ?_
            refine lv_iconst (v := 0) C.x C.b dX4_number_116 (by decide +kernel) ?_
            refine c_callVi (n := 3) (As := [.int k0, .int r1, .int 0]) (rest := [.int r70, .int x108, .ref (ad 2)]) C hP hS hl.1 (NX4_digits l D cy ad A sz0 sa κ H.size (SLT H) C.f (fun q h => C.a q (Nat.le_trans hS.1 h)) k0 r1 (0 : Int32) (vX4_number_54 κ k0 r1 x2 r4 x69 r70 x71 x73 x74 x108 hpre_0 hpre_1 hpre_2 hpre_5 hpre_6 hr1_0 hr1_1 ex2 tx2 c3 hr4_0 hr4_1 hr4_2 c5 ex69 tx69 hr70_0 hr70_1 ex71 tx71 c72 ex73 tx73 ex74 tx74 c75 c76 ex108 tx108)) ⟨cw_504, cw_507, by decide +kernel⟩ ⟨cw_505, cw_506, cw_484⟩ rfl (hP.recvS (k := 2) (ci := 6) C.K rfl rfl) rfl rfl (lv_room (Nat.le_of_ble_eq_true rfl)) ⟨Nat.le_of_ble_eq_true rfl, Nat.le_of_ble_eq_true rfl⟩ ⟨(Nat.le_of_ble_eq_true rfl), (Nat.le_of_ble_eq_true rfl)⟩ dX4_number_117 (fun r109 u H locs hr109 hP hS => ?_)
            have hr109 : True := hr109
            refine c_callVi (n := 3) (As := [.int x108, .int r70, .int r109]) (rest := []) C hP hS hl.1 (NX4_digits l D cy ad A sz0 sa κ H.size (SLT H) C.f (fun q h => C.a q (Nat.le_trans hS.1 h)) x108 r70 r109 (vX4_number_55 κ k0 r1 x2 r4 x69 r70 x71 x73 x74 x108 hpre_0 hpre_1 hpre_2 hpre_5 hpre_6 hr1_0 hr1_1 ex2 tx2 c3 hr4_0 hr4_1 hr4_2 c5 ex69 tx69 hr70_0 hr70_1 ex71 tx71 c72 ex73 tx73 ex74 tx74 c75 c76 ex108 tx108)) ⟨cw_504, cw_507, by decide +kernel⟩ ⟨cw_505, cw_506, cw_484⟩ rfl (hP.recvS (k := 2) (ci := 6) C.K rfl rfl) rfl rfl (lv_room (Nat.le_of_ble_eq_true rfl)) ⟨Nat.le_of_ble_eq_true rfl, Nat.le_of_ble_eq_true rfl⟩ ⟨(Nat.le_of_ble_eq_true rfl), (Nat.le_of_ble_eq_true rfl)⟩ dX4_number_120 (fun r110 u H locs hr110 hP hS => ?_)
            have hr110 : True := hr110
            refine lv_i2d C.x C.b dX4_number_123 ?_
            refine lv_topd (fun x111 ex111 => ?_)
            have fx111 : FN x111 := by rw [ex111]; exact fp_i2d _
            refine lv_dstore (lv' := [(7, .double x111), (5, .double (4621819117588971520 : UInt64)), (4, .int x74), (3, .int r70), (2, .int r1), (0, .ref (ad 2)), (1, .int k0)]) C.x C.b dX4_number_124 hl (by decide) rfl (fun ls hl => ?_)
            refine lv_aload_n C.x C.b dX4_number_126 rfl (lv_at hl 5 rfl) ?_
            refine lv_iconst (v := 1) C.x C.b dX4_number_127 (by decide +kernel) ?_
            refine lv_iload_n C.x C.b dX4_number_128 rfl (lv_at hl 6 rfl) ?_
            refine lv_iconst (v := 0) C.x C.b dX4_number_129 (by decide +kernel) ?_
            refine lv_dload C.x C.b dX4_number_130 (lv_at hl 0 rfl) ?_
            refine lv_dload C.x C.b dX4_number_132 (lv_at hl 1 rfl) ?_
            refine lv_ddiv C.x C.b dX4_number_134 (vX4_number_56 r110 x111 ex111 fx111) ?_
            refine lv_topd (fun x112 ex112 => ?_)
            refine c_callSq (C2 := "") (b := 0) (n := 1) (As := [.double x112]) (rest := [.int 0, .int k0, .int 1, .ref (ad 2)]) C hP hS hl.1 (NX10_ofReal l D cy ad A sz0 sa κ H.size (SLT H) C.f (fun q h => C.a q (Nat.le_trans hS.1 h)) x112 hPV (vX4_number_57 r110 x111 x112 ex111 fx111 ex112)) ⟨cw_513, cw_143, by decide +kernel⟩ ⟨cw_142, cw_40⟩ rfl rfl (lv_room (Nat.le_of_ble_eq_true rfl)) ⟨Nat.le_of_ble_eq_true rfl, Nat.le_of_ble_eq_true rfl⟩ ⟨(Nat.le_of_ble_eq_true rfl), (Nat.le_of_ble_eq_true rfl)⟩ dX4_number_135 (fun r113 u H locs hr113 hP hS => ?_)
            obtain ⟨P114, rfl⟩ : ∃ z, z = u := ⟨_, rfl⟩
            have hP : CH D cy ad A (tP κ P114) H := hP
            have hr113 : (EX κ.2.2.2.2 P114) ∧ (PV sa P114) ∧ (NN P114 1 r113) := hr113
            obtain ⟨hr113_0, hr113_1, hr113_2⟩ := hr113
            obtain ⟨b115, rfl, tb115⟩ := hr113_2
            have svz116 : SV ad P114 (κ.2.1 0) (κ.2.1 1) (κ.2.2.2.1 6) (κ.2.2.2.1 7) (κ.2.2.2.1 8) (κ.2.2.2.1 13) (κ.2.2.2.1 15) (κ.2.2.2.1 17) (κ.1 1).toInt := hSV.ex hr113_0
            refine c_callVv (n := 4) (As := [.int 1, .int k0, .int 0, .ref b115]) (rest := []) C hP hS hl.1 (NX4_add l D cy ad A sz0 sa (tP κ P114) H.size (SLT H) C.f (fun q h => C.a q (Nat.le_trans hS.1 h)) (1 : Int32) k0 (0 : Int32) (some b115) (nt_s tb115) svz116 (vX4_number_12 κ hpre_3 hpre_4)) ⟨cw_509, cw_512, by decide +kernel⟩ ⟨cw_510, cw_511, cw_484⟩ rfl (hP.recvS (k := 2) (ci := 6) C.K rfl rfl) rfl rfl (lv_room (Nat.le_of_ble_eq_true rfl)) ⟨Nat.le_of_ble_eq_true rfl, Nat.le_of_ble_eq_true rfl⟩ ⟨(Nat.le_of_ble_eq_true rfl), (Nat.le_of_ble_eq_true rfl)⟩ dX4_number_138 (fun u H locs hr117 hP hS => ?_)
            obtain ⟨n118, F119, F120, F121, Z122⟩ := u
            have hP : CH D cy ad A (tQ (tA (tA (tA (tI (tP κ P114) 7 n118) 10 F119) 11 F120) 12 F121) 13 Z122) H := hP
            obtain ⟨hr117, hr117y⟩ := hr117
            have hr117y : (κ.1 7).toInt < 41 → ADc (κ.2.2.1 10) (κ.2.2.1 11) (κ.2.2.1 12) (κ.1 7) F119 F120 F121 n118 (1 : Int32) k0 (0 : Int32) := hr117y
            have hr117 : (SV ad P114 (κ.2.1 0) (κ.2.1 1) (κ.2.2.2.1 6) (κ.2.2.2.1 7) (κ.2.2.2.1 8) Z122 (κ.2.2.2.1 15) (κ.2.2.2.1 17) (κ.1 1).toInt) ∧ (0 ≤ n118.toInt ∧ n118.toInt ≤ 41) := hr117
            obtain ⟨hr117_0, hr117_1⟩ := hr117
            obtain ⟨hr117_1_0, hr117_1_1⟩ := hr117_1
            refine lv_iload_n C.x C.b dX4_number_141 rfl (lv_at hl 3 rfl) ?_
            exact c_reti C hsz hsl ⟨P114, n118, F119, F120, F121, Z122⟩ ⟨⟨hr113_0, hr113_1, hr117_0, (vX4_number_58 κ k0 r1 x2 r4 x69 r70 x71 x73 x74 x108 n118 hpre_1 hpre_2 hpre_5 hpre_6 hr1_0 hr1_1 ex2 tx2 c3 hr4_0 hr4_1 hr4_2 c5 ex69 tx69 hr70_0 hr70_1 ex71 tx71 c72 ex73 tx73 ex74 tx74 c75 c76 ex108 tx108 hr117_1_0 hr117_1_1)⟩, (vX4_number_59 κ k0 r1 x2 r4 x69 r70 x71 x73 x74 x108 r110 x111 x112 n118 F119 F120 F121 hpre_0 hpre_1 hpre_2 hpre_3 hpre_4 hpre_5 hpre_6 hr1y hr1_0 hr1_1 ex2 tx2 c3 hr4y hr4_0 hr4_1 hr4_2 c5 ex69 tx69 hr70y hr70_0 hr70_1 ex71 tx71 c72 ex73 tx73 ex74 tx74 c75 c76 ex108 tx108 ex111 fx111 ex112 hr117y hr117_1_0 hr117_1_1)⟩ hP hS ⟨(Nat.le_of_ble_eq_true rfl), (Nat.le_of_ble_eq_true rfl)⟩ ⟨(Nat.le_of_ble_eq_true rfl), (Nat.le_of_ble_eq_true rfl)⟩ dX4_number_142
        · have c75 : 3 < x74.toInt := by have h := z_nle c75; rw [show (3 : Int32).toInt = 3 from by decide +kernel] at h; exact h
          refine lv_iconst (v := (-1)) C.x C.b dX4_number_77 (by decide +kernel) ?_
          have hP : CH D cy ad A (tQ (tA (tA (tA (tI (tP κ κ.2.2.2.2) 7 (κ.1 7)) 10 (κ.2.2.1 10)) 11 (κ.2.2.1 11)) 12 (κ.2.2.1 12)) 13 (κ.2.2.2.1 13)) H := CH.cong hP rfl rfl rfl rfl rfl rfl rfl rfl rfl rfl rfl rfl rfl rfl rfl rfl rfl rfl rfl rfl rfl rfl rfl rfl rfl rfl rfl
          exact c_reti C hsz hsl ⟨κ.2.2.2.2, (κ.1 7), (κ.2.2.1 10), (κ.2.2.1 11), (κ.2.2.1 12), (κ.2.2.2.1 13)⟩ ⟨⟨EX.rf, hPV, hSV, (vX4_number_29 κ hpre_3 hpre_4)⟩, (vX4_number_60 κ k0 r1 x2 r4 x69 r70 x71 x73 x74 hpre_0 hpre_1 hpre_2 hpre_3 hpre_4 hpre_5 hpre_6 hr1y hr1_0 hr1_1 ex2 tx2 c3 hr4y hr4_0 hr4_1 hr4_2 c5 ex69 tx69 hr70y hr70_0 hr70_1 ex71 tx71 c72 ex73 tx73 ex74 tx74 c75)⟩ hP hS ⟨(Nat.le_of_ble_eq_true rfl), (Nat.le_of_ble_eq_true rfl)⟩ ⟨(Nat.le_of_ble_eq_true rfl), (Nat.le_of_ble_eq_true rfl)⟩ dX4_number_78
      · have c72 : r70.toInt ≤ x71.toInt := by have h := z_nlt c72; exact h
        refine lv_aload_n C.x C.b dX4_number_45 rfl (lv_at hl 2 rfl) ?_
        refine lv_iconst (v := 1) C.x C.b dX4_number_46 (by decide +kernel) ?_
        refine lv_iload_n C.x C.b dX4_number_47 rfl (lv_at hl 3 rfl) ?_
        refine lv_iconst (v := 0) C.x C.b dX4_number_48 (by decide +kernel) ?_
        refine lv_aload_n C.x C.b dX4_number_49 rfl (lv_at hl 2 rfl) ?_
        refine lv_iload_n C.x C.b dX4_number_50 rfl (lv_at hl 3 rfl) ?_
        refine lv_iload_n C.x C.b dX4_number_51 rfl (lv_at hl 1 rfl) ?_
        refine lv_iconst (v := 0) C.x C.b dX4_number_52 (by decide +kernel) ?_
        refine c_callVi (n := 3) (As := [.int k0, .int r1, .int 0]) (rest := [.int 0, .int k0, .int 1, .ref (ad 2)]) C hP hS hl.1 (NX4_digits l D cy ad A sz0 sa κ H.size (SLT H) C.f (fun q h => C.a q (Nat.le_trans hS.1 h)) k0 r1 (0 : Int32) (vX4_number_61 κ k0 r1 x2 r4 x69 r70 x71 hpre_0 hpre_1 hpre_2 hpre_5 hpre_6 hr1_0 hr1_1 ex2 tx2 c3 hr4_0 hr4_1 hr4_2 c5 ex69 tx69 hr70_0 hr70_1 ex71 tx71 c72)) ⟨cw_504, cw_507, by decide +kernel⟩ ⟨cw_505, cw_506, cw_484⟩ rfl (hP.recvS (k := 2) (ci := 6) C.K rfl rfl) rfl rfl (lv_room (Nat.le_of_ble_eq_true rfl)) ⟨Nat.le_of_ble_eq_true rfl, Nat.le_of_ble_eq_true rfl⟩ ⟨(Nat.le_of_ble_eq_true rfl), (Nat.le_of_ble_eq_true rfl)⟩ dX4_number_53 (fun r123 u H locs hr123 hP hS => ?_)
        have hr123 : True := hr123
        refine c_callSq (C2 := "") (b := 0) (n := 1) (As := [.int r123]) (rest := [.int 0, .int k0, .int 1, .ref (ad 2)]) C hP hS hl.1 (NX10_ofInt l D cy ad A sz0 sa κ H.size (SLT H) C.f (fun q h => C.a q (Nat.le_trans hS.1 h)) r123 hPV) ⟨cw_508, cw_97, by decide +kernel⟩ ⟨cw_96, cw_40⟩ rfl rfl (lv_room (Nat.le_of_ble_eq_true rfl)) ⟨Nat.le_of_ble_eq_true rfl, Nat.le_of_ble_eq_true rfl⟩ ⟨(Nat.le_of_ble_eq_true rfl), (Nat.le_of_ble_eq_true rfl)⟩ dX4_number_56 (fun r124 u H locs hr124 hP hS => ?_)
        obtain ⟨P125, rfl⟩ : ∃ z, z = u := ⟨_, rfl⟩
        have hP : CH D cy ad A (tP κ P125) H := hP
        have hr124 : (EX κ.2.2.2.2 P125) ∧ (PV sa P125) ∧ (NN P125 1 r124) := hr124
        obtain ⟨hr124_0, hr124_1, hr124_2⟩ := hr124
        obtain ⟨b126, rfl, tb126⟩ := hr124_2
        have svz127 : SV ad P125 (κ.2.1 0) (κ.2.1 1) (κ.2.2.2.1 6) (κ.2.2.2.1 7) (κ.2.2.2.1 8) (κ.2.2.2.1 13) (κ.2.2.2.1 15) (κ.2.2.2.1 17) (κ.1 1).toInt := hSV.ex hr124_0
        refine c_callVv (n := 4) (As := [.int 1, .int k0, .int 0, .ref b126]) (rest := []) C hP hS hl.1 (NX4_add l D cy ad A sz0 sa (tP κ P125) H.size (SLT H) C.f (fun q h => C.a q (Nat.le_trans hS.1 h)) (1 : Int32) k0 (0 : Int32) (some b126) (nt_s tb126) svz127 (vX4_number_12 κ hpre_3 hpre_4)) ⟨cw_509, cw_512, by decide +kernel⟩ ⟨cw_510, cw_511, cw_484⟩ rfl (hP.recvS (k := 2) (ci := 6) C.K rfl rfl) rfl rfl (lv_room (Nat.le_of_ble_eq_true rfl)) ⟨Nat.le_of_ble_eq_true rfl, Nat.le_of_ble_eq_true rfl⟩ ⟨(Nat.le_of_ble_eq_true rfl), (Nat.le_of_ble_eq_true rfl)⟩ dX4_number_59 (fun u H locs hr128 hP hS => ?_)
        obtain ⟨n129, F130, F131, F132, Z133⟩ := u
        have hP : CH D cy ad A (tQ (tA (tA (tA (tI (tP κ P125) 7 n129) 10 F130) 11 F131) 12 F132) 13 Z133) H := hP
        obtain ⟨hr128, hr128y⟩ := hr128
        have hr128y : (κ.1 7).toInt < 41 → ADc (κ.2.2.1 10) (κ.2.2.1 11) (κ.2.2.1 12) (κ.1 7) F130 F131 F132 n129 (1 : Int32) k0 (0 : Int32) := hr128y
        have hr128 : (SV ad P125 (κ.2.1 0) (κ.2.1 1) (κ.2.2.2.1 6) (κ.2.2.2.1 7) (κ.2.2.2.1 8) Z133 (κ.2.2.2.1 15) (κ.2.2.2.1 17) (κ.1 1).toInt) ∧ (0 ≤ n129.toInt ∧ n129.toInt ≤ 41) := hr128
        obtain ⟨hr128_0, hr128_1⟩ := hr128
        obtain ⟨hr128_1_0, hr128_1_1⟩ := hr128_1
        refine lv_iload_n C.x C.b dX4_number_62 rfl (lv_at hl 1 rfl) ?_
        exact c_reti C hsz hsl ⟨P125, n129, F130, F131, F132, Z133⟩ ⟨⟨hr124_0, hr124_1, hr128_0, (vX4_number_62 κ k0 r1 x2 r4 x69 r70 x71 n129 hpre_1 hpre_2 hpre_5 hpre_6 hr1_0 hr1_1 ex2 tx2 c3 hr4_0 hr4_1 hr4_2 c5 ex69 tx69 hr70_0 hr70_1 ex71 tx71 c72 hr128_1_0 hr128_1_1)⟩, (vX4_number_63 κ k0 r1 x2 r4 x69 r70 x71 n129 F130 F131 F132 hpre_0 hpre_1 hpre_2 hpre_3 hpre_4 hpre_5 hpre_6 hr1y hr1_0 hr1_1 ex2 tx2 c3 hr4y hr4_0 hr4_1 hr4_2 c5 ex69 tx69 hr70y hr70_0 hr70_1 ex71 tx71 c72 hr128y hr128_1_0 hr128_1_1)⟩ hP hS ⟨(Nat.le_of_ble_eq_true rfl), (Nat.le_of_ble_eq_true rfl)⟩ ⟨(Nat.le_of_ble_eq_true rfl), (Nat.le_of_ble_eq_true rfl)⟩ dX4_number_63
  · have c3 : 6 < x2.toInt := by have h := z_nle c3; rw [show (6 : Int32).toInt = 6 from by decide +kernel] at h; exact h
    refine lv_iconst (v := (-1)) C.x C.b dX4_number_14 (by decide +kernel) ?_
    have hP : CH D cy ad A (tQ (tA (tA (tA (tI (tP κ κ.2.2.2.2) 7 (κ.1 7)) 10 (κ.2.2.1 10)) 11 (κ.2.2.1 11)) 12 (κ.2.2.1 12)) 13 (κ.2.2.2.1 13)) H := CH.cong hP rfl rfl rfl rfl rfl rfl rfl rfl rfl rfl rfl rfl rfl rfl rfl rfl rfl rfl rfl rfl rfl rfl rfl rfl rfl rfl rfl
    exact c_reti C hsz hsl ⟨κ.2.2.2.2, (κ.1 7), (κ.2.2.1 10), (κ.2.2.1 11), (κ.2.2.1 12), (κ.2.2.2.1 13)⟩ ⟨⟨EX.rf, hPV, hSV, (vX4_number_29 κ hpre_3 hpre_4)⟩, (vX4_number_64 κ k0 r1 x2 hpre_0 hpre_1 hpre_2 hpre_3 hpre_4 hpre_5 hpre_6 hr1y hr1_0 hr1_1 ex2 tx2 c3)⟩ hP hS ⟨(Nat.le_of_ble_eq_true rfl), (Nat.le_of_ble_eq_true rfl)⟩ ⟨(Nat.le_of_ble_eq_true rfl), (Nat.le_of_ble_eq_true rfl)⟩ dX4_number_15
