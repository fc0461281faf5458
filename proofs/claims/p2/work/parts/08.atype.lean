-- post @65
theorem v_letter_1 (σ : RS) (k0 : Int32) (hpre_0 : 0 ≤ (σ.1 1).toInt) (hpre_1 : (σ.1 1).toInt ≤ 40) (c1 : k0.toInt < 32) : ((σ.1 1).toInt = (σ.1 1).toInt) ∧ (((k0.toInt < 32 ∨ 126 < k0.toInt) ∧ (1 : Int32).toInt = 1 ∧ (σ.1 1).toInt = (σ.1 1).toInt) ∨ (32 ≤ k0.toInt ∧ k0.toInt ≤ 126 ∧ (σ.1 1).toInt = 40 ∧ (1 : Int32).toInt = 2 ∧ (σ.1 1).toInt = (σ.1 1).toInt) ∨ (32 ≤ k0.toInt ∧ k0.toInt ≤ 126 ∧ (σ.1 1).toInt < 40 ∧ (1 : Int32).toInt = 0 ∧ (σ.1 1).toInt = (σ.1 1).toInt + 1)) := by
  have q1 : (1 : Int32).toInt = 1 := by decide +kernel
  refine ⟨?_, ?_⟩ <;> first | assumption | omega | (subst_vars; omega) | trivial
-- in@50 @50
theorem v_letter_2 (σ : RS) (hpre_0 : 0 ≤ (σ.1 1).toInt) (hpre_1 : (σ.1 1).toInt ≤ 40) (c4 : ¬ (σ.1 1).toInt = 40) : vp_in (σ.1 1) 40 := by
  exact vp_in_iff.mpr ⟨by omega, by omega⟩
-- nw@57 @57
theorem v_letter_3 (σ : RS) (x6 : Int32) (hpre_0 : 0 ≤ (σ.1 1).toInt) (hpre_1 : (σ.1 1).toInt ≤ 40) (c4 : ¬ (σ.1 1).toInt = 40) (ex6 : x6 = (σ.1 1) + (1 : Int32)) : x6.toInt = (σ.1 1).toInt + 1 := by
  have q1 : (1 : Int32).toInt = 1 := by decide +kernel
  have w1 : (1 : Int32).toInt = 1 := by decide +kernel
  rw [ex6, z_add (by omega) (by omega)]; first | done | omega
-- post @65
theorem v_letter_4 (σ : RS) (k0 : Int32) (x6 : Int32) (hpre_0 : 0 ≤ (σ.1 1).toInt) (hpre_1 : (σ.1 1).toInt ≤ 40) (c1 : 32 ≤ k0.toInt) (c3 : k0.toInt ≤ 126) (c4 : ¬ (σ.1 1).toInt = 40) (ex6 : x6 = (σ.1 1) + (1 : Int32)) (tx6 : x6.toInt = (σ.1 1).toInt + 1) : (x6.toInt = x6.toInt) ∧ (((k0.toInt < 32 ∨ 126 < k0.toInt) ∧ (0 : Int32).toInt = 1 ∧ x6.toInt = (σ.1 1).toInt) ∨ (32 ≤ k0.toInt ∧ k0.toInt ≤ 126 ∧ (σ.1 1).toInt = 40 ∧ (0 : Int32).toInt = 2 ∧ x6.toInt = (σ.1 1).toInt) ∨ (32 ≤ k0.toInt ∧ k0.toInt ≤ 126 ∧ (σ.1 1).toInt < 40 ∧ (0 : Int32).toInt = 0 ∧ x6.toInt = (σ.1 1).toInt + 1)) := by
  have q0 : (0 : Int32).toInt = 0 := by decide +kernel
  have q1 : (1 : Int32).toInt = 1 := by decide +kernel
  refine ⟨?_, ?_⟩ <;> first | assumption | omega | (subst_vars; omega) | trivial
-- post @65
theorem v_letter_5 (σ : RS) (k0 : Int32) (hpre_0 : 0 ≤ (σ.1 1).toInt) (hpre_1 : (σ.1 1).toInt ≤ 40) (c1 : 32 ≤ k0.toInt) (c3 : k0.toInt ≤ 126) (c4 : (σ.1 1).toInt = 40) : ((σ.1 1).toInt = (σ.1 1).toInt) ∧ (((k0.toInt < 32 ∨ 126 < k0.toInt) ∧ (2 : Int32).toInt = 1 ∧ (σ.1 1).toInt = (σ.1 1).toInt) ∨ (32 ≤ k0.toInt ∧ k0.toInt ≤ 126 ∧ (σ.1 1).toInt = 40 ∧ (2 : Int32).toInt = 2 ∧ (σ.1 1).toInt = (σ.1 1).toInt) ∨ (32 ≤ k0.toInt ∧ k0.toInt ≤ 126 ∧ (σ.1 1).toInt < 40 ∧ (2 : Int32).toInt = 0 ∧ (σ.1 1).toInt = (σ.1 1).toInt + 1)) := by
  have q2 : (2 : Int32).toInt = 2 := by decide +kernel
  refine ⟨?_, ?_⟩ <;> first | assumption | omega | (subst_vars; omega) | trivial
-- post @65
theorem v_letter_6 (σ : RS) (k0 : Int32) (hpre_0 : 0 ≤ (σ.1 1).toInt) (hpre_1 : (σ.1 1).toInt ≤ 40) (c1 : 32 ≤ k0.toInt) (c3 : 126 < k0.toInt) : ((σ.1 1).toInt = (σ.1 1).toInt) ∧ (((k0.toInt < 32 ∨ 126 < k0.toInt) ∧ (1 : Int32).toInt = 1 ∧ (σ.1 1).toInt = (σ.1 1).toInt) ∨ (32 ≤ k0.toInt ∧ k0.toInt ≤ 126 ∧ (σ.1 1).toInt = 40 ∧ (1 : Int32).toInt = 2 ∧ (σ.1 1).toInt = (σ.1 1).toInt) ∨ (32 ≤ k0.toInt ∧ k0.toInt ≤ 126 ∧ (σ.1 1).toInt < 40 ∧ (1 : Int32).toInt = 0 ∧ (σ.1 1).toInt = (σ.1 1).toInt + 1)) := by
  have q1 : (1 : Int32).toInt = 1 := by decide +kernel
  refine ⟨?_, ?_⟩ <;> first | assumption | omega | (subst_vars; omega) | trivial
set_option maxHeartbeats 4000000 in
set_option maxRecDepth 100000 in
theorem M_letter (l : Launch) (D : va_G) (cy : Nat → ClassId) (sz0 : Nat) (sa : Nat → Nat) (ad : Nat → Nat) (σ : RS) (sz : Nat) (k0 : Int32) (hpre : 0 ≤ (σ.1 1).toInt ∧ (σ.1 1).toInt ≤ 40) : Met l yX12_letter (Cond.code yX12_letter cX12_letter 2 (some .int) :: GWm) ({ frames := 0, cells := 0, slots := 0, locals := 0 }) (PcR D cy sz0 sa ad [.ref (ad 0), .int k0] σ sz) (va_Qi (fun (r : Int32) (u : Int32 × Int32 × (Nat → Int32)) => ((r.toInt = u.2.1.toInt) ∧ (((k0.toInt < 32 ∨ 126 < k0.toInt) ∧ u.1.toInt = 1 ∧ u.2.1.toInt = (σ.1 1).toInt) ∨ (32 ≤ k0.toInt ∧ k0.toInt ≤ 126 ∧ (σ.1 1).toInt = 40 ∧ u.1.toInt = 2 ∧ u.2.1.toInt = (σ.1 1).toInt) ∨ (32 ≤ k0.toInt ∧ k0.toInt ≤ 126 ∧ (σ.1 1).toInt < 40 ∧ u.1.toInt = 0 ∧ u.2.1.toInt = (σ.1 1).toInt + 1))) ∧ (u.1.toInt = 0 → u.2.2 = upd (σ.2.1 2) (σ.1 1).toNatClampNeg k0) ∧ (¬ u.1.toInt = 0 → u.2.2 = σ.2.1 2)) (fun (u : Int32 × Int32 × (Nat → Int32)) (t : State) => RP D cy ad (rA (rS (rS σ 0 u.1) 1 u.2.1) 2 u.2.2) t.heap) (AR cy ad sz)) 0 0 (AR cy ad sz) := by
  refine RM_of (loc0 := [(0, .ref (ad 0)), (1, .int k0)]) (by decide) rfl rfl (Nat.le_of_ble_eq_true rfl) ?_
  intro p e s m below meth c ls hsz C hP hS hl
  have hx := C.1
  have hb := C.2.1
  have hown := C.2.2.2.2.1
  have hw := C.2.2.2.2.2.1
  clear hsz
  obtain ⟨hpre_0, hpre_1⟩ := hpre
  refine lv_aload_n hx hb dX12_letter_0 rfl (lv_at hl 0 rfl) ?_
  refine lv_iload_n hx hb dX12_letter_1 rfl (lv_at hl 1 rfl) ?_
  refine lv_bipush (v := 32) hx hb dX12_letter_2 (by decide +kernel) ?_
  refine lv_icmp_lt (tgt := 13) hx hb dX12_letter_4 (by decide) (fun c1 => ?_) (fun c1 => ?_)
  · have c1 : k0.toInt < 32 := by have h := z_lt c1; rw [show (32 : Int32).toInt = 32 from by decide +kernel] at h; exact h
    refine lv_iconst (v := 1) hx hb dX12_letter_13 (by decide +kernel) ?_
    refine lv_goto (tgt := 31) hx hb dX12_letter_14 (by decide) ?_
    refine rp_0 C hP hS wm_1 dX12_letter_31 (fun H locs hP hS => ?_)
    refine lv_aload_n hx hb dX12_letter_34 rfl (lv_at hl 0 rfl) ?_
    refine rg_0 (v := 1) C hP rfl wm_1 dX12_letter_35 ?_
    refine lv_if_ne (tgt := 61) hx hb dX12_letter_38 (by decide) (fun _ => ?_) (fun c2 => absurd c2 (by decide +kernel))
    refine lv_aload_n hx hb dX12_letter_61 rfl (lv_at hl 0 rfl) ?_
    refine rg_1 (v := (σ.1 1)) C hP rfl wm_3 dX12_letter_62 ?_
    have hP : RP D cy ad (rA (rS (rS σ 0 (1 : Int32)) 1 (σ.1 1)) 2 (σ.2.1 2)) H := RP.cong hP (Eq.trans (b := (1 : Int32)) rfl rfl) (Eq.trans (b := (σ.1 1)) rfl rfl) (Eq.trans (b := (σ.2.1 2)) rfl rfl) (Eq.trans (b := (σ.1 3)) rfl rfl) (Eq.trans (b := (σ.2.1 4)) rfl rfl) (Eq.trans (b := (σ.2.1 5)) rfl rfl) (Eq.trans (b := (σ.2.2.1 6)) rfl rfl) (Eq.trans (b := (σ.2.1 7)) rfl rfl) (Eq.trans (b := (σ.1 8)) rfl rfl) (Eq.trans (b := (σ.1 9)) rfl rfl) (Eq.trans (b := (σ.1 10)) rfl rfl) (Eq.trans (b := (σ.2.1 11)) rfl rfl) (Eq.trans (b := (σ.2.2.1 12)) rfl rfl) (Eq.trans (b := (σ.2.1 13)) rfl rfl) (Eq.trans (b := (σ.1 14)) rfl rfl) (Eq.trans (b := (σ.1 15)) rfl rfl) (Eq.trans (b := (σ.1 16)) rfl rfl) (Eq.trans (b := (σ.1 17)) rfl rfl) (Eq.trans (b := (σ.1 18)) rfl rfl) (Eq.trans (b := (σ.1 19)) rfl rfl) (Eq.trans (b := (σ.2.1 20)) rfl rfl) (Eq.trans (b := (σ.2.1 21)) rfl rfl) (Eq.trans (b := (σ.2.1 22)) rfl rfl) (Eq.trans (b := (σ.2.1 23)) rfl rfl) (Eq.trans (b := (σ.2.1 24)) rfl rfl) (Eq.trans (b := (σ.2.1 25)) rfl rfl) (Eq.trans (b := (σ.2.1 26)) rfl rfl) (Eq.trans (b := (σ.2.1 27)) rfl rfl) (Eq.trans (b := (σ.2.1 28)) rfl rfl) (Eq.trans (b := (σ.1 29)) rfl rfl) (Eq.trans (b := (σ.2.1 30)) rfl rfl) (Eq.trans (b := (σ.2.1 31)) rfl rfl) (Eq.trans (b := (σ.2.1 32)) rfl rfl) (Eq.trans (b := (σ.1 33)) rfl rfl) (Eq.trans (b := (σ.1 34)) rfl rfl) (Eq.trans (b := (σ.1 35)) rfl rfl) (Eq.trans (b := (σ.2.1 36)) rfl rfl) (Eq.trans (b := (σ.2.1 37)) rfl rfl) (Eq.trans (b := (σ.2.1 38)) rfl rfl) (Eq.trans (b := (σ.2.1 39)) rfl rfl) (Eq.trans (b := (σ.2.1 40)) rfl rfl) (Eq.trans (b := (σ.2.1 41)) rfl rfl) (Eq.trans (b := (σ.2.1 42)) rfl rfl) (Eq.trans (b := (σ.2.1 43)) rfl rfl) (Eq.trans (b := (σ.2.1 44)) rfl rfl) (Eq.trans (b := (σ.2.1 45)) rfl rfl) (Eq.trans (b := (σ.2.1 46)) rfl rfl) (Eq.trans (b := (σ.1 47)) rfl rfl) (Eq.trans (b := (σ.2.1 48)) rfl rfl) (Eq.trans (b := (σ.1 49)) rfl rfl) (Eq.trans (b := (σ.2.1 50)) rfl rfl) (Eq.trans (b := (σ.2.1 51)) rfl rfl) (Eq.trans (b := (σ.2.2.1 52)) rfl rfl) (Eq.trans (b := (σ.2.2.1 53)) rfl rfl) (Eq.trans (b := (σ.2.2.2)) rfl rfl) (Eq.trans (b := (σ.1 55)) rfl rfl) (Eq.trans (b := (σ.1 56)) rfl rfl) (Eq.trans (b := (σ.1 57)) rfl rfl) (Eq.trans (b := (σ.2.1 58)) rfl rfl) (Eq.trans (b := (σ.1 59)) rfl rfl)
    exact r_reti C ⟨(1 : Int32), (σ.1 1), (σ.2.1 2)⟩ ⟨(v_letter_1 σ k0 hpre_0 hpre_1 c1), fun h => absurd (show (1 : Int32).toInt = 0 from h) (by decide +kernel), fun _ => rfl⟩ hP hS dX12_letter_65
  · have c1 : 32 ≤ k0.toInt := by have h := z_nlt c1; rw [show (32 : Int32).toInt = 32 from by decide +kernel] at h; exact h
    refine lv_iload_n hx hb dX12_letter_7 rfl (lv_at hl 1 rfl) ?_
    refine lv_bipush (v := 126) hx hb dX12_letter_8 (by decide +kernel) ?_
    refine lv_icmp_le (tgt := 17) hx hb dX12_letter_10 (by decide) (fun c3 => ?_) (fun c3 => ?_)
    · have c3 : k0.toInt ≤ 126 := by have h := z_le c3; rw [show (126 : Int32).toInt = 126 from by decide +kernel] at h; exact h
      refine lv_aload_n hx hb dX12_letter_17 rfl (lv_at hl 0 rfl) ?_
      refine rg_1 (v := (σ.1 1)) C hP rfl wm_3 dX12_letter_18 ?_
      refine lv_bipush (v := 40) hx hb dX12_letter_21 (by decide +kernel) ?_
      refine lv_icmp_ne (tgt := 30) hx hb dX12_letter_23 (by decide) (fun c4 => ?_) (fun c4 => ?_)
      · have c4 : ¬ (σ.1 1).toInt = 40 := by have h := z_ne c4; rw [show (40 : Int32).toInt = 40 from by decide +kernel] at h; exact h
        refine lv_iconst (v := 0) hx hb dX12_letter_30 (by decide +kernel) ?_
        refine rp_0 C hP hS wm_1 dX12_letter_31 (fun H locs hP hS => ?_)
        refine lv_aload_n hx hb dX12_letter_34 rfl (lv_at hl 0 rfl) ?_
        refine rg_0 (v := 0) C hP rfl wm_1 dX12_letter_35 ?_
        refine lv_if_ne (tgt := 61) hx hb dX12_letter_38 (by decide) (fun c5 => absurd (by decide +kernel) c5) (fun _ => ?_)
        refine lv_aload_n hx hb dX12_letter_41 rfl (lv_at hl 0 rfl) ?_
        refine rg_2 C hP wm_4 dX12_letter_42 ?_
        refine lv_aload_n hx hb dX12_letter_45 rfl (lv_at hl 0 rfl) ?_
        refine rg_1 (v := (σ.1 1)) C hP rfl wm_3 dX12_letter_46 ?_
        refine lv_iload_n hx hb dX12_letter_49 rfl (lv_at hl 1 rfl) ?_
        refine rw_2 (f := (σ.2.1 2)) C hP hS rfl (v_letter_2 σ hpre_0 hpre_1 c4) dX12_letter_50 (fun H locs hP hS => ?_)
        refine lv_aload_n hx hb dX12_letter_51 rfl (lv_at hl 0 rfl) ?_
        refine lv_dup hx hb dX12_letter_52 rfl ?_
        refine rg_1 (v := (σ.1 1)) C hP rfl wm_3 dX12_letter_53 ?_
        refine lv_iconst (v := 1) hx hb dX12_letter_56 (by decide +kernel) ?_
        refine lv_iadd hx hb dX12_letter_57 ?_
        refine lv_topi (fun x6 ex6 => ?_)
        have tx6 : x6.toInt = (σ.1 1).toInt + 1 := (v_letter_3 σ x6 hpre_0 hpre_1 c4 ex6)
        refine rp_1 C hP hS wm_3 dX12_letter_58 (fun H locs hP hS => ?_)
        refine lv_aload_n hx hb dX12_letter_61 rfl (lv_at hl 0 rfl) ?_
        refine rg_1 (v := x6) C hP rfl wm_3 dX12_letter_62 ?_
        have hP : RP D cy ad (rA (rS (rS σ 0 (0 : Int32)) 1 x6) 2 (upd (σ.2.1 2) (σ.1 1).toNatClampNeg k0)) H := RP.cong hP (Eq.trans (b := (0 : Int32)) rfl rfl) (Eq.trans (b := x6) rfl rfl) (Eq.trans (b := (upd (σ.2.1 2) (σ.1 1).toNatClampNeg k0)) rfl rfl) (Eq.trans (b := (σ.1 3)) rfl rfl) (Eq.trans (b := (σ.2.1 4)) rfl rfl) (Eq.trans (b := (σ.2.1 5)) rfl rfl) (Eq.trans (b := (σ.2.2.1 6)) rfl rfl) (Eq.trans (b := (σ.2.1 7)) rfl rfl) (Eq.trans (b := (σ.1 8)) rfl rfl) (Eq.trans (b := (σ.1 9)) rfl rfl) (Eq.trans (b := (σ.1 10)) rfl rfl) (Eq.trans (b := (σ.2.1 11)) rfl rfl) (Eq.trans (b := (σ.2.2.1 12)) rfl rfl) (Eq.trans (b := (σ.2.1 13)) rfl rfl) (Eq.trans (b := (σ.1 14)) rfl rfl) (Eq.trans (b := (σ.1 15)) rfl rfl) (Eq.trans (b := (σ.1 16)) rfl rfl) (Eq.trans (b := (σ.1 17)) rfl rfl) (Eq.trans (b := (σ.1 18)) rfl rfl) (Eq.trans (b := (σ.1 19)) rfl rfl) (Eq.trans (b := (σ.2.1 20)) rfl rfl) (Eq.trans (b := (σ.2.1 21)) rfl rfl) (Eq.trans (b := (σ.2.1 22)) rfl rfl) (Eq.trans (b := (σ.2.1 23)) rfl rfl) (Eq.trans (b := (σ.2.1 24)) rfl rfl) (Eq.trans (b := (σ.2.1 25)) rfl rfl) (Eq.trans (b := (σ.2.1 26)) rfl rfl) (Eq.trans (b := (σ.2.1 27)) rfl rfl) (Eq.trans (b := (σ.2.1 28)) rfl rfl) (Eq.trans (b := (σ.1 29)) rfl rfl) (Eq.trans (b := (σ.2.1 30)) rfl rfl) (Eq.trans (b := (σ.2.1 31)) rfl rfl) (Eq.trans (b := (σ.2.1 32)) rfl rfl) (Eq.trans (b := (σ.1 33)) rfl rfl) (Eq.trans (b := (σ.1 34)) rfl rfl) (Eq.trans (b := (σ.1 35)) rfl rfl) (Eq.trans (b := (σ.2.1 36)) rfl rfl) (Eq.trans (b := (σ.2.1 37)) rfl rfl) (Eq.trans (b := (σ.2.1 38)) rfl rfl) (Eq.trans (b := (σ.2.1 39)) rfl rfl) (Eq.trans (b := (σ.2.1 40)) rfl rfl) (Eq.trans (b := (σ.2.1 41)) rfl rfl) (Eq.trans (b := (σ.2.1 42)) rfl rfl) (Eq.trans (b := (σ.2.1 43)) rfl rfl) (Eq.trans (b := (σ.2.1 44)) rfl rfl) (Eq.trans (b := (σ.2.1 45)) rfl rfl) (Eq.trans (b := (σ.2.1 46)) rfl rfl) (Eq.trans (b := (σ.1 47)) rfl rfl) (Eq.trans (b := (σ.2.1 48)) rfl rfl) (Eq.trans (b := (σ.1 49)) rfl rfl) (Eq.trans (b := (σ.2.1 50)) rfl rfl) (Eq.trans (b := (σ.2.1 51)) rfl rfl) (Eq.trans (b := (σ.2.2.1 52)) rfl rfl) (Eq.trans (b := (σ.2.2.1 53)) rfl rfl) (Eq.trans (b := (σ.2.2.2)) rfl rfl) (Eq.trans (b := (σ.1 55)) rfl rfl) (Eq.trans (b := (σ.1 56)) rfl rfl) (Eq.trans (b := (σ.1 57)) rfl rfl) (Eq.trans (b := (σ.2.1 58)) rfl rfl) (Eq.trans (b := (σ.1 59)) rfl rfl)
        exact r_reti C ⟨(0 : Int32), x6, (upd (σ.2.1 2) (σ.1 1).toNatClampNeg k0)⟩ ⟨(v_letter_4 σ k0 x6 hpre_0 hpre_1 c1 c3 c4 ex6 tx6), fun _ => rfl, fun h => absurd (show (0 : Int32).toInt = 0 by decide +kernel) h⟩ hP hS dX12_letter_65
      · have c4 : (σ.1 1).toInt = 40 := by have h := z_eq c4; rw [show (40 : Int32).toInt = 40 from by decide +kernel] at h; exact h
        refine lv_iconst (v := 2) hx hb dX12_letter_26 (by decide +kernel) ?_
        refine lv_goto (tgt := 31) hx hb dX12_letter_27 (by decide) ?_
        refine rp_0 C hP hS wm_1 dX12_letter_31 (fun H locs hP hS => ?_)
        refine lv_aload_n hx hb dX12_letter_34 rfl (lv_at hl 0 rfl) ?_
        refine rg_0 (v := 2) C hP rfl wm_1 dX12_letter_35 ?_
        refine lv_if_ne (tgt := 61) hx hb dX12_letter_38 (by decide) (fun _ => ?_) (fun c7 => absurd c7 (by decide +kernel))
        refine lv_aload_n hx hb dX12_letter_61 rfl (lv_at hl 0 rfl) ?_
        refine rg_1 (v := (σ.1 1)) C hP rfl wm_3 dX12_letter_62 ?_
        have hP : RP D cy ad (rA (rS (rS σ 0 (2 : Int32)) 1 (σ.1 1)) 2 (σ.2.1 2)) H := RP.cong hP (Eq.trans (b := (2 : Int32)) rfl rfl) (Eq.trans (b := (σ.1 1)) rfl rfl) (Eq.trans (b := (σ.2.1 2)) rfl rfl) (Eq.trans (b := (σ.1 3)) rfl rfl) (Eq.trans (b := (σ.2.1 4)) rfl rfl) (Eq.trans (b := (σ.2.1 5)) rfl rfl) (Eq.trans (b := (σ.2.2.1 6)) rfl rfl) (Eq.trans (b := (σ.2.1 7)) rfl rfl) (Eq.trans (b := (σ.1 8)) rfl rfl) (Eq.trans (b := (σ.1 9)) rfl rfl) (Eq.trans (b := (σ.1 10)) rfl rfl) (Eq.trans (b := (σ.2.1 11)) rfl rfl) (Eq.trans (b := (σ.2.2.1 12)) rfl rfl) (Eq.trans (b := (σ.2.1 13)) rfl rfl) (Eq.trans (b := (σ.1 14)) rfl rfl) (Eq.trans (b := (σ.1 15)) rfl rfl) (Eq.trans (b := (σ.1 16)) rfl rfl) (Eq.trans (b := (σ.1 17)) rfl rfl) (Eq.trans (b := (σ.1 18)) rfl rfl) (Eq.trans (b := (σ.1 19)) rfl rfl) (Eq.trans (b := (σ.2.1 20)) rfl rfl) (Eq.trans (b := (σ.2.1 21)) rfl rfl) (Eq.trans (b := (σ.2.1 22)) rfl rfl) (Eq.trans (b := (σ.2.1 23)) rfl rfl) (Eq.trans (b := (σ.2.1 24)) rfl rfl) (Eq.trans (b := (σ.2.1 25)) rfl rfl) (Eq.trans (b := (σ.2.1 26)) rfl rfl) (Eq.trans (b := (σ.2.1 27)) rfl rfl) (Eq.trans (b := (σ.2.1 28)) rfl rfl) (Eq.trans (b := (σ.1 29)) rfl rfl) (Eq.trans (b := (σ.2.1 30)) rfl rfl) (Eq.trans (b := (σ.2.1 31)) rfl rfl) (Eq.trans (b := (σ.2.1 32)) rfl rfl) (Eq.trans (b := (σ.1 33)) rfl rfl) (Eq.trans (b := (σ.1 34)) rfl rfl) (Eq.trans (b := (σ.1 35)) rfl rfl) (Eq.trans (b := (σ.2.1 36)) rfl rfl) (Eq.trans (b := (σ.2.1 37)) rfl rfl) (Eq.trans (b := (σ.2.1 38)) rfl rfl) (Eq.trans (b := (σ.2.1 39)) rfl rfl) (Eq.trans (b := (σ.2.1 40)) rfl rfl) (Eq.trans (b := (σ.2.1 41)) rfl rfl) (Eq.trans (b := (σ.2.1 42)) rfl rfl) (Eq.trans (b := (σ.2.1 43)) rfl rfl) (Eq.trans (b := (σ.2.1 44)) rfl rfl) (Eq.trans (b := (σ.2.1 45)) rfl rfl) (Eq.trans (b := (σ.2.1 46)) rfl rfl) (Eq.trans (b := (σ.1 47)) rfl rfl) (Eq.trans (b := (σ.2.1 48)) rfl rfl) (Eq.trans (b := (σ.1 49)) rfl rfl) (Eq.trans (b := (σ.2.1 50)) rfl rfl) (Eq.trans (b := (σ.2.1 51)) rfl rfl) (Eq.trans (b := (σ.2.2.1 52)) rfl rfl) (Eq.trans (b := (σ.2.2.1 53)) rfl rfl) (Eq.trans (b := (σ.2.2.2)) rfl rfl) (Eq.trans (b := (σ.1 55)) rfl rfl) (Eq.trans (b := (σ.1 56)) rfl rfl) (Eq.trans (b := (σ.1 57)) rfl rfl) (Eq.trans (b := (σ.2.1 58)) rfl rfl) (Eq.trans (b := (σ.1 59)) rfl rfl)
        exact r_reti C ⟨(2 : Int32), (σ.1 1), (σ.2.1 2)⟩ ⟨(v_letter_5 σ k0 hpre_0 hpre_1 c1 c3 c4), fun h => absurd (show (2 : Int32).toInt = 0 from h) (by decide +kernel), fun _ => rfl⟩ hP hS dX12_letter_65
    · have c3 : 126 < k0.toInt := by have h := z_nle c3; rw [show (126 : Int32).toInt = 126 from by decide +kernel] at h; exact h
      refine lv_iconst (v := 1) hx hb dX12_letter_13 (by decide +kernel) ?_
      refine lv_goto (tgt := 31) hx hb dX12_letter_14 (by decide) ?_
      refine rp_0 C hP hS wm_1 dX12_letter_31 (fun H locs hP hS => ?_)
      refine lv_aload_n hx hb dX12_letter_34 rfl (lv_at hl 0 rfl) ?_
      refine rg_0 (v := 1) C hP rfl wm_1 dX12_letter_35 ?_
      refine lv_if_ne (tgt := 61) hx hb dX12_letter_38 (by decide) (fun _ => ?_) (fun c8 => absurd c8 (by decide +kernel))
      refine lv_aload_n hx hb dX12_letter_61 rfl (lv_at hl 0 rfl) ?_
      refine rg_1 (v := (σ.1 1)) C hP rfl wm_3 dX12_letter_62 ?_
      have hP : RP D cy ad (rA (rS (rS σ 0 (1 : Int32)) 1 (σ.1 1)) 2 (σ.2.1 2)) H := RP.cong hP (Eq.trans (b := (1 : Int32)) rfl rfl) (Eq.trans (b := (σ.1 1)) rfl rfl) (Eq.trans (b := (σ.2.1 2)) rfl rfl) (Eq.trans (b := (σ.1 3)) rfl rfl) (Eq.trans (b := (σ.2.1 4)) rfl rfl) (Eq.trans (b := (σ.2.1 5)) rfl rfl) (Eq.trans (b := (σ.2.2.1 6)) rfl rfl) (Eq.trans (b := (σ.2.1 7)) rfl rfl) (Eq.trans (b := (σ.1 8)) rfl rfl) (Eq.trans (b := (σ.1 9)) rfl rfl) (Eq.trans (b := (σ.1 10)) rfl rfl) (Eq.trans (b := (σ.2.1 11)) rfl rfl) (Eq.trans (b := (σ.2.2.1 12)) rfl rfl) (Eq.trans (b := (σ.2.1 13)) rfl rfl) (Eq.trans (b := (σ.1 14)) rfl rfl) (Eq.trans (b := (σ.1 15)) rfl rfl) (Eq.trans (b := (σ.1 16)) rfl rfl) (Eq.trans (b := (σ.1 17)) rfl rfl) (Eq.trans (b := (σ.1 18)) rfl rfl) (Eq.trans (b := (σ.1 19)) rfl rfl) (Eq.trans (b := (σ.2.1 20)) rfl rfl) (Eq.trans (b := (σ.2.1 21)) rfl rfl) (Eq.trans (b := (σ.2.1 22)) rfl rfl) (Eq.trans (b := (σ.2.1 23)) rfl rfl) (Eq.trans (b := (σ.2.1 24)) rfl rfl) (Eq.trans (b := (σ.2.1 25)) rfl rfl) (Eq.trans (b := (σ.2.1 26)) rfl rfl) (Eq.trans (b := (σ.2.1 27)) rfl rfl) (Eq.trans (b := (σ.2.1 28)) rfl rfl) (Eq.trans (b := (σ.1 29)) rfl rfl) (Eq.trans (b := (σ.2.1 30)) rfl rfl) (Eq.trans (b := (σ.2.1 31)) rfl rfl) (Eq.trans (b := (σ.2.1 32)) rfl rfl) (Eq.trans (b := (σ.1 33)) rfl rfl) (Eq.trans (b := (σ.1 34)) rfl rfl) (Eq.trans (b := (σ.1 35)) rfl rfl) (Eq.trans (b := (σ.2.1 36)) rfl rfl) (Eq.trans (b := (σ.2.1 37)) rfl rfl) (Eq.trans (b := (σ.2.1 38)) rfl rfl) (Eq.trans (b := (σ.2.1 39)) rfl rfl) (Eq.trans (b := (σ.2.1 40)) rfl rfl) (Eq.trans (b := (σ.2.1 41)) rfl rfl) (Eq.trans (b := (σ.2.1 42)) rfl rfl) (Eq.trans (b := (σ.2.1 43)) rfl rfl) (Eq.trans (b := (σ.2.1 44)) rfl rfl) (Eq.trans (b := (σ.2.1 45)) rfl rfl) (Eq.trans (b := (σ.2.1 46)) rfl rfl) (Eq.trans (b := (σ.1 47)) rfl rfl) (Eq.trans (b := (σ.2.1 48)) rfl rfl) (Eq.trans (b := (σ.1 49)) rfl rfl) (Eq.trans (b := (σ.2.1 50)) rfl rfl) (Eq.trans (b := (σ.2.1 51)) rfl rfl) (Eq.trans (b := (σ.2.2.1 52)) rfl rfl) (Eq.trans (b := (σ.2.2.1 53)) rfl rfl) (Eq.trans (b := (σ.2.2.2)) rfl rfl) (Eq.trans (b := (σ.1 55)) rfl rfl) (Eq.trans (b := (σ.1 56)) rfl rfl) (Eq.trans (b := (σ.1 57)) rfl rfl) (Eq.trans (b := (σ.2.1 58)) rfl rfl) (Eq.trans (b := (σ.1 59)) rfl rfl)
      exact r_reti C ⟨(1 : Int32), (σ.1 1), (σ.2.1 2)⟩ ⟨(v_letter_6 σ k0 hpre_0 hpre_1 c1 c3), fun h => absurd (show (1 : Int32).toInt = 0 from h) (by decide +kernel), fun _ => rfl⟩ hP hS dX12_letter_65

-- post @17
theorem v_isClass_1 (σ : RS) (k0 : Int32) (c1 : k0.toInt < 0) : ((0 : Int32).toInt = 0 ∧ ¬ (0 ≤ k0.toInt ∧ k0.toInt < (σ.1 35).toInt)) ∨ ((0 : Int32).toInt = 1 ∧ (0 ≤ k0.toInt ∧ k0.toInt < (σ.1 35).toInt)) := by
  have q0 : (0 : Int32).toInt = 0 := by decide +kernel
  first | assumption | omega | (subst_vars; omega) | trivial
-- bool@ret @17
theorem v_isClass_2   : (0 : Int32) = 0 ∨ (0 : Int32) = 1 := by
  have q0 : (0 : Int32).toInt = 0 := by decide +kernel
  first | exact Or.inl rfl | exact Or.inr rfl | exact bool_of (by omega)
-- post @17
theorem v_isClass_3 (σ : RS) (k0 : Int32) (c1 : 0 ≤ k0.toInt) (c2 : (σ.1 35).toInt ≤ k0.toInt) : ((0 : Int32).toInt = 0 ∧ ¬ (0 ≤ k0.toInt ∧ k0.toInt < (σ.1 35).toInt)) ∨ ((0 : Int32).toInt = 1 ∧ (0 ≤ k0.toInt ∧ k0.toInt < (σ.1 35).toInt)) := by
  have q0 : (0 : Int32).toInt = 0 := by decide +kernel
  first | assumption | omega | (subst_vars; omega) | trivial
-- post @17
theorem v_isClass_4 (σ : RS) (k0 : Int32) (c1 : 0 ≤ k0.toInt) (c2 : k0.toInt < (σ.1 35).toInt) : ((1 : Int32).toInt = 0 ∧ ¬ (0 ≤ k0.toInt ∧ k0.toInt < (σ.1 35).toInt)) ∨ ((1 : Int32).toInt = 1 ∧ (0 ≤ k0.toInt ∧ k0.toInt < (σ.1 35).toInt)) := by
  have q1 : (1 : Int32).toInt = 1 := by decide +kernel
  first | assumption | omega | (subst_vars; omega) | trivial
-- bool@ret @17
theorem v_isClass_5   : (1 : Int32) = 0 ∨ (1 : Int32) = 1 := by
  have q1 : (1 : Int32).toInt = 1 := by decide +kernel
  first | exact Or.inl rfl | exact Or.inr rfl | exact bool_of (by omega)
set_option maxHeartbeats 4000000 in
set_option maxRecDepth 100000 in
theorem M_isClass (l : Launch) (D : va_G) (cy : Nat → ClassId) (sz0 : Nat) (sa : Nat → Nat) (ad : Nat → Nat) (σ : RS) (sz : Nat) (k0 : Int32) (hpre : True) : Met l yX12_isClass (Cond.code yX12_isClass cX12_isClass 2 (some .boolean) :: GWm) ({ frames := 0, cells := 0, slots := 0, locals := 0 }) (PcR D cy sz0 sa ad [.ref (ad 0), .int k0] σ sz) (va_Qi (fun (r : Int32) (u : Unit) => (r.toInt = 0 ∧ ¬ (0 ≤ k0.toInt ∧ k0.toInt < (σ.1 35).toInt)) ∨ (r.toInt = 1 ∧ (0 ≤ k0.toInt ∧ k0.toInt < (σ.1 35).toInt))) (fun (u : Unit) (t : State) => RP D cy ad σ t.heap) (AR cy ad sz)) 0 0 (AR cy ad sz) := by
  refine RM_of (loc0 := [(0, .ref (ad 0)), (1, .int k0)]) (by decide) rfl rfl (Nat.le_of_ble_eq_true rfl) ?_
  intro p e s m below meth c ls hsz C hP hS hl
  have hx := C.1
  have hb := C.2.1
  have hown := C.2.2.2.2.1
  have hw := C.2.2.2.2.2.1
  clear hsz
  refine lv_iload_n hx hb dX12_isClass_0 rfl (lv_at hl 1 rfl) ?_
  refine lv_if_lt (tgt := 16) hx hb dX12_isClass_1 (by decide) (fun c1 => ?_) (fun c1 => ?_)
  · have c1 : k0.toInt < 0 := by have h := z_lt c1; rw [show (0 : Int32).toInt = 0 from by decide +kernel] at h; exact h
    refine lv_iconst (v := 0) hx hb dX12_isClass_16 (by decide +kernel) ?_
    exact r_retz C () (v_isClass_2  ) (v_isClass_1 σ k0 c1) hP hS dX12_isClass_17
  · have c1 : 0 ≤ k0.toInt := by have h := z_nlt c1; rw [show (0 : Int32).toInt = 0 from by decide +kernel] at h; exact h
    refine lv_iload_n hx hb dX12_isClass_4 rfl (lv_at hl 1 rfl) ?_
    refine lv_aload_n hx hb dX12_isClass_5 rfl (lv_at hl 0 rfl) ?_
    refine rg_35 (v := (σ.1 35)) C hP rfl wm_174 dX12_isClass_6 ?_
    refine lv_icmp_ge (tgt := 16) hx hb dX12_isClass_9 (by decide) (fun c2 => ?_) (fun c2 => ?_)
    · have c2 : (σ.1 35).toInt ≤ k0.toInt := by have h := z_le c2; exact h
      refine lv_iconst (v := 0) hx hb dX12_isClass_16 (by decide +kernel) ?_
      exact r_retz C () (v_isClass_2  ) (v_isClass_3 σ k0 c1 c2) hP hS dX12_isClass_17
    · have c2 : k0.toInt < (σ.1 35).toInt := by have h := z_nle c2; exact h
      refine lv_iconst (v := 1) hx hb dX12_isClass_12 (by decide +kernel) ?_
      refine lv_goto (tgt := 17) hx hb dX12_isClass_13 (by decide) ?_
      exact r_retz C () (v_isClass_5  ) (v_isClass_4 σ k0 c1 c2) hP hS dX12_isClass_17

-- post @32
theorem v_isType_1 (σ : RS) (k0 : Int32) (hpre_0 : 0 ≤ (σ.1 35).toInt) (hpre_1 : (σ.1 35).toInt ≤ 5) (c1 : k0.toInt < 1) (c2 : k0.toInt < 8) : ((0 : Int32).toInt = 0 ∧ ¬ ((1 ≤ k0.toInt ∧ k0.toInt ≤ 5) ∨ (8 ≤ k0.toInt ∧ k0.toInt < 8 + (σ.1 35).toInt))) ∨ ((0 : Int32).toInt = 1 ∧ ((1 ≤ k0.toInt ∧ k0.toInt ≤ 5) ∨ (8 ≤ k0.toInt ∧ k0.toInt < 8 + (σ.1 35).toInt))) := by
  have q0 : (0 : Int32).toInt = 0 := by decide +kernel
  first | assumption | omega | (subst_vars; omega) | trivial
-- bool@ret @32
theorem v_isType_2   : (0 : Int32) = 0 ∨ (0 : Int32) = 1 := by
  have q0 : (0 : Int32).toInt = 0 := by decide +kernel
  first | exact Or.inl rfl | exact Or.inr rfl | exact bool_of (by omega)
-- dead@13 @16
theorem v_isType_3 (k0 : Int32) (c1 : k0.toInt < 1) (c2 : 8 ≤ k0.toInt) : False := by
  first | assumption | omega | (subst_vars; omega) | trivial
-- post @32
theorem v_isType_4 (σ : RS) (k0 : Int32) (hpre_0 : 0 ≤ (σ.1 35).toInt) (hpre_1 : (σ.1 35).toInt ≤ 5) (c1 : 1 ≤ k0.toInt) (c3 : k0.toInt ≤ 5) : ((1 : Int32).toInt = 0 ∧ ¬ ((1 ≤ k0.toInt ∧ k0.toInt ≤ 5) ∨ (8 ≤ k0.toInt ∧ k0.toInt < 8 + (σ.1 35).toInt))) ∨ ((1 : Int32).toInt = 1 ∧ ((1 ≤ k0.toInt ∧ k0.toInt ≤ 5) ∨ (8 ≤ k0.toInt ∧ k0.toInt < 8 + (σ.1 35).toInt))) := by
  have q1 : (1 : Int32).toInt = 1 := by decide +kernel
  first | assumption | omega | (subst_vars; omega) | trivial
-- bool@ret @32
theorem v_isType_5   : (1 : Int32) = 0 ∨ (1 : Int32) = 1 := by
  have q1 : (1 : Int32).toInt = 1 := by decide +kernel
  first | exact Or.inl rfl | exact Or.inr rfl | exact bool_of (by omega)
-- post @32
theorem v_isType_6 (σ : RS) (k0 : Int32) (hpre_0 : 0 ≤ (σ.1 35).toInt) (hpre_1 : (σ.1 35).toInt ≤ 5) (c1 : 1 ≤ k0.toInt) (c3 : 5 < k0.toInt) (c4 : k0.toInt < 8) : ((0 : Int32).toInt = 0 ∧ ¬ ((1 ≤ k0.toInt ∧ k0.toInt ≤ 5) ∨ (8 ≤ k0.toInt ∧ k0.toInt < 8 + (σ.1 35).toInt))) ∨ ((0 : Int32).toInt = 1 ∧ ((1 ≤ k0.toInt ∧ k0.toInt ≤ 5) ∨ (8 ≤ k0.toInt ∧ k0.toInt < 8 + (σ.1 35).toInt))) := by
  have q0 : (0 : Int32).toInt = 0 := by decide +kernel
  first | assumption | omega | (subst_vars; omega) | trivial
-- nw@20 @20
theorem v_isType_7 (k0 : Int32) (x5 : Int32) (c1 : 1 ≤ k0.toInt) (c3 : 5 < k0.toInt) (c4 : 8 ≤ k0.toInt) (ex5 : x5 = k0 - (8 : Int32)) : x5.toInt = k0.toInt - 8 := by
  have q8 : (8 : Int32).toInt = 8 := by decide +kernel
  have u0 := Int32.toInt_lt k0; have v0 := Int32.le_toInt k0
  have w1 : (8 : Int32).toInt = 8 := by decide +kernel
  rw [ex5, z_sub (by omega) (by omega)]; first | done | omega
-- post @32
theorem v_isType_8 (σ : RS) (k0 : Int32) (x5 : Int32) (hpre_0 : 0 ≤ (σ.1 35).toInt) (hpre_1 : (σ.1 35).toInt ≤ 5) (c1 : 1 ≤ k0.toInt) (c3 : 5 < k0.toInt) (c4 : 8 ≤ k0.toInt) (ex5 : x5 = k0 - (8 : Int32)) (tx5 : x5.toInt = k0.toInt - 8) (hr6 : ¬ (0 ≤ x5.toInt ∧ x5.toInt < (σ.1 35).toInt)) : ((0 : Int32).toInt = 0 ∧ ¬ ((1 ≤ k0.toInt ∧ k0.toInt ≤ 5) ∨ (8 ≤ k0.toInt ∧ k0.toInt < 8 + (σ.1 35).toInt))) ∨ ((0 : Int32).toInt = 1 ∧ ((1 ≤ k0.toInt ∧ k0.toInt ≤ 5) ∨ (8 ≤ k0.toInt ∧ k0.toInt < 8 + (σ.1 35).toInt))) := by
  have q0 : (0 : Int32).toInt = 0 := by decide +kernel
  have q8 : (8 : Int32).toInt = 8 := by decide +kernel
  first | assumption | omega | (subst_vars; omega) | trivial
-- post @32
theorem v_isType_9 (σ : RS) (k0 : Int32) (x5 : Int32) (hpre_0 : 0 ≤ (σ.1 35).toInt) (hpre_1 : (σ.1 35).toInt ≤ 5) (c1 : 1 ≤ k0.toInt) (c3 : 5 < k0.toInt) (c4 : 8 ≤ k0.toInt) (ex5 : x5 = k0 - (8 : Int32)) (tx5 : x5.toInt = k0.toInt - 8) (hr6_0 : 0 ≤ x5.toInt) (hr6_1 : x5.toInt < (σ.1 35).toInt) : ((1 : Int32).toInt = 0 ∧ ¬ ((1 ≤ k0.toInt ∧ k0.toInt ≤ 5) ∨ (8 ≤ k0.toInt ∧ k0.toInt < 8 + (σ.1 35).toInt))) ∨ ((1 : Int32).toInt = 1 ∧ ((1 ≤ k0.toInt ∧ k0.toInt ≤ 5) ∨ (8 ≤ k0.toInt ∧ k0.toInt < 8 + (σ.1 35).toInt))) := by
  have q1 : (1 : Int32).toInt = 1 := by decide +kernel
  have q8 : (8 : Int32).toInt = 8 := by decide +kernel
  first | assumption | omega | (subst_vars; omega) | trivial
set_option maxHeartbeats 4000000 in
set_option maxRecDepth 100000 in
theorem M_isType (l : Launch) (D : va_G) (cy : Nat → ClassId) (sz0 : Nat) (sa : Nat → Nat) (ad : Nat → Nat) (σ : RS) (sz : Nat) (k0 : Int32) (hpre : 0 ≤ (σ.1 35).toInt ∧ (σ.1 35).toInt ≤ 5) : Met l yX12_isType (Cond.code yX12_isType cX12_isType 2 (some .boolean) :: GWm) ({ frames := 1, cells := 0, slots := 0, locals := 21 }) (PcR D cy sz0 sa ad [.ref (ad 0), .int k0] σ sz) (va_Qi (fun (r : Int32) (u : Unit) => (r.toInt = 0 ∧ ¬ ((1 ≤ k0.toInt ∧ k0.toInt ≤ 5) ∨ (8 ≤ k0.toInt ∧ k0.toInt < 8 + (σ.1 35).toInt))) ∨ (r.toInt = 1 ∧ ((1 ≤ k0.toInt ∧ k0.toInt ≤ 5) ∨ (8 ≤ k0.toInt ∧ k0.toInt < 8 + (σ.1 35).toInt)))) (fun (u : Unit) (t : State) => RP D cy ad σ t.heap) (AR cy ad sz)) 0 0 (AR cy ad sz) := by
  refine RM_of (loc0 := [(0, .ref (ad 0)), (1, .int k0)]) (by decide) rfl rfl (Nat.le_of_ble_eq_true rfl) ?_
  intro p e s m below meth c ls hsz C hP hS hl
  have hx := C.1
  have hb := C.2.1
  have hown := C.2.2.2.2.1
  have hw := C.2.2.2.2.2.1
  clear hsz
  obtain ⟨hpre_0, hpre_1⟩ := hpre
  refine lv_iload_n hx hb dX12_isType_0 rfl (lv_at hl 1 rfl) ?_
  refine lv_iconst (v := 1) hx hb dX12_isType_1 (by decide +kernel) ?_
  refine lv_icmp_lt (tgt := 10) hx hb dX12_isType_2 (by decide) (fun c1 => ?_) (fun c1 => ?_)
  · have c1 : k0.toInt < 1 := by have h := z_lt c1; rw [show (1 : Int32).toInt = 1 from by decide +kernel] at h; exact h
    refine lv_iload_n hx hb dX12_isType_10 rfl (lv_at hl 1 rfl) ?_
    refine lv_bipush (v := 8) hx hb dX12_isType_11 (by decide +kernel) ?_
    refine lv_icmp_lt (tgt := 31) hx hb dX12_isType_13 (by decide) (fun c2 => ?_) (fun c2 => ?_)
    · have c2 : k0.toInt < 8 := by have h := z_lt c2; rw [show (8 : Int32).toInt = 8 from by decide +kernel] at h; exact h
      refine lv_iconst (v := 0) hx hb dX12_isType_31 (by decide +kernel) ?_
      exact r_retz C () (v_isType_2  ) (v_isType_1 σ k0 hpre_0 hpre_1 c1 c2) hP hS dX12_isType_32
    · have c2 : 8 ≤ k0.toInt := by have h := z_nlt c2; rw [show (8 : Int32).toInt = 8 from by decide +kernel] at h; exact h
      exact absurd (v_isType_3 k0 c1 c2) id
  · have c1 : 1 ≤ k0.toInt := by have h := z_nlt c1; rw [show (1 : Int32).toInt = 1 from by decide +kernel] at h; exact h
    refine lv_iload_n hx hb dX12_isType_5 rfl (lv_at hl 1 rfl) ?_
    refine lv_iconst (v := 5) hx hb dX12_isType_6 (by decide +kernel) ?_
    refine lv_icmp_le (tgt := 27) hx hb dX12_isType_7 (by decide) (fun c3 => ?_) (fun c3 => ?_)
    · have c3 : k0.toInt ≤ 5 := by have h := z_le c3; rw [show (5 : Int32).toInt = 5 from by decide +kernel] at h; exact h
      refine lv_iconst (v := 1) hx hb dX12_isType_27 (by decide +kernel) ?_
      refine lv_goto (tgt := 32) hx hb dX12_isType_28 (by decide) ?_
      exact r_retz C () (v_isType_5  ) (v_isType_4 σ k0 hpre_0 hpre_1 c1 c3) hP hS dX12_isType_32
    · have c3 : 5 < k0.toInt := by have h := z_nle c3; rw [show (5 : Int32).toInt = 5 from by decide +kernel] at h; exact h
      refine lv_iload_n hx hb dX12_isType_10 rfl (lv_at hl 1 rfl) ?_
      refine lv_bipush (v := 8) hx hb dX12_isType_11 (by decide +kernel) ?_
      refine lv_icmp_lt (tgt := 31) hx hb dX12_isType_13 (by decide) (fun c4 => ?_) (fun c4 => ?_)
      · have c4 : k0.toInt < 8 := by have h := z_lt c4; rw [show (8 : Int32).toInt = 8 from by decide +kernel] at h; exact h
        refine lv_iconst (v := 0) hx hb dX12_isType_31 (by decide +kernel) ?_
        exact r_retz C () (v_isType_2  ) (v_isType_6 σ k0 hpre_0 hpre_1 c1 c3 c4) hP hS dX12_isType_32
      · have c4 : 8 ≤ k0.toInt := by have h := z_nlt c4; rw [show (8 : Int32).toInt = 8 from by decide +kernel] at h; exact h
        refine lv_aload_n hx hb dX12_isType_16 rfl (lv_at hl 0 rfl) ?_
        refine lv_iload_n hx hb dX12_isType_17 rfl (lv_at hl 1 rfl) ?_
        refine lv_bipush (v := 8) hx hb dX12_isType_18 (by decide +kernel) ?_
        refine lv_isub hx hb dX12_isType_20 ?_
        refine lv_topi (fun x5 ex5 => ?_)
        have tx5 : x5.toInt = k0.toInt - 8 := (v_isType_7 k0 x5 c1 c3 c4 ex5)
        refine r_callVi (As := [.int x5]) (rest := []) C hP hS hl.1 ⟨Nat.zero_le _, Nat.zero_le _⟩ (M_isClass l D cy sz0 sa ad σ s.heap.size x5 trivial) (n := 1) ⟨wm_176, wm_173, by decide +kernel⟩ ⟨wm_177, wm_178, wm_10⟩ rfl rfl (lv_room (Nat.le_of_ble_eq_true rfl)) ⟨Nat.le_of_ble_eq_true rfl, Nat.le_of_ble_eq_true rfl⟩ dX12_isType_21 (fun r6 u H locs hr6 hP hS => ?_)
        have hr6 : (r6.toInt = 0 ∧ ¬ (0 ≤ x5.toInt ∧ x5.toInt < (σ.1 35).toInt)) ∨ (r6.toInt = 1 ∧ (0 ≤ x5.toInt ∧ x5.toInt < (σ.1 35).toInt)) := hr6
        refine lv_if_eq (tgt := 31) hx hb dX12_isType_24 (by decide) (fun c7 => ?_) (fun c7 => ?_)
        · have c7 : r6.toInt = 0 := by have h := z_eq c7; rw [show (0 : Int32).toInt = 0 from by decide +kernel] at h; exact h
          have hr6 : ¬ (0 ≤ x5.toInt ∧ x5.toInt < (σ.1 35).toInt) := bq_f hr6 c7
          refine lv_iconst (v := 0) hx hb dX12_isType_31 (by decide +kernel) ?_
          exact r_retz C () (v_isType_2  ) (v_isType_8 σ k0 x5 hpre_0 hpre_1 c1 c3 c4 ex5 tx5 hr6) hP hS dX12_isType_32
        · have c7 : ¬ r6.toInt = 0 := by have h := z_ne c7; rw [show (0 : Int32).toInt = 0 from by decide +kernel] at h; exact h
          have hr6v : r6.toInt = 1 := hr6.elim (fun h9 => absurd h9.1 c7) (fun h9 => h9.1)
          have hr6 : 0 ≤ x5.toInt ∧ x5.toInt < (σ.1 35).toInt := bq_t hr6 c7
          obtain ⟨hr6_0, hr6_1⟩ := hr6
          refine lv_iconst (v := 1) hx hb dX12_isType_27 (by decide +kernel) ?_
          refine lv_goto (tgt := 32) hx hb dX12_isType_28 (by decide) ?_
          exact r_retz C () (v_isType_5  ) (v_isType_9 σ k0 x5 hpre_0 hpre_1 c1 c3 c4 ex5 tx5 hr6_0 hr6_1) hP hS dX12_isType_32

-- post @17
theorem v_isName_1 (k0 : Int32) (c1 : k0.toInt < 1) : ((0 : Int32).toInt = 0 ∧ ¬ (1 ≤ k0.toInt ∧ k0.toInt ≤ 14348906)) ∨ ((0 : Int32).toInt = 1 ∧ (1 ≤ k0.toInt ∧ k0.toInt ≤ 14348906)) := by
  have q0 : (0 : Int32).toInt = 0 := by decide +kernel
  first | assumption | omega | (subst_vars; omega) | trivial
-- bool@ret @17
theorem v_isName_2   : (0 : Int32) = 0 ∨ (0 : Int32) = 1 := by
  have q0 : (0 : Int32).toInt = 0 := by decide +kernel
  first | exact Or.inl rfl | exact Or.inr rfl | exact bool_of (by omega)
-- post @17
theorem v_isName_3 (k0 : Int32) (c1 : 1 ≤ k0.toInt) (c2 : 14348906 < k0.toInt) : ((0 : Int32).toInt = 0 ∧ ¬ (1 ≤ k0.toInt ∧ k0.toInt ≤ 14348906)) ∨ ((0 : Int32).toInt = 1 ∧ (1 ≤ k0.toInt ∧ k0.toInt ≤ 14348906)) := by
  have q0 : (0 : Int32).toInt = 0 := by decide +kernel
  first | assumption | omega | (subst_vars; omega) | trivial
-- post @17
theorem v_isName_4 (k0 : Int32) (c1 : 1 ≤ k0.toInt) (c2 : k0.toInt ≤ 14348906) : ((1 : Int32).toInt = 0 ∧ ¬ (1 ≤ k0.toInt ∧ k0.toInt ≤ 14348906)) ∨ ((1 : Int32).toInt = 1 ∧ (1 ≤ k0.toInt ∧ k0.toInt ≤ 14348906)) := by
  have q1 : (1 : Int32).toInt = 1 := by decide +kernel
  first | assumption | omega | (subst_vars; omega) | trivial
-- bool@ret @17
theorem v_isName_5   : (1 : Int32) = 0 ∨ (1 : Int32) = 1 := by
  have q1 : (1 : Int32).toInt = 1 := by decide +kernel
  first | exact Or.inl rfl | exact Or.inr rfl | exact bool_of (by omega)
set_option maxHeartbeats 4000000 in
set_option maxRecDepth 100000 in
theorem M_isName (l : Launch) (D : va_G) (cy : Nat → ClassId) (sz0 : Nat) (sa : Nat → Nat) (ad : Nat → Nat) (σ : RS) (sz : Nat) (k0 : Int32) (hpre : True) : Met l yX12_isName (Cond.code yX12_isName cX12_isName 1 (some .boolean) :: GWm) ({ frames := 0, cells := 0, slots := 0, locals := 0 }) (PcR D cy sz0 sa ad [.int k0] σ sz) (va_Qi (fun (r : Int32) (u : Unit) => (r.toInt = 0 ∧ ¬ (1 ≤ k0.toInt ∧ k0.toInt ≤ 14348906)) ∨ (r.toInt = 1 ∧ (1 ≤ k0.toInt ∧ k0.toInt ≤ 14348906))) (fun (u : Unit) (t : State) => RP D cy ad σ t.heap) (AR cy ad sz)) 0 0 (AR cy ad sz) := by
  refine RM_of (loc0 := [(0, .int k0)]) (by decide) rfl rfl (Nat.le_of_ble_eq_true rfl) ?_
  intro p e s m below meth c ls hsz C hP hS hl
  have hx := C.1
  have hb := C.2.1
  have hown := C.2.2.2.2.1
  have hw := C.2.2.2.2.2.1
  clear hsz
  refine lv_iload_n hx hb dX12_isName_0 rfl (lv_at hl 0 rfl) ?_
  refine lv_iconst (v := 1) hx hb dX12_isName_1 (by decide +kernel) ?_
  refine lv_icmp_lt (tgt := 16) hx hb dX12_isName_2 (by decide) (fun c1 => ?_) (fun c1 => ?_)
  · have c1 : k0.toInt < 1 := by have h := z_lt c1; rw [show (1 : Int32).toInt = 1 from by decide +kernel] at h; exact h
    refine lv_iconst (v := 0) hx hb dX12_isName_16 (by decide +kernel) ?_
    exact r_retz C () (v_isName_2  ) (v_isName_1 k0 c1) hP hS dX12_isName_17
  · have c1 : 1 ≤ k0.toInt := by have h := z_nlt c1; rw [show (1 : Int32).toInt = 1 from by decide +kernel] at h; exact h
    refine lv_iload_n hx hb dX12_isName_5 rfl (lv_at hl 0 rfl) ?_
    refine lv_ldcw (v := 14348906) hx hb hown (hw _ wm_180) dX12_isName_6 ?_
    refine lv_icmp_gt (tgt := 16) hx hb dX12_isName_9 (by decide) (fun c2 => ?_) (fun c2 => ?_)
    · have c2 : 14348906 < k0.toInt := by have h := z_lt c2; rw [show (14348906 : Int32).toInt = 14348906 from by decide +kernel] at h; exact h
      refine lv_iconst (v := 0) hx hb dX12_isName_16 (by decide +kernel) ?_
      exact r_retz C () (v_isName_2  ) (v_isName_3 k0 c1 c2) hP hS dX12_isName_17
    · have c2 : k0.toInt ≤ 14348906 := by have h := z_nlt c2; rw [show (14348906 : Int32).toInt = 14348906 from by decide +kernel] at h; exact h
      refine lv_iconst (v := 1) hx hb dX12_isName_12 (by decide +kernel) ?_
      refine lv_goto (tgt := 17) hx hb dX12_isName_13 (by decide) ?_
      exact r_retz C () (v_isName_5  ) (v_isName_4 k0 c1 c2) hP hS dX12_isName_17

-- in@52 @52
theorem v_type_1 (σ : RS) (hpre_0 : 0 ≤ (σ.1 35).toInt) (hpre_1 : (σ.1 35).toInt ≤ 5) (c2 : ¬ (σ.1 35).toInt = 5) : vp_in (σ.1 35) 5 := by
  exact vp_in_iff.mpr ⟨by omega, by omega⟩
-- nw@59 @59
theorem v_type_2 (σ : RS) (x4 : Int32) (hpre_0 : 0 ≤ (σ.1 35).toInt) (hpre_1 : (σ.1 35).toInt ≤ 5) (c2 : ¬ (σ.1 35).toInt = 5) (ex4 : x4 = (σ.1 35) + (1 : Int32)) : x4.toInt = (σ.1 35).toInt + 1 := by
  have q1 : (1 : Int32).toInt = 1 := by decide +kernel
  have w1 : (1 : Int32).toInt = 1 := by decide +kernel
  rw [ex4, z_add (by omega) (by omega)]; first | done | omega
-- nw@68 @68
theorem v_type_3 (σ : RS) (x4 : Int32) (x5 : Int32) (hpre_0 : 0 ≤ (σ.1 35).toInt) (hpre_1 : (σ.1 35).toInt ≤ 5) (c2 : ¬ (σ.1 35).toInt = 5) (ex4 : x4 = (σ.1 35) + (1 : Int32)) (tx4 : x4.toInt = (σ.1 35).toInt + 1) (ex5 : x5 = x4 - (1 : Int32)) : x5.toInt = x4.toInt - 1 := by
  have q1 : (1 : Int32).toInt = 1 := by decide +kernel
  have w1 : (1 : Int32).toInt = 1 := by decide +kernel
  rw [ex5, z_sub (by omega) (by omega)]; first | done | omega
-- post @69
theorem v_type_4 (σ : RS) (k0 : Int32) (x4 : Int32) (x5 : Int32) (hpre_0 : 0 ≤ (σ.1 35).toInt) (hpre_1 : (σ.1 35).toInt ≤ 5) (c1 : k0.toInt = (-1)) (c2 : ¬ (σ.1 35).toInt = 5) (ex4 : x4 = (σ.1 35) + (1 : Int32)) (tx4 : x4.toInt = (σ.1 35).toInt + 1) (ex5 : x5 = x4 - (1 : Int32)) (tx5 : x5.toInt = x4.toInt - 1) : ((¬ k0.toInt = -1 ∧ ¬ (0 ≤ k0.toInt ∧ k0.toInt < (σ.1 35).toInt)) ∧ (0 : Int32).toInt = 1 ∧ (upd (σ.2.1 36) (σ.1 35).toNatClampNeg k0) = (σ.2.1 36) ∧ x4 = (σ.1 35)) ∨ (¬ (¬ k0.toInt = -1 ∧ ¬ (0 ≤ k0.toInt ∧ k0.toInt < (σ.1 35).toInt)) ∧ (σ.1 35).toInt = 5 ∧ (0 : Int32).toInt = 2 ∧ (upd (σ.2.1 36) (σ.1 35).toNatClampNeg k0) = (σ.2.1 36) ∧ x4 = (σ.1 35)) ∨ (¬ (¬ k0.toInt = -1 ∧ ¬ (0 ≤ k0.toInt ∧ k0.toInt < (σ.1 35).toInt)) ∧ (σ.1 35).toInt < 5 ∧ (0 : Int32).toInt = 0 ∧ x5.toInt = (σ.1 35).toInt ∧ (upd (σ.2.1 36) (σ.1 35).toNatClampNeg k0) = upd (σ.2.1 36) (σ.1 35).toInt.toNat k0 ∧ x4.toInt = (σ.1 35).toInt + 1) := by
  have q0 : (0 : Int32).toInt = 0 := by decide +kernel
  have q1 : (1 : Int32).toInt = 1 := by decide +kernel
  first
  | (refine Or.inl ⟨?_, ?_, ?_, ?_⟩ <;> first | assumption | rfl | omega | (congr 1; first | rfl | omega | (rw [clampN]; omega) | (simp only [clampN]; omega)))
  | (refine Or.inr (Or.inl ⟨?_, ?_, ?_, ?_, ?_⟩) <;> first | assumption | rfl | omega | (congr 1; first | rfl | omega | (rw [clampN]; omega) | (simp only [clampN]; omega)))
  | (refine Or.inr (Or.inr ⟨?_, ?_, ?_, ?_, ?_, ?_⟩) <;> first | assumption | rfl | omega | (congr 1; first | rfl | omega | (rw [clampN]; omega) | (simp only [clampN]; omega)))
-- post @42
theorem v_type_5 (σ : RS) (k0 : Int32) (hpre_0 : 0 ≤ (σ.1 35).toInt) (hpre_1 : (σ.1 35).toInt ≤ 5) (c1 : k0.toInt = (-1)) (c2 : (σ.1 35).toInt = 5) : ((¬ k0.toInt = -1 ∧ ¬ (0 ≤ k0.toInt ∧ k0.toInt < (σ.1 35).toInt)) ∧ (2 : Int32).toInt = 1 ∧ (σ.2.1 36) = (σ.2.1 36) ∧ (σ.1 35) = (σ.1 35)) ∨ (¬ (¬ k0.toInt = -1 ∧ ¬ (0 ≤ k0.toInt ∧ k0.toInt < (σ.1 35).toInt)) ∧ (σ.1 35).toInt = 5 ∧ (2 : Int32).toInt = 2 ∧ (σ.2.1 36) = (σ.2.1 36) ∧ (σ.1 35) = (σ.1 35)) ∨ (¬ (¬ k0.toInt = -1 ∧ ¬ (0 ≤ k0.toInt ∧ k0.toInt < (σ.1 35).toInt)) ∧ (σ.1 35).toInt < 5 ∧ (2 : Int32).toInt = 0 ∧ (0 : Int32).toInt = (σ.1 35).toInt ∧ (σ.2.1 36) = upd (σ.2.1 36) (σ.1 35).toInt.toNat k0 ∧ (σ.1 35).toInt = (σ.1 35).toInt + 1) := by
  have q0 : (0 : Int32).toInt = 0 := by decide +kernel
  have q2 : (2 : Int32).toInt = 2 := by decide +kernel
  first
  | (refine Or.inl ⟨?_, ?_, ?_, ?_⟩ <;> first | assumption | rfl | omega | (congr 1; first | rfl | omega | (rw [clampN]; omega) | (simp only [clampN]; omega)))
  | (refine Or.inr (Or.inl ⟨?_, ?_, ?_, ?_, ?_⟩) <;> first | assumption | rfl | omega | (congr 1; first | rfl | omega | (rw [clampN]; omega) | (simp only [clampN]; omega)))
  | (refine Or.inr (Or.inr ⟨?_, ?_, ?_, ?_, ?_, ?_⟩) <;> first | assumption | rfl | omega | (congr 1; first | rfl | omega | (rw [clampN]; omega) | (simp only [clampN]; omega)))
-- in@52 @52
theorem v_type_6 (σ : RS) (k0 : Int32) (hpre_0 : 0 ≤ (σ.1 35).toInt) (hpre_1 : (σ.1 35).toInt ≤ 5) (c1 : ¬ k0.toInt = (-1)) (hr7_0 : 0 ≤ k0.toInt) (hr7_1 : k0.toInt < (σ.1 35).toInt) (c9 : ¬ (σ.1 35).toInt = 5) : vp_in (σ.1 35) 5 := by
  exact vp_in_iff.mpr ⟨by omega, by omega⟩
-- nw@59 @59
theorem v_type_7 (σ : RS) (k0 : Int32) (x11 : Int32) (hpre_0 : 0 ≤ (σ.1 35).toInt) (hpre_1 : (σ.1 35).toInt ≤ 5) (c1 : ¬ k0.toInt = (-1)) (hr7_0 : 0 ≤ k0.toInt) (hr7_1 : k0.toInt < (σ.1 35).toInt) (c9 : ¬ (σ.1 35).toInt = 5) (ex11 : x11 = (σ.1 35) + (1 : Int32)) : x11.toInt = (σ.1 35).toInt + 1 := by
  have q1 : (1 : Int32).toInt = 1 := by decide +kernel
  have w1 : (1 : Int32).toInt = 1 := by decide +kernel
  rw [ex11, z_add (by omega) (by omega)]; first | done | omega
-- nw@68 @68
theorem v_type_8 (σ : RS) (k0 : Int32) (x11 : Int32) (x12 : Int32) (hpre_0 : 0 ≤ (σ.1 35).toInt) (hpre_1 : (σ.1 35).toInt ≤ 5) (c1 : ¬ k0.toInt = (-1)) (hr7_0 : 0 ≤ k0.toInt) (hr7_1 : k0.toInt < (σ.1 35).toInt) (c9 : ¬ (σ.1 35).toInt = 5) (ex11 : x11 = (σ.1 35) + (1 : Int32)) (tx11 : x11.toInt = (σ.1 35).toInt + 1) (ex12 : x12 = x11 - (1 : Int32)) : x12.toInt = x11.toInt - 1 := by
  have q1 : (1 : Int32).toInt = 1 := by decide +kernel
  have w1 : (1 : Int32).toInt = 1 := by decide +kernel
  rw [ex12, z_sub (by omega) (by omega)]; first | done | omega
-- post @69
theorem v_type_9 (σ : RS) (k0 : Int32) (x11 : Int32) (x12 : Int32) (hpre_0 : 0 ≤ (σ.1 35).toInt) (hpre_1 : (σ.1 35).toInt ≤ 5) (c1 : ¬ k0.toInt = (-1)) (hr7_0 : 0 ≤ k0.toInt) (hr7_1 : k0.toInt < (σ.1 35).toInt) (c9 : ¬ (σ.1 35).toInt = 5) (ex11 : x11 = (σ.1 35) + (1 : Int32)) (tx11 : x11.toInt = (σ.1 35).toInt + 1) (ex12 : x12 = x11 - (1 : Int32)) (tx12 : x12.toInt = x11.toInt - 1) : ((¬ k0.toInt = -1 ∧ ¬ (0 ≤ k0.toInt ∧ k0.toInt < (σ.1 35).toInt)) ∧ (0 : Int32).toInt = 1 ∧ (upd (σ.2.1 36) (σ.1 35).toNatClampNeg k0) = (σ.2.1 36) ∧ x11 = (σ.1 35)) ∨ (¬ (¬ k0.toInt = -1 ∧ ¬ (0 ≤ k0.toInt ∧ k0.toInt < (σ.1 35).toInt)) ∧ (σ.1 35).toInt = 5 ∧ (0 : Int32).toInt = 2 ∧ (upd (σ.2.1 36) (σ.1 35).toNatClampNeg k0) = (σ.2.1 36) ∧ x11 = (σ.1 35)) ∨ (¬ (¬ k0.toInt = -1 ∧ ¬ (0 ≤ k0.toInt ∧ k0.toInt < (σ.1 35).toInt)) ∧ (σ.1 35).toInt < 5 ∧ (0 : Int32).toInt = 0 ∧ x12.toInt = (σ.1 35).toInt ∧ (upd (σ.2.1 36) (σ.1 35).toNatClampNeg k0) = upd (σ.2.1 36) (σ.1 35).toInt.toNat k0 ∧ x11.toInt = (σ.1 35).toInt + 1) := by
  have q0 : (0 : Int32).toInt = 0 := by decide +kernel
  have q1 : (1 : Int32).toInt = 1 := by decide +kernel
  first
  | (refine Or.inl ⟨?_, ?_, ?_, ?_⟩ <;> first | assumption | rfl | omega | (congr 1; first | rfl | omega | (rw [clampN]; omega) | (simp only [clampN]; omega)))
  | (refine Or.inr (Or.inl ⟨?_, ?_, ?_, ?_, ?_⟩) <;> first | assumption | rfl | omega | (congr 1; first | rfl | omega | (rw [clampN]; omega) | (simp only [clampN]; omega)))
  | (refine Or.inr (Or.inr ⟨?_, ?_, ?_, ?_, ?_, ?_⟩) <;> first | assumption | rfl | omega | (congr 1; first | rfl | omega | (rw [clampN]; omega) | (simp only [clampN]; omega)))
-- post @42
theorem v_type_10 (σ : RS) (k0 : Int32) (hpre_0 : 0 ≤ (σ.1 35).toInt) (hpre_1 : (σ.1 35).toInt ≤ 5) (c1 : ¬ k0.toInt = (-1)) (hr7_0 : 0 ≤ k0.toInt) (hr7_1 : k0.toInt < (σ.1 35).toInt) (c9 : (σ.1 35).toInt = 5) : ((¬ k0.toInt = -1 ∧ ¬ (0 ≤ k0.toInt ∧ k0.toInt < (σ.1 35).toInt)) ∧ (2 : Int32).toInt = 1 ∧ (σ.2.1 36) = (σ.2.1 36) ∧ (σ.1 35) = (σ.1 35)) ∨ (¬ (¬ k0.toInt = -1 ∧ ¬ (0 ≤ k0.toInt ∧ k0.toInt < (σ.1 35).toInt)) ∧ (σ.1 35).toInt = 5 ∧ (2 : Int32).toInt = 2 ∧ (σ.2.1 36) = (σ.2.1 36) ∧ (σ.1 35) = (σ.1 35)) ∨ (¬ (¬ k0.toInt = -1 ∧ ¬ (0 ≤ k0.toInt ∧ k0.toInt < (σ.1 35).toInt)) ∧ (σ.1 35).toInt < 5 ∧ (2 : Int32).toInt = 0 ∧ (0 : Int32).toInt = (σ.1 35).toInt ∧ (σ.2.1 36) = upd (σ.2.1 36) (σ.1 35).toInt.toNat k0 ∧ (σ.1 35).toInt = (σ.1 35).toInt + 1) := by
  have q0 : (0 : Int32).toInt = 0 := by decide +kernel
  have q2 : (2 : Int32).toInt = 2 := by decide +kernel
  first
  | (refine Or.inl ⟨?_, ?_, ?_, ?_⟩ <;> first | assumption | rfl | omega | (congr 1; first | rfl | omega | (rw [clampN]; omega) | (simp only [clampN]; omega)))
  | (refine Or.inr (Or.inl ⟨?_, ?_, ?_, ?_, ?_⟩) <;> first | assumption | rfl | omega | (congr 1; first | rfl | omega | (rw [clampN]; omega) | (simp only [clampN]; omega)))
  | (refine Or.inr (Or.inr ⟨?_, ?_, ?_, ?_, ?_, ?_⟩) <;> first | assumption | rfl | omega | (congr 1; first | rfl | omega | (rw [clampN]; omega) | (simp only [clampN]; omega)))
-- post @42
theorem v_type_11 (σ : RS) (k0 : Int32) (hpre_0 : 0 ≤ (σ.1 35).toInt) (hpre_1 : (σ.1 35).toInt ≤ 5) (c1 : ¬ k0.toInt = (-1)) (hr7 : ¬ (0 ≤ k0.toInt ∧ k0.toInt < (σ.1 35).toInt)) : ((¬ k0.toInt = -1 ∧ ¬ (0 ≤ k0.toInt ∧ k0.toInt < (σ.1 35).toInt)) ∧ (1 : Int32).toInt = 1 ∧ (σ.2.1 36) = (σ.2.1 36) ∧ (σ.1 35) = (σ.1 35)) ∨ (¬ (¬ k0.toInt = -1 ∧ ¬ (0 ≤ k0.toInt ∧ k0.toInt < (σ.1 35).toInt)) ∧ (σ.1 35).toInt = 5 ∧ (1 : Int32).toInt = 2 ∧ (σ.2.1 36) = (σ.2.1 36) ∧ (σ.1 35) = (σ.1 35)) ∨ (¬ (¬ k0.toInt = -1 ∧ ¬ (0 ≤ k0.toInt ∧ k0.toInt < (σ.1 35).toInt)) ∧ (σ.1 35).toInt < 5 ∧ (1 : Int32).toInt = 0 ∧ (0 : Int32).toInt = (σ.1 35).toInt ∧ (σ.2.1 36) = upd (σ.2.1 36) (σ.1 35).toInt.toNat k0 ∧ (σ.1 35).toInt = (σ.1 35).toInt + 1) := by
  have q0 : (0 : Int32).toInt = 0 := by decide +kernel
  have q1 : (1 : Int32).toInt = 1 := by decide +kernel
  first
  | (refine Or.inl ⟨?_, ?_, ?_, ?_⟩ <;> first | assumption | rfl | omega | (congr 1; first | rfl | omega | (rw [clampN]; omega) | (simp only [clampN]; omega)))
  | (refine Or.inr (Or.inl ⟨?_, ?_, ?_, ?_, ?_⟩) <;> first | assumption | rfl | omega | (congr 1; first | rfl | omega | (rw [clampN]; omega) | (simp only [clampN]; omega)))
  | (refine Or.inr (Or.inr ⟨?_, ?_, ?_, ?_, ?_, ?_⟩) <;> first | assumption | rfl | omega | (congr 1; first | rfl | omega | (rw [clampN]; omega) | (simp only [clampN]; omega)))
set_option maxHeartbeats 4000000 in
set_option maxRecDepth 100000 in
theorem M_type (l : Launch) (D : va_G) (cy : Nat → ClassId) (sz0 : Nat) (sa : Nat → Nat) (ad : Nat → Nat) (σ : RS) (sz : Nat) (k0 : Int32) (hpre : 0 ≤ (σ.1 35).toInt ∧ (σ.1 35).toInt ≤ 5) : Met l yX12_type (Cond.code yX12_type cX12_type 2 (some .int) :: GWm) ({ frames := 1, cells := 0, slots := 0, locals := 21 }) (PcR D cy sz0 sa ad [.ref (ad 0), .int k0] σ sz) (va_Qi (fun (r : Int32) (u : Int32 × (Nat → Int32) × Int32) => ((¬ k0.toInt = -1 ∧ ¬ (0 ≤ k0.toInt ∧ k0.toInt < (σ.1 35).toInt)) ∧ u.1.toInt = 1 ∧ u.2.1 = (σ.2.1 36) ∧ u.2.2 = (σ.1 35)) ∨ (¬ (¬ k0.toInt = -1 ∧ ¬ (0 ≤ k0.toInt ∧ k0.toInt < (σ.1 35).toInt)) ∧ (σ.1 35).toInt = 5 ∧ u.1.toInt = 2 ∧ u.2.1 = (σ.2.1 36) ∧ u.2.2 = (σ.1 35)) ∨ (¬ (¬ k0.toInt = -1 ∧ ¬ (0 ≤ k0.toInt ∧ k0.toInt < (σ.1 35).toInt)) ∧ (σ.1 35).toInt < 5 ∧ u.1.toInt = 0 ∧ r.toInt = (σ.1 35).toInt ∧ u.2.1 = upd (σ.2.1 36) (σ.1 35).toInt.toNat k0 ∧ u.2.2.toInt = (σ.1 35).toInt + 1)) (fun (u : Int32 × (Nat → Int32) × Int32) (t : State) => RP D cy ad (rS (rA (rS σ 0 u.1) 36 u.2.1) 35 u.2.2) t.heap) (AR cy ad sz)) 0 0 (AR cy ad sz) := by
  refine RM_of (loc0 := [(0, .ref (ad 0)), (1, .int k0)]) (by decide) rfl rfl (Nat.le_of_ble_eq_true rfl) ?_
  intro p e s m below meth c ls hsz C hP hS hl
  have hx := C.1
  have hb := C.2.1
  have hown := C.2.2.2.2.1
  have hw := C.2.2.2.2.2.1
  clear hsz
  obtain ⟨hpre_0, hpre_1⟩ := hpre
  refine lv_aload_n hx hb dX12_type_0 rfl (lv_at hl 0 rfl) ?_
  refine lv_iload_n hx hb dX12_type_1 rfl (lv_at hl 1 rfl) ?_
  refine lv_iconst (v := (-1)) hx hb dX12_type_2 (by decide +kernel) ?_
  refine lv_icmp_eq (tgt := 18) hx hb dX12_type_3 (by decide) (fun c1 => ?_) (fun c1 => ?_)
  · have c1 : k0.toInt = (-1) := by have h := z_eq c1; rw [show ((-1) : Int32).toInt = -1 from by decide +kernel] at h; exact h
    refine lv_aload_n hx hb dX12_type_18 rfl (lv_at hl 0 rfl) ?_
    refine rg_35 (v := (σ.1 35)) C hP rfl wm_174 dX12_type_19 ?_
    refine lv_iconst (v := 5) hx hb dX12_type_22 (by decide +kernel) ?_
    refine lv_icmp_ne (tgt := 30) hx hb dX12_type_23 (by decide) (fun c2 => ?_) (fun c2 => ?_)
    · have c2 : ¬ (σ.1 35).toInt = 5 := by have h := z_ne c2; rw [show (5 : Int32).toInt = 5 from by decide +kernel] at h; exact h
      refine lv_iconst (v := 0) hx hb dX12_type_30 (by decide +kernel) ?_
      refine rp_0 C hP hS wm_1 dX12_type_31 (fun H locs hP hS => ?_)
      refine lv_aload_n hx hb dX12_type_34 rfl (lv_at hl 0 rfl) ?_
      refine rg_0 (v := 0) C hP rfl wm_1 dX12_type_35 ?_
      refine lv_if_le (tgt := 43) hx hb dX12_type_38 (by decide) (fun _ => ?_) (fun c3 => absurd (by decide +kernel) c3)
      refine lv_aload_n hx hb dX12_type_43 rfl (lv_at hl 0 rfl) ?_
      refine rg_36 C hP wm_182 dX12_type_44 ?_
      refine lv_aload_n hx hb dX12_type_47 rfl (lv_at hl 0 rfl) ?_
      refine rg_35 (v := (σ.1 35)) C hP rfl wm_174 dX12_type_48 ?_
      refine lv_iload_n hx hb dX12_type_51 rfl (lv_at hl 1 rfl) ?_
      refine rw_36 (f := (σ.2.1 36)) C hP hS rfl (v_type_1 σ hpre_0 hpre_1 c2) dX12_type_52 (fun H locs hP hS => ?_)
      refine lv_aload_n hx hb dX12_type_53 rfl (lv_at hl 0 rfl) ?_
      refine lv_dup hx hb dX12_type_54 rfl ?_
      refine rg_35 (v := (σ.1 35)) C hP rfl wm_174 dX12_type_55 ?_
      refine lv_iconst (v := 1) hx hb dX12_type_58 (by decide +kernel) ?_
      refine lv_iadd hx hb dX12_type_59 ?_
      refine lv_topi (fun x4 ex4 => ?_)
      have tx4 : x4.toInt = (σ.1 35).toInt + 1 := (v_type_2 σ x4 hpre_0 hpre_1 c2 ex4)
      refine rp_35 C hP hS wm_174 dX12_type_60 (fun H locs hP hS => ?_)
      refine lv_aload_n hx hb dX12_type_63 rfl (lv_at hl 0 rfl) ?_
      refine rg_35 (v := x4) C hP rfl wm_174 dX12_type_64 ?_
      refine lv_iconst (v := 1) hx hb dX12_type_67 (by decide +kernel) ?_
      refine lv_isub hx hb dX12_type_68 ?_
      refine lv_topi (fun x5 ex5 => ?_)
      have tx5 : x5.toInt = x4.toInt - 1 := (v_type_3 σ x4 x5 hpre_0 hpre_1 c2 ex4 tx4 ex5)
      exact r_reti C ⟨(0 : Int32), (upd (σ.2.1 36) (σ.1 35).toNatClampNeg k0), x4⟩ (v_type_4 σ k0 x4 x5 hpre_0 hpre_1 c1 c2 ex4 tx4 ex5 tx5) hP hS dX12_type_69
    · have c2 : (σ.1 35).toInt = 5 := by have h := z_eq c2; rw [show (5 : Int32).toInt = 5 from by decide +kernel] at h; exact h
      refine lv_iconst (v := 2) hx hb dX12_type_26 (by decide +kernel) ?_
      refine lv_goto (tgt := 31) hx hb dX12_type_27 (by decide) ?_
      refine rp_0 C hP hS wm_1 dX12_type_31 (fun H locs hP hS => ?_)
      refine lv_aload_n hx hb dX12_type_34 rfl (lv_at hl 0 rfl) ?_
      refine rg_0 (v := 2) C hP rfl wm_1 dX12_type_35 ?_
      refine lv_if_le (tgt := 43) hx hb dX12_type_38 (by decide) (fun c6 => absurd c6 (by decide +kernel)) (fun _ => ?_)
      refine lv_iconst (v := 0) hx hb dX12_type_41 (by decide +kernel) ?_
      have hP : RP D cy ad (rS (rA (rS σ 0 (2 : Int32)) 36 (σ.2.1 36)) 35 (σ.1 35)) H := RP.cong hP (Eq.trans (b := (2 : Int32)) rfl rfl) (Eq.trans (b := (σ.1 1)) rfl rfl) (Eq.trans (b := (σ.2.1 2)) rfl rfl) (Eq.trans (b := (σ.1 3)) rfl rfl) (Eq.trans (b := (σ.2.1 4)) rfl rfl) (Eq.trans (b := (σ.2.1 5)) rfl rfl) (Eq.trans (b := (σ.2.2.1 6)) rfl rfl) (Eq.trans (b := (σ.2.1 7)) rfl rfl) (Eq.trans (b := (σ.1 8)) rfl rfl) (Eq.trans (b := (σ.1 9)) rfl rfl) (Eq.trans (b := (σ.1 10)) rfl rfl) (Eq.trans (b := (σ.2.1 11)) rfl rfl) (Eq.trans (b := (σ.2.2.1 12)) rfl rfl) (Eq.trans (b := (σ.2.1 13)) rfl rfl) (Eq.trans (b := (σ.1 14)) rfl rfl) (Eq.trans (b := (σ.1 15)) rfl rfl) (Eq.trans (b := (σ.1 16)) rfl rfl) (Eq.trans (b := (σ.1 17)) rfl rfl) (Eq.trans (b := (σ.1 18)) rfl rfl) (Eq.trans (b := (σ.1 19)) rfl rfl) (Eq.trans (b := (σ.2.1 20)) rfl rfl) (Eq.trans (b := (σ.2.1 21)) rfl rfl) (Eq.trans (b := (σ.2.1 22)) rfl rfl) (Eq.trans (b := (σ.2.1 23)) rfl rfl) (Eq.trans (b := (σ.2.1 24)) rfl rfl) (Eq.trans (b := (σ.2.1 25)) rfl rfl) (Eq.trans (b := (σ.2.1 26)) rfl rfl) (Eq.trans (b := (σ.2.1 27)) rfl rfl) (Eq.trans (b := (σ.2.1 28)) rfl rfl) (Eq.trans (b := (σ.1 29)) rfl rfl) (Eq.trans (b := (σ.2.1 30)) rfl rfl) (Eq.trans (b := (σ.2.1 31)) rfl rfl) (Eq.trans (b := (σ.2.1 32)) rfl rfl) (Eq.trans (b := (σ.1 33)) rfl rfl) (Eq.trans (b := (σ.1 34)) rfl rfl) (Eq.trans (b := (σ.1 35)) rfl rfl) (Eq.trans (b := (σ.2.1 36)) rfl rfl) (Eq.trans (b := (σ.2.1 37)) rfl rfl) (Eq.trans (b := (σ.2.1 38)) rfl rfl) (Eq.trans (b := (σ.2.1 39)) rfl rfl) (Eq.trans (b := (σ.2.1 40)) rfl rfl) (Eq.trans (b := (σ.2.1 41)) rfl rfl) (Eq.trans (b := (σ.2.1 42)) rfl rfl) (Eq.trans (b := (σ.2.1 43)) rfl rfl) (Eq.trans (b := (σ.2.1 44)) rfl rfl) (Eq.trans (b := (σ.2.1 45)) rfl rfl) (Eq.trans (b := (σ.2.1 46)) rfl rfl) (Eq.trans (b := (σ.1 47)) rfl rfl) (Eq.trans (b := (σ.2.1 48)) rfl rfl) (Eq.trans (b := (σ.1 49)) rfl rfl) (Eq.trans (b := (σ.2.1 50)) rfl rfl) (Eq.trans (b := (σ.2.1 51)) rfl rfl) (Eq.trans (b := (σ.2.2.1 52)) rfl rfl) (Eq.trans (b := (σ.2.2.1 53)) rfl rfl) (Eq.trans (b := (σ.2.2.2)) rfl rfl) (Eq.trans (b := (σ.1 55)) rfl rfl) (Eq.trans (b := (σ.1 56)) rfl rfl) (Eq.trans (b := (σ.1 57)) rfl rfl) (Eq.trans (b := (σ.2.1 58)) rfl rfl) (Eq.trans (b := (σ.1 59)) rfl rfl)
      exact r_reti C ⟨(2 : Int32), (σ.2.1 36), (σ.1 35)⟩ (v_type_5 σ k0 hpre_0 hpre_1 c1 c2) hP hS dX12_type_42
  · have c1 : ¬ k0.toInt = (-1) := by have h := z_ne c1; rw [show ((-1) : Int32).toInt = -1 from by decide +kernel] at h; exact h
    refine lv_aload_n hx hb dX12_type_6 rfl (lv_at hl 0 rfl) ?_
    refine lv_iload_n hx hb dX12_type_7 rfl (lv_at hl 1 rfl) ?_
    refine r_callVi (As := [.int k0]) (rest := [.ref (ad 0)]) C hP hS hl.1 ⟨Nat.zero_le _, Nat.zero_le _⟩ (M_isClass l D cy sz0 sa ad σ s.heap.size k0 trivial) (n := 1) ⟨wm_176, wm_173, by decide +kernel⟩ ⟨wm_177, wm_178, wm_10⟩ rfl rfl (lv_room (Nat.le_of_ble_eq_true rfl)) ⟨Nat.le_of_ble_eq_true rfl, Nat.le_of_ble_eq_true rfl⟩ dX12_type_8 (fun r7 u H locs hr7 hP hS => ?_)
    have hr7 : (r7.toInt = 0 ∧ ¬ (0 ≤ k0.toInt ∧ k0.toInt < (σ.1 35).toInt)) ∨ (r7.toInt = 1 ∧ (0 ≤ k0.toInt ∧ k0.toInt < (σ.1 35).toInt)) := hr7
    refine lv_if_ne (tgt := 18) hx hb dX12_type_11 (by decide) (fun c8 => ?_) (fun c8 => ?_)
    · have c8 : ¬ r7.toInt = 0 := by have h := z_ne c8; rw [show (0 : Int32).toInt = 0 from by decide +kernel] at h; exact h
      have hr7v : r7.toInt = 1 := hr7.elim (fun h9 => absurd h9.1 c8) (fun h9 => h9.1)
      have hr7 : 0 ≤ k0.toInt ∧ k0.toInt < (σ.1 35).toInt := bq_t hr7 c8
      obtain ⟨hr7_0, hr7_1⟩ := hr7
      refine lv_aload_n hx hb dX12_type_18 rfl (lv_at hl 0 rfl) ?_
      refine rg_35 (v := (σ.1 35)) C hP rfl wm_174 dX12_type_19 ?_
      refine lv_iconst (v := 5) hx hb dX12_type_22 (by decide +kernel) ?_
      refine lv_icmp_ne (tgt := 30) hx hb dX12_type_23 (by decide) (fun c9 => ?_) (fun c9 => ?_)
      · have c9 : ¬ (σ.1 35).toInt = 5 := by have h := z_ne c9; rw [show (5 : Int32).toInt = 5 from by decide +kernel] at h; exact h
        refine lv_iconst (v := 0) hx hb dX12_type_30 (by decide +kernel) ?_
        refine rp_0 C hP hS wm_1 dX12_type_31 (fun H locs hP hS => ?_)
        refine lv_aload_n hx hb dX12_type_34 rfl (lv_at hl 0 rfl) ?_
        refine rg_0 (v := 0) C hP rfl wm_1 dX12_type_35 ?_
        refine lv_if_le (tgt := 43) hx hb dX12_type_38 (by decide) (fun _ => ?_) (fun c10 => absurd (by decide +kernel) c10)
        refine lv_aload_n hx hb dX12_type_43 rfl (lv_at hl 0 rfl) ?_
        refine rg_36 C hP wm_182 dX12_type_44 ?_
        refine lv_aload_n hx hb dX12_type_47 rfl (lv_at hl 0 rfl) ?_
        refine rg_35 (v := (σ.1 35)) C hP rfl wm_174 dX12_type_48 ?_
        refine lv_iload_n hx hb dX12_type_51 rfl (lv_at hl 1 rfl) ?_
        refine rw_36 (f := (σ.2.1 36)) C hP hS rfl (v_type_6 σ k0 hpre_0 hpre_1 c1 hr7_0 hr7_1 c9) dX12_type_52 (fun H locs hP hS => ?_)
        refine lv_aload_n hx hb dX12_type_53 rfl (lv_at hl 0 rfl) ?_
        refine lv_dup hx hb dX12_type_54 rfl ?_
        refine rg_35 (v := (σ.1 35)) C hP rfl wm_174 dX12_type_55 ?_
        refine lv_iconst (v := 1) hx hb dX12_type_58 (by decide +kernel) ?_
        refine lv_iadd hx hb dX12_type_59 ?_
        refine lv_topi (fun x11 ex11 => ?_)
        have tx11 : x11.toInt = (σ.1 35).toInt + 1 := (v_type_7 σ k0 x11 hpre_0 hpre_1 c1 hr7_0 hr7_1 c9 ex11)
        refine rp_35 C hP hS wm_174 dX12_type_60 (fun H locs hP hS => ?_)
        refine lv_aload_n hx hb dX12_type_63 rfl (lv_at hl 0 rfl) ?_
        refine rg_35 (v := x11) C hP rfl wm_174 dX12_type_64 ?_
        refine lv_iconst (v := 1) hx hb dX12_type_67 (by decide +kernel) ?_
        refine lv_isub hx hb dX12_type_68 ?_
        refine lv_topi (fun x12 ex12 => ?_)
        have tx12 : x12.toInt = x11.toInt - 1 := (v_type_8 σ k0 x11 x12 hpre_0 hpre_1 c1 hr7_0 hr7_1 c9 ex11 tx11 ex12)
        exact r_reti C ⟨(0 : Int32), (upd (σ.2.1 36) (σ.1 35).toNatClampNeg k0), x11⟩ (v_type_9 σ k0 x11 x12 hpre_0 hpre_1 c1 hr7_0 hr7_1 c9 ex11 tx11 ex12 tx12) hP hS dX12_type_69
      · have c9 : (σ.1 35).toInt = 5 := by have h := z_eq c9; rw [show (5 : Int32).toInt = 5 from by decide +kernel] at h; exact h
        refine lv_iconst (v := 2) hx hb dX12_type_26 (by decide +kernel) ?_
        refine lv_goto (tgt := 31) hx hb dX12_type_27 (by decide) ?_
        refine rp_0 C hP hS wm_1 dX12_type_31 (fun H locs hP hS => ?_)
        refine lv_aload_n hx hb dX12_type_34 rfl (lv_at hl 0 rfl) ?_
        refine rg_0 (v := 2) C hP rfl wm_1 dX12_type_35 ?_
        refine lv_if_le (tgt := 43) hx hb dX12_type_38 (by decide) (fun c13 => absurd c13 (by decide +kernel)) (fun _ => ?_)
        refine lv_iconst (v := 0) hx hb dX12_type_41 (by decide +kernel) ?_
        have hP : RP D cy ad (rS (rA (rS σ 0 (2 : Int32)) 36 (σ.2.1 36)) 35 (σ.1 35)) H := RP.cong hP (Eq.trans (b := (2 : Int32)) rfl rfl) (Eq.trans (b := (σ.1 1)) rfl rfl) (Eq.trans (b := (σ.2.1 2)) rfl rfl) (Eq.trans (b := (σ.1 3)) rfl rfl) (Eq.trans (b := (σ.2.1 4)) rfl rfl) (Eq.trans (b := (σ.2.1 5)) rfl rfl) (Eq.trans (b := (σ.2.2.1 6)) rfl rfl) (Eq.trans (b := (σ.2.1 7)) rfl rfl) (Eq.trans (b := (σ.1 8)) rfl rfl) (Eq.trans (b := (σ.1 9)) rfl rfl) (Eq.trans (b := (σ.1 10)) rfl rfl) (Eq.trans (b := (σ.2.1 11)) rfl rfl) (Eq.trans (b := (σ.2.2.1 12)) rfl rfl) (Eq.trans (b := (σ.2.1 13)) rfl rfl) (Eq.trans (b := (σ.1 14)) rfl rfl) (Eq.trans (b := (σ.1 15)) rfl rfl) (Eq.trans (b := (σ.1 16)) rfl rfl) (Eq.trans (b := (σ.1 17)) rfl rfl) (Eq.trans (b := (σ.1 18)) rfl rfl) (Eq.trans (b := (σ.1 19)) rfl rfl) (Eq.trans (b := (σ.2.1 20)) rfl rfl) (Eq.trans (b := (σ.2.1 21)) rfl rfl) (Eq.trans (b := (σ.2.1 22)) rfl rfl) (Eq.trans (b := (σ.2.1 23)) rfl rfl) (Eq.trans (b := (σ.2.1 24)) rfl rfl) (Eq.trans (b := (σ.2.1 25)) rfl rfl) (Eq.trans (b := (σ.2.1 26)) rfl rfl) (Eq.trans (b := (σ.2.1 27)) rfl rfl) (Eq.trans (b := (σ.2.1 28)) rfl rfl) (Eq.trans (b := (σ.1 29)) rfl rfl) (Eq.trans (b := (σ.2.1 30)) rfl rfl) (Eq.trans (b := (σ.2.1 31)) rfl rfl) (Eq.trans (b := (σ.2.1 32)) rfl rfl) (Eq.trans (b := (σ.1 33)) rfl rfl) (Eq.trans (b := (σ.1 34)) rfl rfl) (Eq.trans (b := (σ.1 35)) rfl rfl) (Eq.trans (b := (σ.2.1 36)) rfl rfl) (Eq.trans (b := (σ.2.1 37)) rfl rfl) (Eq.trans (b := (σ.2.1 38)) rfl rfl) (Eq.trans (b := (σ.2.1 39)) rfl rfl) (Eq.trans (b := (σ.2.1 40)) rfl rfl) (Eq.trans (b := (σ.2.1 41)) rfl rfl) (Eq.trans (b := (σ.2.1 42)) rfl rfl) (Eq.trans (b := (σ.2.1 43)) rfl rfl) (Eq.trans (b := (σ.2.1 44)) rfl rfl) (Eq.trans (b := (σ.2.1 45)) rfl rfl) (Eq.trans (b := (σ.2.1 46)) rfl rfl) (Eq.trans (b := (σ.1 47)) rfl rfl) (Eq.trans (b := (σ.2.1 48)) rfl rfl) (Eq.trans (b := (σ.1 49)) rfl rfl) (Eq.trans (b := (σ.2.1 50)) rfl rfl) (Eq.trans (b := (σ.2.1 51)) rfl rfl) (Eq.trans (b := (σ.2.2.1 52)) rfl rfl) (Eq.trans (b := (σ.2.2.1 53)) rfl rfl) (Eq.trans (b := (σ.2.2.2)) rfl rfl) (Eq.trans (b := (σ.1 55)) rfl rfl) (Eq.trans (b := (σ.1 56)) rfl rfl) (Eq.trans (b := (σ.1 57)) rfl rfl) (Eq.trans (b := (σ.2.1 58)) rfl rfl) (Eq.trans (b := (σ.1 59)) rfl rfl)
        exact r_reti C ⟨(2 : Int32), (σ.2.1 36), (σ.1 35)⟩ (v_type_10 σ k0 hpre_0 hpre_1 c1 hr7_0 hr7_1 c9) hP hS dX12_type_42
    · have c8 : r7.toInt = 0 := by have h := z_eq c8; rw [show (0 : Int32).toInt = 0 from by decide +kernel] at h; exact h
      have hr7 : ¬ (0 ≤ k0.toInt ∧ k0.toInt < (σ.1 35).toInt) := bq_f hr7 c8
      refine lv_iconst (v := 1) hx hb dX12_type_14 (by decide +kernel) ?_
      refine lv_goto (tgt := 31) hx hb dX12_type_15 (by decide) ?_
      refine rp_0 C hP hS wm_1 dX12_type_31 (fun H locs hP hS => ?_)
      refine lv_aload_n hx hb dX12_type_34 rfl (lv_at hl 0 rfl) ?_
      refine rg_0 (v := 1) C hP rfl wm_1 dX12_type_35 ?_
      refine lv_if_le (tgt := 43) hx hb dX12_type_38 (by decide) (fun c14 => absurd c14 (by decide +kernel)) (fun _ => ?_)
      refine lv_iconst (v := 0) hx hb dX12_type_41 (by decide +kernel) ?_
      have hP : RP D cy ad (rS (rA (rS σ 0 (1 : Int32)) 36 (σ.2.1 36)) 35 (σ.1 35)) H := RP.cong hP (Eq.trans (b := (1 : Int32)) rfl rfl) (Eq.trans (b := (σ.1 1)) rfl rfl) (Eq.trans (b := (σ.2.1 2)) rfl rfl) (Eq.trans (b := (σ.1 3)) rfl rfl) (Eq.trans (b := (σ.2.1 4)) rfl rfl) (Eq.trans (b := (σ.2.1 5)) rfl rfl) (Eq.trans (b := (σ.2.2.1 6)) rfl rfl) (Eq.trans (b := (σ.2.1 7)) rfl rfl) (Eq.trans (b := (σ.1 8)) rfl rfl) (Eq.trans (b := (σ.1 9)) rfl rfl) (Eq.trans (b := (σ.1 10)) rfl rfl) (Eq.trans (b := (σ.2.1 11)) rfl rfl) (Eq.trans (b := (σ.2.2.1 12)) rfl rfl) (Eq.trans (b := (σ.2.1 13)) rfl rfl) (Eq.trans (b := (σ.1 14)) rfl rfl) (Eq.trans (b := (σ.1 15)) rfl rfl) (Eq.trans (b := (σ.1 16)) rfl rfl) (Eq.trans (b := (σ.1 17)) rfl rfl) (Eq.trans (b := (σ.1 18)) rfl rfl) (Eq.trans (b := (σ.1 19)) rfl rfl) (Eq.trans (b := (σ.2.1 20)) rfl rfl) (Eq.trans (b := (σ.2.1 21)) rfl rfl) (Eq.trans (b := (σ.2.1 22)) rfl rfl) (Eq.trans (b := (σ.2.1 23)) rfl rfl) (Eq.trans (b := (σ.2.1 24)) rfl rfl) (Eq.trans (b := (σ.2.1 25)) rfl rfl) (Eq.trans (b := (σ.2.1 26)) rfl rfl) (Eq.trans (b := (σ.2.1 27)) rfl rfl) (Eq.trans (b := (σ.2.1 28)) rfl rfl) (Eq.trans (b := (σ.1 29)) rfl rfl) (Eq.trans (b := (σ.2.1 30)) rfl rfl) (Eq.trans (b := (σ.2.1 31)) rfl rfl) (Eq.trans (b := (σ.2.1 32)) rfl rfl) (Eq.trans (b := (σ.1 33)) rfl rfl) (Eq.trans (b := (σ.1 34)) rfl rfl) (Eq.trans (b := (σ.1 35)) rfl rfl) (Eq.trans (b := (σ.2.1 36)) rfl rfl) (Eq.trans (b := (σ.2.1 37)) rfl rfl) (Eq.trans (b := (σ.2.1 38)) rfl rfl) (Eq.trans (b := (σ.2.1 39)) rfl rfl) (Eq.trans (b := (σ.2.1 40)) rfl rfl) (Eq.trans (b := (σ.2.1 41)) rfl rfl) (Eq.trans (b := (σ.2.1 42)) rfl rfl) (Eq.trans (b := (σ.2.1 43)) rfl rfl) (Eq.trans (b := (σ.2.1 44)) rfl rfl) (Eq.trans (b := (σ.2.1 45)) rfl rfl) (Eq.trans (b := (σ.2.1 46)) rfl rfl) (Eq.trans (b := (σ.1 47)) rfl rfl) (Eq.trans (b := (σ.2.1 48)) rfl rfl) (Eq.trans (b := (σ.1 49)) rfl rfl) (Eq.trans (b := (σ.2.1 50)) rfl rfl) (Eq.trans (b := (σ.2.1 51)) rfl rfl) (Eq.trans (b := (σ.2.2.1 52)) rfl rfl) (Eq.trans (b := (σ.2.2.1 53)) rfl rfl) (Eq.trans (b := (σ.2.2.2)) rfl rfl) (Eq.trans (b := (σ.1 55)) rfl rfl) (Eq.trans (b := (σ.1 56)) rfl rfl) (Eq.trans (b := (σ.1 57)) rfl rfl) (Eq.trans (b := (σ.2.1 58)) rfl rfl) (Eq.trans (b := (σ.1 59)) rfl rfl)
      exact r_reti C ⟨(1 : Int32), (σ.2.1 36), (σ.1 35)⟩ (v_type_11 σ k0 hpre_0 hpre_1 c1 hr7) hP hS dX12_type_42
