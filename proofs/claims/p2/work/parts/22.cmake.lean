-- in@48 @48
theorem v_make_1 (σ : RS) (hpre_2 : 0 ≤ (σ.1 47).toInt) (hpre_3 : (σ.1 47).toInt ≤ 30) (c3 : ¬ (σ.1 47).toInt = 30) : vp_in (σ.1 47) 30 := by
  exact vp_in_iff.mpr ⟨by omega, by omega⟩
-- nw@55 @55
theorem v_make_2 (σ : RS) (x5 : Int32) (hpre_2 : 0 ≤ (σ.1 47).toInt) (hpre_3 : (σ.1 47).toInt ≤ 30) (c3 : ¬ (σ.1 47).toInt = 30) (ex5 : x5 = (σ.1 47) + (1 : Int32)) : x5.toInt = (σ.1 47).toInt + 1 := by
  have q1 : (1 : Int32).toInt = 1 := by decide +kernel
  have w1 : (1 : Int32).toInt = 1 := by decide +kernel
  rw [ex5, z_add (by omega) (by omega)]; first | done | omega
-- nw@64 @64
theorem v_make_3 (σ : RS) (x5 : Int32) (x6 : Int32) (hpre_2 : 0 ≤ (σ.1 47).toInt) (hpre_3 : (σ.1 47).toInt ≤ 30) (c3 : ¬ (σ.1 47).toInt = 30) (ex5 : x5 = (σ.1 47) + (1 : Int32)) (tx5 : x5.toInt = (σ.1 47).toInt + 1) (ex6 : x6 = x5 - (1 : Int32)) : x6.toInt = x5.toInt - 1 := by
  have q1 : (1 : Int32).toInt = 1 := by decide +kernel
  have w1 : (1 : Int32).toInt = 1 := by decide +kernel
  rw [ex6, z_sub (by omega) (by omega)]; first | done | omega
-- post @65
theorem v_make_4 (σ : RS) (k0 : Int32) (x5 : Int32) (x6 : Int32) (hpre_0 : 0 ≤ (σ.1 35).toInt) (hpre_1 : (σ.1 35).toInt ≤ 5) (hpre_2 : 0 ≤ (σ.1 47).toInt) (hpre_3 : (σ.1 47).toInt ≤ 30) (hr1_0 : 0 ≤ k0.toInt) (hr1_1 : k0.toInt < (σ.1 35).toInt) (c3 : ¬ (σ.1 47).toInt = 30) (ex5 : x5 = (σ.1 47) + (1 : Int32)) (tx5 : x5.toInt = (σ.1 47).toInt + 1) (ex6 : x6 = x5 - (1 : Int32)) (tx6 : x6.toInt = x5.toInt - 1) : (¬ (0 ≤ k0.toInt ∧ k0.toInt < (σ.1 35).toInt) ∧ (0 : Int32).toInt = 1 ∧ (upd (σ.2.1 48) (σ.1 47).toNatClampNeg k0) = (σ.2.1 48) ∧ x5 = (σ.1 47)) ∨ (0 ≤ k0.toInt ∧ k0.toInt < (σ.1 35).toInt ∧ (σ.1 47).toInt = 30 ∧ (0 : Int32).toInt = 2 ∧ (upd (σ.2.1 48) (σ.1 47).toNatClampNeg k0) = (σ.2.1 48) ∧ x5 = (σ.1 47)) ∨ (0 ≤ k0.toInt ∧ k0.toInt < (σ.1 35).toInt ∧ (σ.1 47).toInt < 30 ∧ (0 : Int32).toInt = 0 ∧ x6.toInt = (σ.1 47).toInt ∧ (upd (σ.2.1 48) (σ.1 47).toNatClampNeg k0) = upd (σ.2.1 48) (σ.1 47).toInt.toNat k0 ∧ x5.toInt = (σ.1 47).toInt + 1) := by
  have q0 : (0 : Int32).toInt = 0 := by decide +kernel
  have q1 : (1 : Int32).toInt = 1 := by decide +kernel
  first
  | (refine Or.inl ⟨?_, ?_, ?_, ?_⟩ <;> first | assumption | rfl | omega | (congr 1; first | rfl | omega | (rw [clampN]; omega) | (simp only [clampN]; omega)))
  | (refine Or.inr (Or.inl ⟨?_, ?_, ?_, ?_, ?_, ?_⟩) <;> first | assumption | rfl | omega | (congr 1; first | rfl | omega | (rw [clampN]; omega) | (simp only [clampN]; omega)))
  | (refine Or.inr (Or.inr ⟨?_, ?_, ?_, ?_, ?_, ?_, ?_⟩) <;> first | assumption | rfl | omega | (congr 1; first | rfl | omega | (rw [clampN]; omega) | (simp only [clampN]; omega)))
-- post @38
theorem v_make_5 (σ : RS) (k0 : Int32) (hpre_0 : 0 ≤ (σ.1 35).toInt) (hpre_1 : (σ.1 35).toInt ≤ 5) (hpre_2 : 0 ≤ (σ.1 47).toInt) (hpre_3 : (σ.1 47).toInt ≤ 30) (hr1_0 : 0 ≤ k0.toInt) (hr1_1 : k0.toInt < (σ.1 35).toInt) (c3 : (σ.1 47).toInt = 30) : (¬ (0 ≤ k0.toInt ∧ k0.toInt < (σ.1 35).toInt) ∧ (2 : Int32).toInt = 1 ∧ (σ.2.1 48) = (σ.2.1 48) ∧ (σ.1 47) = (σ.1 47)) ∨ (0 ≤ k0.toInt ∧ k0.toInt < (σ.1 35).toInt ∧ (σ.1 47).toInt = 30 ∧ (2 : Int32).toInt = 2 ∧ (σ.2.1 48) = (σ.2.1 48) ∧ (σ.1 47) = (σ.1 47)) ∨ (0 ≤ k0.toInt ∧ k0.toInt < (σ.1 35).toInt ∧ (σ.1 47).toInt < 30 ∧ (2 : Int32).toInt = 0 ∧ (0 : Int32).toInt = (σ.1 47).toInt ∧ (σ.2.1 48) = upd (σ.2.1 48) (σ.1 47).toInt.toNat k0 ∧ (σ.1 47).toInt = (σ.1 47).toInt + 1) := by
  have q0 : (0 : Int32).toInt = 0 := by decide +kernel
  have q2 : (2 : Int32).toInt = 2 := by decide +kernel
  first
  | (refine Or.inl ⟨?_, ?_, ?_, ?_⟩ <;> first | assumption | rfl | omega | (congr 1; first | rfl | omega | (rw [clampN]; omega) | (simp only [clampN]; omega)))
  | (refine Or.inr (Or.inl ⟨?_, ?_, ?_, ?_, ?_, ?_⟩) <;> first | assumption | rfl | omega | (congr 1; first | rfl | omega | (rw [clampN]; omega) | (simp only [clampN]; omega)))
  | (refine Or.inr (Or.inr ⟨?_, ?_, ?_, ?_, ?_, ?_, ?_⟩) <;> first | assumption | rfl | omega | (congr 1; first | rfl | omega | (rw [clampN]; omega) | (simp only [clampN]; omega)))
-- post @38
theorem v_make_6 (σ : RS) (k0 : Int32) (hpre_0 : 0 ≤ (σ.1 35).toInt) (hpre_1 : (σ.1 35).toInt ≤ 5) (hpre_2 : 0 ≤ (σ.1 47).toInt) (hpre_3 : (σ.1 47).toInt ≤ 30) (hr1 : ¬ (0 ≤ k0.toInt ∧ k0.toInt < (σ.1 35).toInt)) : (¬ (0 ≤ k0.toInt ∧ k0.toInt < (σ.1 35).toInt) ∧ (1 : Int32).toInt = 1 ∧ (σ.2.1 48) = (σ.2.1 48) ∧ (σ.1 47) = (σ.1 47)) ∨ (0 ≤ k0.toInt ∧ k0.toInt < (σ.1 35).toInt ∧ (σ.1 47).toInt = 30 ∧ (1 : Int32).toInt = 2 ∧ (σ.2.1 48) = (σ.2.1 48) ∧ (σ.1 47) = (σ.1 47)) ∨ (0 ≤ k0.toInt ∧ k0.toInt < (σ.1 35).toInt ∧ (σ.1 47).toInt < 30 ∧ (1 : Int32).toInt = 0 ∧ (0 : Int32).toInt = (σ.1 47).toInt ∧ (σ.2.1 48) = upd (σ.2.1 48) (σ.1 47).toInt.toNat k0 ∧ (σ.1 47).toInt = (σ.1 47).toInt + 1) := by
  have q0 : (0 : Int32).toInt = 0 := by decide +kernel
  have q1 : (1 : Int32).toInt = 1 := by decide +kernel
  first
  | (refine Or.inl ⟨?_, ?_, ?_, ?_⟩ <;> first | assumption | rfl | omega | (congr 1; first | rfl | omega | (rw [clampN]; omega) | (simp only [clampN]; omega)))
  | (refine Or.inr (Or.inl ⟨?_, ?_, ?_, ?_, ?_, ?_⟩) <;> first | assumption | rfl | omega | (congr 1; first | rfl | omega | (rw [clampN]; omega) | (simp only [clampN]; omega)))
  | (refine Or.inr (Or.inr ⟨?_, ?_, ?_, ?_, ?_, ?_, ?_⟩) <;> first | assumption | rfl | omega | (congr 1; first | rfl | omega | (rw [clampN]; omega) | (simp only [clampN]; omega)))
set_option maxHeartbeats 4000000 in
set_option maxRecDepth 100000 in
theorem M_make (l : Launch) (D : va_G) (cy : Nat → ClassId) (sz0 : Nat) (sa : Nat → Nat) (ad : Nat → Nat) (σ : RS) (sz : Nat) (k0 : Int32) (hpre : 0 ≤ (σ.1 35).toInt ∧ (σ.1 35).toInt ≤ 5 ∧ 0 ≤ (σ.1 47).toInt ∧ (σ.1 47).toInt ≤ 30) : Met l yX12_make (Cond.code yX12_make cX12_make 2 (some .int) :: GWm) ({ frames := 1, cells := 0, slots := 0, locals := 21 }) (PcR D cy sz0 sa ad [.ref (ad 0), .int k0] σ sz) (va_Qi (fun (r : Int32) (u : Int32 × (Nat → Int32) × Int32) => (¬ (0 ≤ k0.toInt ∧ k0.toInt < (σ.1 35).toInt) ∧ u.1.toInt = 1 ∧ u.2.1 = (σ.2.1 48) ∧ u.2.2 = (σ.1 47)) ∨ (0 ≤ k0.toInt ∧ k0.toInt < (σ.1 35).toInt ∧ (σ.1 47).toInt = 30 ∧ u.1.toInt = 2 ∧ u.2.1 = (σ.2.1 48) ∧ u.2.2 = (σ.1 47)) ∨ (0 ≤ k0.toInt ∧ k0.toInt < (σ.1 35).toInt ∧ (σ.1 47).toInt < 30 ∧ u.1.toInt = 0 ∧ r.toInt = (σ.1 47).toInt ∧ u.2.1 = upd (σ.2.1 48) (σ.1 47).toInt.toNat k0 ∧ u.2.2.toInt = (σ.1 47).toInt + 1)) (fun (u : Int32 × (Nat → Int32) × Int32) (t : State) => RP D cy ad (rS (rA (rS σ 0 u.1) 48 u.2.1) 47 u.2.2) t.heap) (AR cy ad sz)) 0 0 (AR cy ad sz) := by
  refine RM_of (loc0 := [(0, .ref (ad 0)), (1, .int k0)]) (by decide) rfl rfl (Nat.le_of_ble_eq_true rfl) ?_
  intro p e s m below meth c ls hsz C hP hS hl
  have hx := C.1
  have hb := C.2.1
  have hown := C.2.2.2.2.1
  have hw := C.2.2.2.2.2.1
  clear hsz
  obtain ⟨hpre_0, hpre_1, hpre_2, hpre_3⟩ := hpre
  refine lv_aload_n hx hb dX12_make_0 rfl (lv_at hl 0 rfl) ?_
  refine lv_aload_n hx hb dX12_make_1 rfl (lv_at hl 0 rfl) ?_
  refine lv_iload_n hx hb dX12_make_2 rfl (lv_at hl 1 rfl) ?_
  refine r_callVi (As := [.int k0]) (rest := [.ref (ad 0)]) C hP hS hl.1 ⟨Nat.zero_le _, Nat.zero_le _⟩ (M_isClass l D cy sz0 sa ad σ s.heap.size k0 trivial) (n := 1) ⟨wm_176, wm_173, by decide +kernel⟩ ⟨wm_177, wm_178, wm_10⟩ rfl rfl (lv_room (Nat.le_of_ble_eq_true rfl)) ⟨Nat.le_of_ble_eq_true rfl, Nat.le_of_ble_eq_true rfl⟩ dX12_make_3 (fun r1 u H locs hr1 hP hS => ?_)
  have hr1 : (r1.toInt = 0 ∧ ¬ (0 ≤ k0.toInt ∧ k0.toInt < (σ.1 35).toInt)) ∨ (r1.toInt = 1 ∧ (0 ≤ k0.toInt ∧ k0.toInt < (σ.1 35).toInt)) := hr1
  refine lv_if_ne (tgt := 13) hx hb dX12_make_6 (by decide) (fun c2 => ?_) (fun c2 => ?_)
  · have c2 : ¬ r1.toInt = 0 := by have h := z_ne c2; rw [show (0 : Int32).toInt = 0 from by decide +kernel] at h; exact h
    have hr1v : r1.toInt = 1 := hr1.elim (fun h9 => absurd h9.1 c2) (fun h9 => h9.1)
    have hr1 : 0 ≤ k0.toInt ∧ k0.toInt < (σ.1 35).toInt := bq_t hr1 c2
    obtain ⟨hr1_0, hr1_1⟩ := hr1
    refine lv_aload_n hx hb dX12_make_13 rfl (lv_at hl 0 rfl) ?_
    refine rg_47 (v := (σ.1 47)) C hP rfl wm_186 dX12_make_14 ?_
    refine lv_bipush (v := 30) hx hb dX12_make_17 (by decide +kernel) ?_
    refine lv_icmp_ne (tgt := 26) hx hb dX12_make_19 (by decide) (fun c3 => ?_) (fun c3 => ?_)
    · have c3 : ¬ (σ.1 47).toInt = 30 := by have h := z_ne c3; rw [show (30 : Int32).toInt = 30 from by decide +kernel] at h; exact h
      refine lv_iconst (v := 0) hx hb dX12_make_26 (by decide +kernel) ?_
      refine rp_0 C hP hS wm_1 dX12_make_27 (fun H locs hP hS => ?_)
      refine lv_aload_n hx hb dX12_make_30 rfl (lv_at hl 0 rfl) ?_
      refine rg_0 (v := 0) C hP rfl wm_1 dX12_make_31 ?_
      refine lv_if_le (tgt := 39) hx hb dX12_make_34 (by decide) (fun _ => ?_) (fun c4 => absurd (by decide +kernel) c4)
      refine lv_aload_n hx hb dX12_make_39 rfl (lv_at hl 0 rfl) ?_
      refine rg_48 C hP wm_201 dX12_make_40 ?_
      refine lv_aload_n hx hb dX12_make_43 rfl (lv_at hl 0 rfl) ?_
      refine rg_47 (v := (σ.1 47)) C hP rfl wm_186 dX12_make_44 ?_
      refine lv_iload_n hx hb dX12_make_47 rfl (lv_at hl 1 rfl) ?_
      refine rw_48 (f := (σ.2.1 48)) C hP hS rfl (v_make_1 σ hpre_2 hpre_3 c3) dX12_make_48 (fun H locs hP hS => ?_)
      refine lv_aload_n hx hb dX12_make_49 rfl (lv_at hl 0 rfl) ?_
      refine lv_dup hx hb dX12_make_50 rfl ?_
      refine rg_47 (v := (σ.1 47)) C hP rfl wm_186 dX12_make_51 ?_
      refine lv_iconst (v := 1) hx hb dX12_make_54 (by decide +kernel) ?_
      refine lv_iadd hx hb dX12_make_55 ?_
      refine lv_topi (fun x5 ex5 => ?_)
      have tx5 : x5.toInt = (σ.1 47).toInt + 1 := (v_make_2 σ x5 hpre_2 hpre_3 c3 ex5)
      refine rp_47 C hP hS wm_186 dX12_make_56 (fun H locs hP hS => ?_)
      refine lv_aload_n hx hb dX12_make_59 rfl (lv_at hl 0 rfl) ?_
      refine rg_47 (v := x5) C hP rfl wm_186 dX12_make_60 ?_
      refine lv_iconst (v := 1) hx hb dX12_make_63 (by decide +kernel) ?_
      refine lv_isub hx hb dX12_make_64 ?_
      refine lv_topi (fun x6 ex6 => ?_)
      have tx6 : x6.toInt = x5.toInt - 1 := (v_make_3 σ x5 x6 hpre_2 hpre_3 c3 ex5 tx5 ex6)
      exact r_reti C ⟨(0 : Int32), (upd (σ.2.1 48) (σ.1 47).toNatClampNeg k0), x5⟩ (v_make_4 σ k0 x5 x6 hpre_0 hpre_1 hpre_2 hpre_3 hr1_0 hr1_1 c3 ex5 tx5 ex6 tx6) hP hS dX12_make_65
    · have c3 : (σ.1 47).toInt = 30 := by have h := z_eq c3; rw [show (30 : Int32).toInt = 30 from by decide +kernel] at h; exact h
      refine lv_iconst (v := 2) hx hb dX12_make_22 (by decide +kernel) ?_
      refine lv_goto (tgt := 27) hx hb dX12_make_23 (by decide) ?_
      refine rp_0 C hP hS wm_1 dX12_make_27 (fun H locs hP hS => ?_)
      refine lv_aload_n hx hb dX12_make_30 rfl (lv_at hl 0 rfl) ?_
      refine rg_0 (v := 2) C hP rfl wm_1 dX12_make_31 ?_
      refine lv_if_le (tgt := 39) hx hb dX12_make_34 (by decide) (fun c7 => absurd c7 (by decide +kernel)) (fun _ => ?_)
      refine lv_iconst (v := 0) hx hb dX12_make_37 (by decide +kernel) ?_
      have hP : RP D cy ad (rS (rA (rS σ 0 (2 : Int32)) 48 (σ.2.1 48)) 47 (σ.1 47)) H := RP.cong hP (Eq.trans (b := (2 : Int32)) rfl rfl) (Eq.trans (b := (σ.1 1)) rfl rfl) (Eq.trans (b := (σ.2.1 2)) rfl rfl) (Eq.trans (b := (σ.1 3)) rfl rfl) (Eq.trans (b := (σ.2.1 4)) rfl rfl) (Eq.trans (b := (σ.2.1 5)) rfl rfl) (Eq.trans (b := (σ.2.2.1 6)) rfl rfl) (Eq.trans (b := (σ.2.1 7)) rfl rfl) (Eq.trans (b := (σ.1 8)) rfl rfl) (Eq.trans (b := (σ.1 9)) rfl rfl) (Eq.trans (b := (σ.1 10)) rfl rfl) (Eq.trans (b := (σ.2.1 11)) rfl rfl) (Eq.trans (b := (σ.2.2.1 12)) rfl rfl) (Eq.trans (b := (σ.2.1 13)) rfl rfl) (Eq.trans (b := (σ.1 14)) rfl rfl) (Eq.trans (b := (σ.1 15)) rfl rfl) (Eq.trans (b := (σ.1 16)) rfl rfl) (Eq.trans (b := (σ.1 17)) rfl rfl) (Eq.trans (b := (σ.1 18)) rfl rfl) (Eq.trans (b := (σ.1 19)) rfl rfl) (Eq.trans (b := (σ.2.1 20)) rfl rfl) (Eq.trans (b := (σ.2.1 21)) rfl rfl) (Eq.trans (b := (σ.2.1 22)) rfl rfl) (Eq.trans (b := (σ.2.1 23)) rfl rfl) (Eq.trans (b := (σ.2.1 24)) rfl rfl) (Eq.trans (b := (σ.2.1 25)) rfl rfl) (Eq.trans (b := (σ.2.1 26)) rfl rfl) (Eq.trans (b := (σ.2.1 27)) rfl rfl) (Eq.trans (b := (σ.2.1 28)) rfl rfl) (Eq.trans (b := (σ.1 29)) rfl rfl) (Eq.trans (b := (σ.2.1 30)) rfl rfl) (Eq.trans (b := (σ.2.1 31)) rfl rfl) (Eq.trans (b := (σ.2.1 32)) rfl rfl) (Eq.trans (b := (σ.1 33)) rfl rfl) (Eq.trans (b := (σ.1 34)) rfl rfl) (Eq.trans (b := (σ.1 35)) rfl rfl) (Eq.trans (b := (σ.2.1 36)) rfl rfl) (Eq.trans (b := (σ.2.1 37)) rfl rfl) (Eq.trans (b := (σ.2.1 38)) rfl rfl) (Eq.trans (b := (σ.2.1 39)) rfl rfl) (Eq.trans (b := (σ.2.1 40)) rfl rfl) (Eq.trans (b := (σ.2.1 41)) rfl rfl) (Eq.trans (b := (σ.2.1 42)) rfl rfl) (Eq.trans (b := (σ.2.1 43)) rfl rfl) (Eq.trans (b := (σ.2.1 44)) rfl rfl) (Eq.trans (b := (σ.2.1 45)) rfl rfl) (Eq.trans (b := (σ.2.1 46)) rfl rfl) (Eq.trans (b := (σ.1 47)) rfl rfl) (Eq.trans (b := (σ.2.1 48)) rfl rfl) (Eq.trans (b := (σ.1 49)) rfl rfl) (Eq.trans (b := (σ.2.1 50)) rfl rfl) (Eq.trans (b := (σ.2.1 51)) rfl rfl) (Eq.trans (b := (σ.2.2.1 52)) rfl rfl) (Eq.trans (b := (σ.2.2.1 53)) rfl rfl) (Eq.trans (b := (σ.2.2.2)) rfl rfl) (Eq.trans (b := (σ.1 55)) rfl rfl) (Eq.trans (b := (σ.1 56)) rfl rfl) (Eq.trans (b := (σ.1 57)) rfl rfl) (Eq.trans (b := (σ.2.1 58)) rfl rfl) (Eq.trans (b := (σ.1 59)) rfl rfl)
      exact r_reti C ⟨(2 : Int32), (σ.2.1 48), (σ.1 47)⟩ (v_make_5 σ k0 hpre_0 hpre_1 hpre_2 hpre_3 hr1_0 hr1_1 c3) hP hS dX12_make_38
  · have c2 : r1.toInt = 0 := by have h := z_eq c2; rw [show (0 : Int32).toInt = 0 from by decide +kernel] at h; exact h
    have hr1 : ¬ (0 ≤ k0.toInt ∧ k0.toInt < (σ.1 35).toInt) := bq_f hr1 c2
    refine lv_iconst (v := 1) hx hb dX12_make_9 (by decide +kernel) ?_
    refine lv_goto (tgt := 27) hx hb dX12_make_10 (by decide) ?_
    refine rp_0 C hP hS wm_1 dX12_make_27 (fun H locs hP hS => ?_)
    refine lv_aload_n hx hb dX12_make_30 rfl (lv_at hl 0 rfl) ?_
    refine rg_0 (v := 1) C hP rfl wm_1 dX12_make_31 ?_
    refine lv_if_le (tgt := 39) hx hb dX12_make_34 (by decide) (fun c8 => absurd c8 (by decide +kernel)) (fun _ => ?_)
    refine lv_iconst (v := 0) hx hb dX12_make_37 (by decide +kernel) ?_
    have hP : RP D cy ad (rS (rA (rS σ 0 (1 : Int32)) 48 (σ.2.1 48)) 47 (σ.1 47)) H := RP.cong hP (Eq.trans (b := (1 : Int32)) rfl rfl) (Eq.trans (b := (σ.1 1)) rfl rfl) (Eq.trans (b := (σ.2.1 2)) rfl rfl) (Eq.trans (b := (σ.1 3)) rfl rfl) (Eq.trans (b := (σ.2.1 4)) rfl rfl) (Eq.trans (b := (σ.2.1 5)) rfl rfl) (Eq.trans (b := (σ.2.2.1 6)) rfl rfl) (Eq.trans (b := (σ.2.1 7)) rfl rfl) (Eq.trans (b := (σ.1 8)) rfl rfl) (Eq.trans (b := (σ.1 9)) rfl rfl) (Eq.trans (b := (σ.1 10)) rfl rfl) (Eq.trans (b := (σ.2.1 11)) rfl rfl) (Eq.trans (b := (σ.2.2.1 12)) rfl rfl) (Eq.trans (b := (σ.2.1 13)) rfl rfl) (Eq.trans (b := (σ.1 14)) rfl rfl) (Eq.trans (b := (σ.1 15)) rfl rfl) (Eq.trans (b := (σ.1 16)) rfl rfl) (Eq.trans (b := (σ.1 17)) rfl rfl) (Eq.trans (b := (σ.1 18)) rfl rfl) (Eq.trans (b := (σ.1 19)) rfl rfl) (Eq.trans (b := (σ.2.1 20)) rfl rfl) (Eq.trans (b := (σ.2.1 21)) rfl rfl) (Eq.trans (b := (σ.2.1 22)) rfl rfl) (Eq.trans (b := (σ.2.1 23)) rfl rfl) (Eq.trans (b := (σ.2.1 24)) rfl rfl) (Eq.trans (b := (σ.2.1 25)) rfl rfl) (Eq.trans (b := (σ.2.1 26)) rfl rfl) (Eq.trans (b := (σ.2.1 27)) rfl rfl) (Eq.trans (b := (σ.2.1 28)) rfl rfl) (Eq.trans (b := (σ.1 29)) rfl rfl) (Eq.trans (b := (σ.2.1 30)) rfl rfl) (Eq.trans (b := (σ.2.1 31)) rfl rfl) (Eq.trans (b := (σ.2.1 32)) rfl rfl) (Eq.trans (b := (σ.1 33)) rfl rfl) (Eq.trans (b := (σ.1 34)) rfl rfl) (Eq.trans (b := (σ.1 35)) rfl rfl) (Eq.trans (b := (σ.2.1 36)) rfl rfl) (Eq.trans (b := (σ.2.1 37)) rfl rfl) (Eq.trans (b := (σ.2.1 38)) rfl rfl) (Eq.trans (b := (σ.2.1 39)) rfl rfl) (Eq.trans (b := (σ.2.1 40)) rfl rfl) (Eq.trans (b := (σ.2.1 41)) rfl rfl) (Eq.trans (b := (σ.2.1 42)) rfl rfl) (Eq.trans (b := (σ.2.1 43)) rfl rfl) (Eq.trans (b := (σ.2.1 44)) rfl rfl) (Eq.trans (b := (σ.2.1 45)) rfl rfl) (Eq.trans (b := (σ.2.1 46)) rfl rfl) (Eq.trans (b := (σ.1 47)) rfl rfl) (Eq.trans (b := (σ.2.1 48)) rfl rfl) (Eq.trans (b := (σ.1 49)) rfl rfl) (Eq.trans (b := (σ.2.1 50)) rfl rfl) (Eq.trans (b := (σ.2.1 51)) rfl rfl) (Eq.trans (b := (σ.2.2.1 52)) rfl rfl) (Eq.trans (b := (σ.2.2.1 53)) rfl rfl) (Eq.trans (b := (σ.2.2.2)) rfl rfl) (Eq.trans (b := (σ.1 55)) rfl rfl) (Eq.trans (b := (σ.1 56)) rfl rfl) (Eq.trans (b := (σ.1 57)) rfl rfl) (Eq.trans (b := (σ.2.1 58)) rfl rfl) (Eq.trans (b := (σ.1 59)) rfl rfl)
    exact r_reti C ⟨(1 : Int32), (σ.2.1 48), (σ.1 47)⟩ (v_make_6 σ k0 hpre_0 hpre_1 hpre_2 hpre_3 hr1) hP hS dX12_make_38
