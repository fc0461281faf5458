-- pre:placeFor@27 @27
theorem v_keep_1 (σ : RS) (hpre_0 : 0 ≤ (σ.1 49).toInt) (hpre_1 : (σ.1 49).toInt ≤ 12) : 0 ≤ (σ.1 49).toInt ∧ (σ.1 49).toInt ≤ 12 := by
  refine ⟨?_, ?_⟩ <;> first | assumption | omega | (subst_vars; omega) | trivial
-- pre:copy@57 @57
theorem v_keep_2 (r4 : Int32) (hr4_2 : r4.toInt = -1 ∨ (64 ≤ r4.toInt ∧ r4.toInt < 76)) (c7 : 0 ≤ r4.toInt) : 0 ≤ (60 : Int32).toInt ∧ (60 : Int32).toInt < 980 ∧ 0 ≤ r4.toInt ∧ r4.toInt < 980 := by
  have q60 : (60 : Int32).toInt = 60 := by decide +kernel
  refine ⟨?_, ?_, ?_, ?_⟩ <;> first | assumption | omega | (subst_vars; omega) | trivial
-- in@65 @65
theorem v_keep_3 (r4 : Int32) (hr4_2 : r4.toInt = -1 ∨ (64 ≤ r4.toInt ∧ r4.toInt < 76)) (c7 : 0 ≤ r4.toInt) : vp_in r4 980 := by
  exact vp_in_iff.mpr ⟨by omega, by omega⟩
-- post @66
theorem v_keep_4 (σ : RS) (n6 : Int32) (r4 : Int32) (x10 : Int32) (hpre_2 : VALS (σ.2.1 51) (σ.2.2.1 52) (σ.1 35).toInt (σ.1 47).toInt) (hpre_3 : FINS (σ.2.1 51) (σ.2.2.2) 0) (hpre_4 : 0 ≤ (σ.1 35).toInt) (hpre_5 : (σ.1 35).toInt ≤ 5) (hr4_0 : 0 ≤ n6.toInt) (hr4_1 : n6.toInt ≤ 12) (hr4_2 : r4.toInt = -1 ∨ (64 ≤ r4.toInt ∧ r4.toInt < 76)) (c7 : 0 ≤ r4.toInt) (ex10 : x10 = (upd (σ.2.1 51) r4.toNatClampNeg ((σ.2.1 51) (60 : Int32).toNatClampNeg)) r4.toNatClampNeg) (tx10 : x10.toInt = ((upd (σ.2.1 51) r4.toNatClampNeg ((σ.2.1 51) (60 : Int32).toNatClampNeg)) r4.toNatClampNeg).toInt) : 0 ≤ (0 : Int32).toInt ∧ (0 : Int32).toInt ≤ 2 ∧ 0 ≤ n6.toInt ∧ n6.toInt ≤ 12 ∧ OPQ (σ.2.1 51) (upd (σ.2.1 51) r4.toNatClampNeg ((σ.2.1 51) (60 : Int32).toNatClampNeg)) (σ.2.2.1 52) (vp_updL (σ.2.2.1 52) r4.toNatClampNeg ((σ.2.2.1 52) (60 : Int32).toNatClampNeg)) (vf_upd (σ.2.2.2) r4.toNatClampNeg ((σ.2.2.2) (60 : Int32).toNatClampNeg)) (σ.1 35).toInt (σ.1 47).toInt (0) (0) (60) := by
  have q0 : (0 : Int32).toInt = 0 := by decide +kernel
  have q60 : (60 : Int32).toInt = 60 := by decide +kernel
  refine ⟨by omega, by omega, by omega, by omega, ?_⟩
  first
  | exact OPQ.same hpre_2 hpre_3 (by omega) (by omega)
  | exact OPQ.c1 hpre_2 hpre_3 ⟨_, _, _, rfl, rfl, rfl, GV.cell hpre_2 hpre_3 (by first | omega | (rw [clampN]; omega)) (Or.inr (by first | omega | (rw [clampN]; omega) | decide +kernel))⟩ (by omega) (by rw [clampN]; omega) (Or.inr rfl) (Or.inl (by omega))
-- post @52
theorem v_keep_5 (σ : RS) (n6 : Int32) (hpre_2 : VALS (σ.2.1 51) (σ.2.2.1 52) (σ.1 35).toInt (σ.1 47).toInt) (hpre_3 : FINS (σ.2.1 51) (σ.2.2.2) 0) (hpre_4 : 0 ≤ (σ.1 35).toInt) (hpre_5 : (σ.1 35).toInt ≤ 5) (hr4_0 : 0 ≤ n6.toInt) (hr4_1 : n6.toInt ≤ 12) : 0 ≤ (2 : Int32).toInt ∧ (2 : Int32).toInt ≤ 2 ∧ 0 ≤ n6.toInt ∧ n6.toInt ≤ 12 ∧ OPQ (σ.2.1 51) (σ.2.1 51) (σ.2.2.1 52) (σ.2.2.1 52) (σ.2.2.2) (σ.1 35).toInt (σ.1 47).toInt (0) (0) (60) := by
  have q2 : (2 : Int32).toInt = 2 := by decide +kernel
  refine ⟨by omega, by omega, by omega, by omega, ?_⟩
  first
  | exact OPQ.same hpre_2 hpre_3 (by omega) (by omega)
  | exact OPQ.c1 hpre_2 hpre_3 ⟨_, _, _, rfl, rfl, rfl, GV.cell hpre_2 hpre_3 (by first | omega | (rw [clampN]; omega)) (Or.inr (by first | omega | (rw [clampN]; omega) | decide +kernel))⟩ (by omega) (by rw [clampN]; omega) (Or.inr rfl) (Or.inl (by omega))
-- post @24
theorem v_keep_6 (σ : RS) (hpre_0 : 0 ≤ (σ.1 49).toInt) (hpre_1 : (σ.1 49).toInt ≤ 12) (hpre_2 : VALS (σ.2.1 51) (σ.2.2.1 52) (σ.1 35).toInt (σ.1 47).toInt) (hpre_3 : FINS (σ.2.1 51) (σ.2.2.2) 0) (hpre_4 : 0 ≤ (σ.1 35).toInt) (hpre_5 : (σ.1 35).toInt ≤ 5) : 0 ≤ (1 : Int32).toInt ∧ (1 : Int32).toInt ≤ 2 ∧ 0 ≤ (σ.1 49).toInt ∧ (σ.1 49).toInt ≤ 12 ∧ OPQ (σ.2.1 51) (σ.2.1 51) (σ.2.2.1 52) (σ.2.2.1 52) (σ.2.2.2) (σ.1 35).toInt (σ.1 47).toInt (0) (0) (60) := by
  have q1 : (1 : Int32).toInt = 1 := by decide +kernel
  refine ⟨by omega, by omega, by omega, by omega, ?_⟩
  first
  | exact OPQ.same hpre_2 hpre_3 (by omega) (by omega)
  | exact OPQ.c1 hpre_2 hpre_3 ⟨_, _, _, rfl, rfl, rfl, GV.cell hpre_2 hpre_3 (by first | omega | (rw [clampN]; omega)) (Or.inr (by first | omega | (rw [clampN]; omega) | decide +kernel))⟩ (by omega) (by rw [clampN]; omega) (Or.inr rfl) (Or.inl (by omega))
set_option maxHeartbeats 4000000 in
set_option maxRecDepth 100000 in
theorem M_keep (l : Launch) (D : va_G) (cy : Nat → ClassId) (sz0 : Nat) (sa : Nat → Nat) (ad : Nat → Nat) (σ : RS) (sz : Nat) (k0 : Int32) (hpre : 0 ≤ (σ.1 49).toInt ∧ (σ.1 49).toInt ≤ 12 ∧ VALS (σ.2.1 51) (σ.2.2.1 52) (σ.1 35).toInt (σ.1 47).toInt ∧ FINS (σ.2.1 51) (σ.2.2.2) 0 ∧ 0 ≤ (σ.1 35).toInt ∧ (σ.1 35).toInt ≤ 5) : Met l yX12_keep (Cond.code yX12_keep cX12_keep 3 (some .int) :: GWm) ({ frames := 2, cells := 0, slots := 0, locals := 45 }) (PcR D cy sz0 sa ad [.ref (ad 0), .int k0] σ sz) (va_Qi (fun (r : Int32) (u : (Nat → Int32) × (Nat → Int64) × (Nat → Int64) × (Nat → UInt64) × Int32 × Int32 × (Nat → Int32)) => 0 ≤ u.2.2.2.2.1.toInt ∧ u.2.2.2.2.1.toInt ≤ 2 ∧ 0 ≤ u.2.2.2.2.2.1.toInt ∧ u.2.2.2.2.2.1.toInt ≤ 12 ∧ OPQ (σ.2.1 51) u.1 (σ.2.2.1 52) u.2.1 u.2.2.2.1 (σ.1 35).toInt (σ.1 47).toInt (0) (0) (60)) (fun (u : (Nat → Int32) × (Nat → Int64) × (Nat → Int64) × (Nat → UInt64) × Int32 × Int32 × (Nat → Int32)) (t : State) => RP D cy ad (rA (rS (rS (rR (rJ (rJ (rA σ 51 u.1) 52 u.2.1) 53 u.2.2.1) u.2.2.2.1) 0 u.2.2.2.2.1) 49 u.2.2.2.2.2.1) 50 u.2.2.2.2.2.2) t.heap) (AR cy ad sz)) 0 0 (AR cy ad sz) := by
  refine RM_of (loc0 := [(0, .ref (ad 0)), (1, .int k0)]) (by decide) rfl rfl (Nat.le_of_ble_eq_true rfl) ?_
  intro p e s m below meth c ls hsz C hP hS hl
  have hx := C.1
  have hb := C.2.1
  have hown := C.2.2.2.2.1
  have hw := C.2.2.2.2.2.1
  clear hsz
  obtain ⟨hpre_0, hpre_1, hpre_2, hpre_3, hpre_4, hpre_5⟩ := hpre
  refine lv_aload_n hx hb dX12_keep_0 rfl (lv_at hl 0 rfl) ?_
  refine lv_iload_n hx hb dX12_keep_1 rfl (lv_at hl 1 rfl) ?_
  refine r_callSi (As := [.int k0]) (rest := [.ref (ad 0)]) C hP hS hl.1 ⟨Nat.zero_le _, Nat.zero_le _⟩ (M_isName l D cy sz0 sa ad σ s.heap.size k0 trivial) (n := 1) ⟨wm_188, wm_179, by decide +kernel⟩ ⟨wm_189, wm_10⟩ rfl rfl (lv_room (Nat.le_of_ble_eq_true rfl)) ⟨Nat.le_of_ble_eq_true rfl, Nat.le_of_ble_eq_true rfl⟩ dX12_keep_2 (fun r1 u H locs hr1 hP hS => ?_)
  have hr1 : (r1.toInt = 0 ∧ ¬ (1 ≤ k0.toInt ∧ k0.toInt ≤ 14348906)) ∨ (r1.toInt = 1 ∧ (1 ≤ k0.toInt ∧ k0.toInt ≤ 14348906)) := hr1
  refine lv_if_ne (tgt := 12) hx hb dX12_keep_5 (by decide) (fun c2 => ?_) (fun c2 => ?_)
  · have c2 : ¬ r1.toInt = 0 := by have h := z_ne c2; rw [show (0 : Int32).toInt = 0 from by decide +kernel] at h; exact h
    have hr1v : r1.toInt = 1 := hr1.elim (fun h9 => absurd h9.1 c2) (fun h9 => h9.1)
    have hr1 : 1 ≤ k0.toInt ∧ k0.toInt ≤ 14348906 := bq_t hr1 c2
    obtain ⟨hr1_0, hr1_1⟩ := hr1
    refine lv_iconst (v := 0) hx hb dX12_keep_12 (by decide +kernel) ?_
    refine rp_0 C hP hS wm_1 dX12_keep_13 (fun H locs hP hS => ?_)
    refine lv_aload_n hx hb dX12_keep_16 rfl (lv_at hl 0 rfl) ?_
    refine rg_0 (v := 0) C hP rfl wm_1 dX12_keep_17 ?_
    refine lv_if_le (tgt := 25) hx hb dX12_keep_20 (by decide) (fun _ => ?_) (fun c3 => absurd (by decide +kernel) c3)
    refine lv_aload_n hx hb dX12_keep_25 rfl (lv_at hl 0 rfl) ?_
    refine lv_iload_n hx hb dX12_keep_26 rfl (lv_at hl 1 rfl) ?_
    refine r_callVi (As := [.int k0]) (rest := []) C hP hS hl.1 ⟨Nat.zero_le _, Nat.zero_le _⟩ (M_placeFor l D cy sz0 sa ad (rS σ 0 (0 : Int32)) H.size k0 (v_keep_1 σ hpre_0 hpre_1)) (n := 1) ⟨wm_356, wm_350, by decide +kernel⟩ ⟨wm_357, wm_358, wm_10⟩ rfl rfl (lv_room (Nat.le_of_ble_eq_true rfl)) ⟨Nat.le_of_ble_eq_true rfl, Nat.le_of_ble_eq_true rfl⟩ dX12_keep_27 (fun r4 u H locs hr4 hP hS => ?_)
    obtain ⟨F5, n6⟩ := u
    have hr4 : 0 ≤ n6.toInt ∧ n6.toInt ≤ 12 ∧ (r4.toInt = -1 ∨ (64 ≤ r4.toInt ∧ r4.toInt < 76)) := hr4
    obtain ⟨hr4_0, hr4_1, hr4_2⟩ := hr4
    have hP : RP D cy ad (rS (rA (rS σ 0 (0 : Int32)) 50 F5) 49 n6) H := hP
    refine lv_istore_n (lv' := [(2, .int r4), (0, .ref (ad 0)), (1, .int k0)]) hx hb dX12_keep_30 rfl hl (by decide) rfl (fun ls hl => ?_)
    refine lv_aload_n hx hb dX12_keep_31 rfl (lv_at hl 1 rfl) ?_
    refine lv_iload_n hx hb dX12_keep_32 rfl (lv_at hl 0 rfl) ?_
    refine lv_if_ge (tgt := 40) hx hb dX12_keep_33 (by decide) (fun c7 => ?_) (fun c7 => ?_)
    · have c7 : 0 ≤ r4.toInt := by have h := z_le c7; rw [show (0 : Int32).toInt = 0 from by decide +kernel] at h; exact h
      refine lv_iconst (v := 0) hx hb dX12_keep_40 (by decide +kernel) ?_
      refine rp_0 C hP hS wm_1 dX12_keep_41 (fun H locs hP hS => ?_)
      refine lv_aload_n hx hb dX12_keep_44 rfl (lv_at hl 1 rfl) ?_
      refine rg_0 (v := 0) C hP rfl wm_1 dX12_keep_45 ?_
      refine lv_if_le (tgt := 53) hx hb dX12_keep_48 (by decide) (fun _ => ?_) (fun c8 => absurd (by decide +kernel) c8)
      refine lv_aload_n hx hb dX12_keep_53 rfl (lv_at hl 1 rfl) ?_
      refine lv_bipush (v := 60) hx hb dX12_keep_54 (by decide +kernel) ?_
      refine lv_iload_n hx hb dX12_keep_56 rfl (lv_at hl 0 rfl) ?_
      refine r_callVv (As := [.int 60, .int r4]) (rest := []) C hP hS hl.1 ⟨Nat.zero_le _, Nat.zero_le _⟩ (M_copy l D cy sz0 sa ad (rS (rS (rA (rS σ 0 (0 : Int32)) 50 F5) 49 n6) 0 (0 : Int32)) H.size (60 : Int32) r4 (v_keep_2 r4 hr4_2 c7)) (n := 2) ⟨wm_314, wm_210, by decide +kernel⟩ ⟨wm_315, wm_316, wm_10⟩ rfl rfl (lv_room (Nat.le_of_ble_eq_true rfl)) ⟨Nat.le_of_ble_eq_true rfl, Nat.le_of_ble_eq_true rfl⟩ dX12_keep_57 (fun u H locs hr9 hP hS => ?_)
      have hr9 : True := hr9
      have hP : RP D cy ad (rR (rJ (rJ (rA (rS (rS (rA (rS σ 0 (0 : Int32)) 50 F5) 49 n6) 0 (0 : Int32)) 51 (upd (σ.2.1 51) r4.toNatClampNeg ((σ.2.1 51) (60 : Int32).toNatClampNeg))) 52 (vp_updL (σ.2.2.1 52) r4.toNatClampNeg ((σ.2.2.1 52) (60 : Int32).toNatClampNeg))) 53 (vp_updL (σ.2.2.1 53) r4.toNatClampNeg ((σ.2.2.1 53) (60 : Int32).toNatClampNeg))) (vf_upd (σ.2.2.2) r4.toNatClampNeg ((σ.2.2.2) (60 : Int32).toNatClampNeg))) H := hP
      refine lv_aload_n hx hb dX12_keep_60 rfl (lv_at hl 1 rfl) ?_
      refine rg_51 C hP wm_205 dX12_keep_61 ?_
      refine lv_iload_n hx hb dX12_keep_64 rfl (lv_at hl 0 rfl) ?_
      refine ra_51 (f := (upd (σ.2.1 51) r4.toNatClampNeg ((σ.2.1 51) (60 : Int32).toNatClampNeg))) C hP rfl (v_keep_3 r4 hr4_2 c7) dX12_keep_65 (fun x10 ex10 => ?_)
      have tx10 : x10.toInt = ((upd (σ.2.1 51) r4.toNatClampNeg ((σ.2.1 51) (60 : Int32).toNatClampNeg)) r4.toNatClampNeg).toInt := by rw [ex10]
      have hP : RP D cy ad (rA (rS (rS (rR (rJ (rJ (rA σ 51 (upd (σ.2.1 51) r4.toNatClampNeg ((σ.2.1 51) (60 : Int32).toNatClampNeg))) 52 (vp_updL (σ.2.2.1 52) r4.toNatClampNeg ((σ.2.2.1 52) (60 : Int32).toNatClampNeg))) 53 (vp_updL (σ.2.2.1 53) r4.toNatClampNeg ((σ.2.2.1 53) (60 : Int32).toNatClampNeg))) (vf_upd (σ.2.2.2) r4.toNatClampNeg ((σ.2.2.2) (60 : Int32).toNatClampNeg))) 0 (0 : Int32)) 49 n6) 50 F5) H := RP.cong hP (Eq.trans (b := (0 : Int32)) rfl rfl) (Eq.trans (b := (σ.1 1)) rfl rfl) (Eq.trans (b := (σ.2.1 2)) rfl rfl) (Eq.trans (b := (σ.1 3)) rfl rfl) (Eq.trans (b := (σ.2.1 4)) rfl rfl) (Eq.trans (b := (σ.2.1 5)) rfl rfl) (Eq.trans (b := (σ.2.2.1 6)) rfl rfl) (Eq.trans (b := (σ.2.1 7)) rfl rfl) (Eq.trans (b := (σ.1 8)) rfl rfl) (Eq.trans (b := (σ.1 9)) rfl rfl) (Eq.trans (b := (σ.1 10)) rfl rfl) (Eq.trans (b := (σ.2.1 11)) rfl rfl) (Eq.trans (b := (σ.2.2.1 12)) rfl rfl) (Eq.trans (b := (σ.2.1 13)) rfl rfl) (Eq.trans (b := (σ.1 14)) rfl rfl) (Eq.trans (b := (σ.1 15)) rfl rfl) (Eq.trans (b := (σ.1 16)) rfl rfl) (Eq.trans (b := (σ.1 17)) rfl rfl) (Eq.trans (b := (σ.1 18)) rfl rfl) (Eq.trans (b := (σ.1 19)) rfl rfl) (Eq.trans (b := (σ.2.1 20)) rfl rfl) (Eq.trans (b := (σ.2.1 21)) rfl rfl) (Eq.trans (b := (σ.2.1 22)) rfl rfl) (Eq.trans (b := (σ.2.1 23)) rfl rfl) (Eq.trans (b := (σ.2.1 24)) rfl rfl) (Eq.trans (b := (σ.2.1 25)) rfl rfl) (Eq.trans (b := (σ.2.1 26)) rfl rfl) (Eq.trans (b := (σ.2.1 27)) rfl rfl) (Eq.trans (b := (σ.2.1 28)) rfl rfl) (Eq.trans (b := (σ.1 29)) rfl rfl) (Eq.trans (b := (σ.2.1 30)) rfl rfl) (Eq.trans (b := (σ.2.1 31)) rfl rfl) (Eq.trans (b := (σ.2.1 32)) rfl rfl) (Eq.trans (b := (σ.1 33)) rfl rfl) (Eq.trans (b := (σ.1 34)) rfl rfl) (Eq.trans (b := (σ.1 35)) rfl rfl) (Eq.trans (b := (σ.2.1 36)) rfl rfl) (Eq.trans (b := (σ.2.1 37)) rfl rfl) (Eq.trans (b := (σ.2.1 38)) rfl rfl) (Eq.trans (b := (σ.2.1 39)) rfl rfl) (Eq.trans (b := (σ.2.1 40)) rfl rfl) (Eq.trans (b := (σ.2.1 41)) rfl rfl) (Eq.trans (b := (σ.2.1 42)) rfl rfl) (Eq.trans (b := (σ.2.1 43)) rfl rfl) (Eq.trans (b := (σ.2.1 44)) rfl rfl) (Eq.trans (b := (σ.2.1 45)) rfl rfl) (Eq.trans (b := (σ.2.1 46)) rfl rfl) (Eq.trans (b := (σ.1 47)) rfl rfl) (Eq.trans (b := (σ.2.1 48)) rfl rfl) (Eq.trans (b := n6) rfl rfl) (Eq.trans (b := F5) rfl rfl) (Eq.trans (b := (upd (σ.2.1 51) r4.toNatClampNeg ((σ.2.1 51) (60 : Int32).toNatClampNeg))) rfl rfl) (Eq.trans (b := (vp_updL (σ.2.2.1 52) r4.toNatClampNeg ((σ.2.2.1 52) (60 : Int32).toNatClampNeg))) rfl rfl) (Eq.trans (b := (vp_updL (σ.2.2.1 53) r4.toNatClampNeg ((σ.2.2.1 53) (60 : Int32).toNatClampNeg))) rfl rfl) (Eq.trans (b := (vf_upd (σ.2.2.2) r4.toNatClampNeg ((σ.2.2.2) (60 : Int32).toNatClampNeg))) rfl rfl) (Eq.trans (b := (σ.1 55)) rfl rfl) (Eq.trans (b := (σ.1 56)) rfl rfl) (Eq.trans (b := (σ.1 57)) rfl rfl) (Eq.trans (b := (σ.2.1 58)) rfl rfl) (Eq.trans (b := (σ.1 59)) rfl rfl)
      exact r_reti C ⟨(upd (σ.2.1 51) r4.toNatClampNeg ((σ.2.1 51) (60 : Int32).toNatClampNeg)), (vp_updL (σ.2.2.1 52) r4.toNatClampNeg ((σ.2.2.1 52) (60 : Int32).toNatClampNeg)), (vp_updL (σ.2.2.1 53) r4.toNatClampNeg ((σ.2.2.1 53) (60 : Int32).toNatClampNeg)), (vf_upd (σ.2.2.2) r4.toNatClampNeg ((σ.2.2.2) (60 : Int32).toNatClampNeg)), (0 : Int32), n6, F5⟩ (v_keep_4 σ n6 r4 x10 hpre_2 hpre_3 hpre_4 hpre_5 hr4_0 hr4_1 hr4_2 c7 ex10 tx10) hP hS dX12_keep_66
    · have c7 : r4.toInt < 0 := by have h := z_nle c7; rw [show (0 : Int32).toInt = 0 from by decide +kernel] at h; exact h
      refine lv_iconst (v := 2) hx hb dX12_keep_36 (by decide +kernel) ?_
      refine lv_goto (tgt := 41) hx hb dX12_keep_37 (by decide) ?_
      refine rp_0 C hP hS wm_1 dX12_keep_41 (fun H locs hP hS => ?_)
      refine lv_aload_n hx hb dX12_keep_44 rfl (lv_at hl 1 rfl) ?_
      refine rg_0 (v := 2) C hP rfl wm_1 dX12_keep_45 ?_
      refine lv_if_le (tgt := 53) hx hb dX12_keep_48 (by decide) (fun c11 => absurd c11 (by decide +kernel)) (fun _ => ?_)
      refine lv_iconst (v := 0) hx hb dX12_keep_51 (by decide +kernel) ?_
      have hP : RP D cy ad (rA (rS (rS (rR (rJ (rJ (rA σ 51 (σ.2.1 51)) 52 (σ.2.2.1 52)) 53 (σ.2.2.1 53)) (σ.2.2.2)) 0 (2 : Int32)) 49 n6) 50 F5) H := RP.cong hP (Eq.trans (b := (2 : Int32)) rfl rfl) (Eq.trans (b := (σ.1 1)) rfl rfl) (Eq.trans (b := (σ.2.1 2)) rfl rfl) (Eq.trans (b := (σ.1 3)) rfl rfl) (Eq.trans (b := (σ.2.1 4)) rfl rfl) (Eq.trans (b := (σ.2.1 5)) rfl rfl) (Eq.trans (b := (σ.2.2.1 6)) rfl rfl) (Eq.trans (b := (σ.2.1 7)) rfl rfl) (Eq.trans (b := (σ.1 8)) rfl rfl) (Eq.trans (b := (σ.1 9)) rfl rfl) (Eq.trans (b := (σ.1 10)) rfl rfl) (Eq.trans (b := (σ.2.1 11)) rfl rfl) (Eq.trans (b := (σ.2.2.1 12)) rfl rfl) (Eq.trans (b := (σ.2.1 13)) rfl rfl) (Eq.trans (b := (σ.1 14)) rfl rfl) (Eq.trans (b := (σ.1 15)) rfl rfl) (Eq.trans (b := (σ.1 16)) rfl rfl) (Eq.trans (b := (σ.1 17)) rfl rfl) (Eq.trans (b := (σ.1 18)) rfl rfl) (Eq.trans (b := (σ.1 19)) rfl rfl) (Eq.trans (b := (σ.2.1 20)) rfl rfl) (Eq.trans (b := (σ.2.1 21)) rfl rfl) (Eq.trans (b := (σ.2.1 22)) rfl rfl) (Eq.trans (b := (σ.2.1 23)) rfl rfl) (Eq.trans (b := (σ.2.1 24)) rfl rfl) (Eq.trans (b := (σ.2.1 25)) rfl rfl) (Eq.trans (b := (σ.2.1 26)) rfl rfl) (Eq.trans (b := (σ.2.1 27)) rfl rfl) (Eq.trans (b := (σ.2.1 28)) rfl rfl) (Eq.trans (b := (σ.1 29)) rfl rfl) (Eq.trans (b := (σ.2.1 30)) rfl rfl) (Eq.trans (b := (σ.2.1 31)) rfl rfl) (Eq.trans (b := (σ.2.1 32)) rfl rfl) (Eq.trans (b := (σ.1 33)) rfl rfl) (Eq.trans (b := (σ.1 34)) rfl rfl) (Eq.trans (b := (σ.1 35)) rfl rfl) (Eq.trans (b := (σ.2.1 36)) rfl rfl) (Eq.trans (b := (σ.2.1 37)) rfl rfl) (Eq.trans (b := (σ.2.1 38)) rfl rfl) (Eq.trans (b := (σ.2.1 39)) rfl rfl) (Eq.trans (b := (σ.2.1 40)) rfl rfl) (Eq.trans (b := (σ.2.1 41)) rfl rfl) (Eq.trans (b := (σ.2.1 42)) rfl rfl) (Eq.trans (b := (σ.2.1 43)) rfl rfl) (Eq.trans (b := (σ.2.1 44)) rfl rfl) (Eq.trans (b := (σ.2.1 45)) rfl rfl) (Eq.trans (b := (σ.2.1 46)) rfl rfl) (Eq.trans (b := (σ.1 47)) rfl rfl) (Eq.trans (b := (σ.2.1 48)) rfl rfl) (Eq.trans (b := n6) rfl rfl) (Eq.trans (b := F5) rfl rfl) (Eq.trans (b := (σ.2.1 51)) rfl rfl) (Eq.trans (b := (σ.2.2.1 52)) rfl rfl) (Eq.trans (b := (σ.2.2.1 53)) rfl rfl) (Eq.trans (b := (σ.2.2.2)) rfl rfl) (Eq.trans (b := (σ.1 55)) rfl rfl) (Eq.trans (b := (σ.1 56)) rfl rfl) (Eq.trans (b := (σ.1 57)) rfl rfl) (Eq.trans (b := (σ.2.1 58)) rfl rfl) (Eq.trans (b := (σ.1 59)) rfl rfl)
      exact r_reti C ⟨(σ.2.1 51), (σ.2.2.1 52), (σ.2.2.1 53), (σ.2.2.2), (2 : Int32), n6, F5⟩ (v_keep_5 σ n6 hpre_2 hpre_3 hpre_4 hpre_5 hr4_0 hr4_1) hP hS dX12_keep_52
  · have c2 : r1.toInt = 0 := by have h := z_eq c2; rw [show (0 : Int32).toInt = 0 from by decide +kernel] at h; exact h
    have hr1 : ¬ (1 ≤ k0.toInt ∧ k0.toInt ≤ 14348906) := bq_f hr1 c2
    refine lv_iconst (v := 1) hx hb dX12_keep_8 (by decide +kernel) ?_
    refine lv_goto (tgt := 13) hx hb dX12_keep_9 (by decide) ?_
    refine rp_0 C hP hS wm_1 dX12_keep_13 (fun H locs hP hS => ?_)
    refine lv_aload_n hx hb dX12_keep_16 rfl (lv_at hl 0 rfl) ?_
    refine rg_0 (v := 1) C hP rfl wm_1 dX12_keep_17 ?_
    refine lv_if_le (tgt := 25) hx hb dX12_keep_20 (by decide) (fun c12 => absurd c12 (by decide +kernel)) (fun _ => ?_)
    refine lv_iconst (v := 0) hx hb dX12_keep_23 (by decide +kernel) ?_
    have hP : RP D cy ad (rA (rS (rS (rR (rJ (rJ (rA σ 51 (σ.2.1 51)) 52 (σ.2.2.1 52)) 53 (σ.2.2.1 53)) (σ.2.2.2)) 0 (1 : Int32)) 49 (σ.1 49)) 50 (σ.2.1 50)) H := RP.cong hP (Eq.trans (b := (1 : Int32)) rfl rfl) (Eq.trans (b := (σ.1 1)) rfl rfl) (Eq.trans (b := (σ.2.1 2)) rfl rfl) (Eq.trans (b := (σ.1 3)) rfl rfl) (Eq.trans (b := (σ.2.1 4)) rfl rfl) (Eq.trans (b := (σ.2.1 5)) rfl rfl) (Eq.trans (b := (σ.2.2.1 6)) rfl rfl) (Eq.trans (b := (σ.2.1 7)) rfl rfl) (Eq.trans (b := (σ.1 8)) rfl rfl) (Eq.trans (b := (σ.1 9)) rfl rfl) (Eq.trans (b := (σ.1 10)) rfl rfl) (Eq.trans (b := (σ.2.1 11)) rfl rfl) (Eq.trans (b := (σ.2.2.1 12)) rfl rfl) (Eq.trans (b := (σ.2.1 13)) rfl rfl) (Eq.trans (b := (σ.1 14)) rfl rfl) (Eq.trans (b := (σ.1 15)) rfl rfl) (Eq.trans (b := (σ.1 16)) rfl rfl) (Eq.trans (b := (σ.1 17)) rfl rfl) (Eq.trans (b := (σ.1 18)) rfl rfl) (Eq.trans (b := (σ.1 19)) rfl rfl) (Eq.trans (b := (σ.2.1 20)) rfl rfl) (Eq.trans (b := (σ.2.1 21)) rfl rfl) (Eq.trans (b := (σ.2.1 22)) rfl rfl) (Eq.trans (b := (σ.2.1 23)) rfl rfl) (Eq.trans (b := (σ.2.1 24)) rfl rfl) (Eq.trans (b := (σ.2.1 25)) rfl rfl) (Eq.trans (b := (σ.2.1 26)) rfl rfl) (Eq.trans (b := (σ.2.1 27)) rfl rfl) (Eq.trans (b := (σ.2.1 28)) rfl rfl) (Eq.trans (b := (σ.1 29)) rfl rfl) (Eq.trans (b := (σ.2.1 30)) rfl rfl) (Eq.trans (b := (σ.2.1 31)) rfl rfl) (Eq.trans (b := (σ.2.1 32)) rfl rfl) (Eq.trans (b := (σ.1 33)) rfl rfl) (Eq.trans (b := (σ.1 34)) rfl rfl) (Eq.trans (b := (σ.1 35)) rfl rfl) (Eq.trans (b := (σ.2.1 36)) rfl rfl) (Eq.trans (b := (σ.2.1 37)) rfl rfl) (Eq.trans (b := (σ.2.1 38)) rfl rfl) (Eq.trans (b := (σ.2.1 39)) rfl rfl) (Eq.trans (b := (σ.2.1 40)) rfl rfl) (Eq.trans (b := (σ.2.1 41)) rfl rfl) (Eq.trans (b := (σ.2.1 42)) rfl rfl) (Eq.trans (b := (σ.2.1 43)) rfl rfl) (Eq.trans (b := (σ.2.1 44)) rfl rfl) (Eq.trans (b := (σ.2.1 45)) rfl rfl) (Eq.trans (b := (σ.2.1 46)) rfl rfl) (Eq.trans (b := (σ.1 47)) rfl rfl) (Eq.trans (b := (σ.2.1 48)) rfl rfl) (Eq.trans (b := (σ.1 49)) rfl rfl) (Eq.trans (b := (σ.2.1 50)) rfl rfl) (Eq.trans (b := (σ.2.1 51)) rfl rfl) (Eq.trans (b := (σ.2.2.1 52)) rfl rfl) (Eq.trans (b := (σ.2.2.1 53)) rfl rfl) (Eq.trans (b := (σ.2.2.2)) rfl rfl) (Eq.trans (b := (σ.1 55)) rfl rfl) (Eq.trans (b := (σ.1 56)) rfl rfl) (Eq.trans (b := (σ.1 57)) rfl rfl) (Eq.trans (b := (σ.2.1 58)) rfl rfl) (Eq.trans (b := (σ.1 59)) rfl rfl)
    exact r_reti C ⟨(σ.2.1 51), (σ.2.2.1 52), (σ.2.2.1 53), (σ.2.2.2), (1 : Int32), (σ.1 49), (σ.2.1 50)⟩ (v_keep_6 σ hpre_0 hpre_1 hpre_2 hpre_3 hpre_4 hpre_5) hP hS dX12_keep_24
