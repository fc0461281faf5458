-- pre:X10_init@12 @12
theorem vX10_ofText_1   : FN FP.dconst0 := by
  first | assumption | exact fp_k0 | exact fp_i2d _ | (subst_vars; exact fp_i2d _) | exact (fp_FN_iff _).mpr (by decide +kernel)
set_option maxHeartbeats 4000000 in
set_option maxRecDepth 100000 in
theorem NX10_ofText (l : Launch) (D : va_G) (cy : Nat → ClassId) (ad : Nat → Nat) (A : Nat → Prop) (sz0 : Nat) (sa : Nat → Nat)  (κ : KS) (sz sl : Nat) (hAF : ∀ q, A q → Fr sz0 q) (hAn : ∀ q : Nat, sz ≤ q → A q) (k0 : Nat) (ht0 : SOK κ.2.2.2.2 sa k0) (hPV : PV sa κ.2.2.2.2) : Met l yX10_ofText (Cond.code yX10_ofText cX10_ofText 1 (some (.object "PhraseDesk$Value")) :: GWc) ({ frames := 2, cells := 1, slots := 5, locals := 46 }) (PcC D cy ad A sz0 sa [.ref k0] κ sz sl) (va_Qq (fun (r : Option Nat) (u : PL) => (EX κ.2.2.2.2 u) ∧ (PV sa u) ∧ (NN u 1 r)) (fun (u : PL) (t : State) => Bx D cy ad A sz sl (tP κ u) (1) (5) t) A) (1) (5) A := by
  refine CM_of (loc0 := [(0, .ref k0)]) (own := RX10) (nm := "ofText") (by decide) rfl rfl rfl (Nat.le_of_ble_eq_true rfl) hAF hAn ?_
  intro p e s m below meth c ls hsz hsl C hP hS hl
  refine cn_X10 C hP hS cw_83 cw_84 cw_40 ⟨(Nat.le_of_ble_eq_true rfl), (Nat.le_of_ble_eq_true rfl)⟩ dX10_ofText_0 (fun q1 H h0q1 hP hS => ?_)
  have exz2 : EX κ.2.2.2.2 (newP κ.2.2.2.2 q1 21) := (EX.newP h0q1)
  have pvz2 : PV sa (newP κ.2.2.2.2 q1 21) := (hPV.raw h0q1 (by decide))
  refine lv_dup C.x C.b dX10_ofText_3 rfl ?_
  refine lv_iconst (v := 4) C.x C.b dX10_ofText_4 (by decide +kernel) ?_
  refine lv_aload_n C.x C.b dX10_ofText_5 rfl (lv_at hl 0 rfl) ?_
  obtain ⟨n3, sln3, len3⟩ := (exz2.S ht0).sl pvz2 C
  refine c_callVi (n := 0) (As := []) (rest := [.int 4, .ref q1, .ref q1]) C hP hS hl.1 (NJ0_length_8abf5 l D cy ad A sz0 sa (tP κ (newP κ.2.2.2.2 q1 21)) H.size (SLT H) C.f (fun q h => C.a q (Nat.le_trans hS.1 h)) k0 n3 sln3 pvz2) ⟨cw_340, cw_101, by decide +kernel⟩ ⟨cw_99, cw_100, cw_70⟩ rfl (c_srecv C hP hS (exz2.S ht0)) rfl rfl (lv_room (Nat.le_of_ble_eq_true rfl)) ⟨Nat.le_of_ble_eq_true rfl, Nat.le_of_ble_eq_true rfl⟩ ⟨(Nat.le_of_ble_eq_true rfl), (Nat.le_of_ble_eq_true rfl)⟩ dX10_ofText_6 (fun r4 u H locs hr4 hP hS => ?_)
  have hr4 : (r4.toInt = ((n3 : Nat) : Int)) := hr4
  refine lv_dconst0 C.x C.b dX10_ofText_9 ?_
  refine lv_aload_n C.x C.b dX10_ofText_10 rfl (lv_at hl 0 rfl) ?_
  refine lv_null C.x C.b dX10_ofText_11 ?_
  refine c_callIv (C2 := "") (n := 5) (As := [.int 4, .int r4, .double FP.dconst0, .ref k0, .null]) (rest := [.ref q1]) C hP hS hl.1 (NX10_init l D cy ad A sz0 sa (tP κ (newP κ.2.2.2.2 q1 21)) H.size (SLT H) C.f (fun q h => C.a q (Nat.le_trans hS.1 h)) q1 (4 : Int32) r4 FP.dconst0 k0 none (by show oT (newP κ.2.2.2.2 q1 21) q1 = 21; rw [newP_T, if_pos rfl]) (exz2.S ht0) nt_n pvz2 (vX10_ofText_1  )) ⟨cw_85, cw_87, by decide +kernel⟩ ⟨cw_86, cw_40⟩ rfl rfl rfl (lv_room (Nat.le_of_ble_eq_true rfl)) ⟨Nat.le_of_ble_eq_true rfl, Nat.le_of_ble_eq_true rfl⟩ ⟨(Nat.le_of_ble_eq_true rfl), (Nat.le_of_ble_eq_true rfl)⟩ dX10_ofText_12 (fun u H locs hr5 hP hS => ?_)
  obtain ⟨P6, rfl⟩ : ∃ z, z = u := ⟨_, rfl⟩
  have hP : CH D cy ad A (tP (tP κ (newP κ.2.2.2.2 q1 21)) P6) H := hP
  have hr5 : (EXP (fun a => ¬ a = q1) (newP κ.2.2.2.2 q1 21) P6) ∧ (PV sa P6) ∧ (oT P6 q1 = 1) := hr5
  obtain ⟨hr5_0, hr5_1, hr5_2⟩ := hr5
  have exz7 : EX κ.2.2.2.2 P6 := EX.cons exz2 h0q1 hr5_0
  have hP : CH D cy ad A (tP κ P6) H := CH.cong hP rfl rfl rfl rfl rfl rfl rfl rfl rfl rfl rfl rfl rfl rfl rfl rfl rfl rfl rfl rfl rfl rfl rfl rfl rfl rfl rfl
  exact c_retq (v := (some q1)) (Or.inl ⟨_, rfl⟩) C hsz hsl P6 ⟨exz7, hr5_1, ⟨q1, rfl, hr5_2⟩⟩ hP hS ⟨(Nat.le_of_ble_eq_true rfl), (Nat.le_of_ble_eq_true rfl)⟩ ⟨(Nat.le_of_ble_eq_true rfl), (Nat.le_of_ble_eq_true rfl)⟩ dX10_ofText_15

-- pre:X10_init@19 @19
theorem vX10_ofThing_1   : FN FP.dconst0 := by
  first | assumption | exact fp_k0 | exact fp_i2d _ | (subst_vars; exact fp_i2d _) | exact (fp_FN_iff _).mpr (by decide +kernel)
set_option maxHeartbeats 4000000 in
set_option maxRecDepth 100000 in
theorem NX10_ofThing (l : Launch) (D : va_G) (cy : Nat → ClassId) (ad : Nat → Nat) (A : Nat → Prop) (sz0 : Nat) (sa : Nat → Nat)  (κ : KS) (sz sl : Nat) (hAF : ∀ q, A q → Fr sz0 q) (hAn : ∀ q : Nat, sz ≤ q → A q) (k0 : Nat) (ht0 : oT κ.2.2.2.2 k0 = 6) (hPV : PV sa κ.2.2.2.2) : Met l yX10_ofThing (Cond.code yX10_ofThing cX10_ofThing 1 (some (.object "PhraseDesk$Value")) :: GWc) ({ frames := 2, cells := 1, slots := 5, locals := 46 }) (PcC D cy ad A sz0 sa [.ref k0] κ sz sl) (va_Qq (fun (r : Option Nat) (u : PL) => (EX κ.2.2.2.2 u) ∧ (PV sa u) ∧ (NN u 1 r)) (fun (u : PL) (t : State) => Bx D cy ad A sz sl (tP κ u) (1) (5) t) A) (1) (5) A := by
  refine CM_of (loc0 := [(0, .ref k0)]) (own := RX10) (nm := "ofThing") (by decide) rfl rfl rfl (Nat.le_of_ble_eq_true rfl) hAF hAn ?_
  intro p e s m below meth c ls hsz hsl C hP hS hl
  refine cn_X10 C hP hS cw_83 cw_84 cw_40 ⟨(Nat.le_of_ble_eq_true rfl), (Nat.le_of_ble_eq_true rfl)⟩ dX10_ofThing_0 (fun q1 H h0q1 hP hS => ?_)
  have exz2 : EX κ.2.2.2.2 (newP κ.2.2.2.2 q1 21) := (EX.newP h0q1)
  have pvz2 : PV sa (newP κ.2.2.2.2 q1 21) := (hPV.raw h0q1 (by decide))
  refine lv_dup C.x C.b dX10_ofThing_3 rfl ?_
  refine lv_aload_n C.x C.b dX10_ofThing_4 rfl (lv_at hl 0 rfl) ?_
  obtain ⟨x3, ex3, hx3⟩ := (pvz2.t6 (exz2.T ht0 (by decide))).1
  refine pg_X9_1 (v := some x3) C hP (t20 (a := k0) (t := 6) (exz2.T ht0 (by decide))) ex3 cw_48 dX10_ofThing_5 ?_
  obtain ⟨x4, ex4⟩ : ∃ z, oI (newP κ.2.2.2.2 q1 21) 7 x3 = z := ⟨_, rfl⟩
  refine pg_X1_1 (v := x4) C hP (t20 (a := x3) (t := 3) hx3) ex4 cw_49 dX10_ofThing_8 ?_
  refine lv_aload_n C.x C.b dX10_ofThing_11 rfl (lv_at hl 0 rfl) ?_
  obtain ⟨x5, ex5⟩ : ∃ z, oI (newP κ.2.2.2.2 q1 21) 19 k0 = z := ⟨_, rfl⟩
  refine pg_X9_0 (v := x5) C hP (t20 (a := k0) (t := 6) (exz2.T ht0 (by decide))) ex5 cw_866 dX10_ofThing_12 ?_
  refine lv_dconst0 C.x C.b dX10_ofThing_15 ?_
  refine va_ldcS C.x C.b C.o C.en.2.2.2.2.1 dX10_ofThing_16 ?_
  refine lv_aload_n C.x C.b dX10_ofThing_18 rfl (lv_at hl 0 rfl) ?_
  refine c_callIv (C2 := "") (n := 5) (As := [.int x4, .int x5, .double FP.dconst0, .ref (sa 0), .ref k0]) (rest := [.ref q1]) C hP hS hl.1 (NX10_init l D cy ad A sz0 sa (tP κ (newP κ.2.2.2.2 q1 21)) H.size (SLT H) C.f (fun q h => C.a q (Nat.le_trans hS.1 h)) q1 x4 x5 FP.dconst0 (sa 0) (some k0) (by show oT (newP κ.2.2.2.2 q1 21) q1 = 21; rw [newP_T, if_pos rfl]) (SOK.any (P := (newP κ.2.2.2.2 q1 21)) (sa := sa) (c := (sa 0)) (by unfold KC; simp)) (nt_s (exz2.T ht0 (by decide))) pvz2 (vX10_ofThing_1  )) ⟨cw_85, cw_87, by decide +kernel⟩ ⟨cw_86, cw_40⟩ rfl rfl rfl (lv_room (Nat.le_of_ble_eq_true rfl)) ⟨Nat.le_of_ble_eq_true rfl, Nat.le_of_ble_eq_true rfl⟩ ⟨(Nat.le_of_ble_eq_true rfl), (Nat.le_of_ble_eq_true rfl)⟩ dX10_ofThing_19 (fun u H locs hr6 hP hS => ?_)
  obtain ⟨P7, rfl⟩ : ∃ z, z = u := ⟨_, rfl⟩
  have hP : CH D cy ad A (tP (tP κ (newP κ.2.2.2.2 q1 21)) P7) H := hP
  have hr6 : (EXP (fun a => ¬ a = q1) (newP κ.2.2.2.2 q1 21) P7) ∧ (PV sa P7) ∧ (oT P7 q1 = 1) := hr6
  obtain ⟨hr6_0, hr6_1, hr6_2⟩ := hr6
  have exz8 : EX κ.2.2.2.2 P7 := EX.cons exz2 h0q1 hr6_0
  have hP : CH D cy ad A (tP κ P7) H := CH.cong hP rfl rfl rfl rfl rfl rfl rfl rfl rfl rfl rfl rfl rfl rfl rfl rfl rfl rfl rfl rfl rfl rfl rfl rfl rfl rfl rfl
  exact c_retq (v := (some q1)) (Or.inl ⟨_, rfl⟩) C hsz hsl P7 ⟨exz8, hr6_1, ⟨q1, rfl, hr6_2⟩⟩ hP hS ⟨(Nat.le_of_ble_eq_true rfl), (Nat.le_of_ble_eq_true rfl)⟩ ⟨(Nat.le_of_ble_eq_true rfl), (Nat.le_of_ble_eq_true rfl)⟩ dX10_ofThing_22

-- retz @43
theorem vX0_isThere_1   : 0 ≤ (0 : Int32).toInt ∧ (0 : Int32).toInt ≤ 1 := by
  have q0 : (0 : Int32).toInt = 0 := by decide +kernel
  refine ⟨?_, ?_⟩ <;> first | assumption | omega | (subst_vars; omega) | trivial
-- post @43
theorem vX0_isThere_2 (κ : KS) (k0 : Int32) (k1 : Int32) (x1 : Int32) (x2 : Int32) (ex1 : x1 = k0 * (5 : Int32)) (ex2 : x2 = x1 + k1) (c3 : k1.toInt < 1) : ((1 ≤ k1.toInt ∧ k1.toInt ≤ 4 ∧ 0 ≤ k0.toInt ∧ k0.toInt ≤ 12) → (((0 : Int32).toInt = 1 ∧ ¬ ((κ.2.2.1 14) (5 * k0.toInt + k1.toInt).toNat).toInt = 0) ∨ ((0 : Int32).toInt = 0 ∧ ((κ.2.2.1 14) (5 * k0.toInt + k1.toInt).toNat).toInt = 0))) := by
  have q0 : (0 : Int32).toInt = 0 := by decide +kernel
  have q5 : (5 : Int32).toInt = 5 := by decide +kernel
  intro hv
  have emx1 : x1.toInt = 5 * k0.toInt := by rw [ex1, Int32.mul_comm]; exact z_mulc 5 (by decide) (by omega) (by omega)
  have eax2 : x2.toInt = 5 * k0.toInt + k1.toInt := by rw [ex2, z_add (by omega) (by omega), emx1]
  have ecx2 : x2.toNatClampNeg = (5 * k0.toInt + k1.toInt).toNat := by show x2.toInt.toNat = _; rw [eax2]
  have z0 : (0 : Int32).toInt = 0 := by decide
  have z1 : (1 : Int32).toInt = 1 := by decide
  first
  | (exfalso; omega)
  | omega
  | exact Or.inr ⟨z0, by first | assumption | (subst_vars; assumption)⟩
  | exact Or.inl ⟨z1, by first | assumption | (subst_vars; assumption)⟩
  | exact ⟨by first | assumption | (apply_assumption; assumption) | (rename_i q; exact q hv), rfl⟩
-- post @43
theorem vX0_isThere_3 (κ : KS) (k0 : Int32) (k1 : Int32) (x1 : Int32) (x2 : Int32) (ex1 : x1 = k0 * (5 : Int32)) (ex2 : x2 = x1 + k1) (c3 : 1 ≤ k1.toInt) (c4 : 4 < k1.toInt) : ((1 ≤ k1.toInt ∧ k1.toInt ≤ 4 ∧ 0 ≤ k0.toInt ∧ k0.toInt ≤ 12) → (((0 : Int32).toInt = 1 ∧ ¬ ((κ.2.2.1 14) (5 * k0.toInt + k1.toInt).toNat).toInt = 0) ∨ ((0 : Int32).toInt = 0 ∧ ((κ.2.2.1 14) (5 * k0.toInt + k1.toInt).toNat).toInt = 0))) := by
  have q0 : (0 : Int32).toInt = 0 := by decide +kernel
  have q5 : (5 : Int32).toInt = 5 := by decide +kernel
  intro hv
  have emx1 : x1.toInt = 5 * k0.toInt := by rw [ex1, Int32.mul_comm]; exact z_mulc 5 (by decide) (by omega) (by omega)
  have eax2 : x2.toInt = 5 * k0.toInt + k1.toInt := by rw [ex2, z_add (by omega) (by omega), emx1]
  have ecx2 : x2.toNatClampNeg = (5 * k0.toInt + k1.toInt).toNat := by show x2.toInt.toNat = _; rw [eax2]
  have z0 : (0 : Int32).toInt = 0 := by decide
  have z1 : (1 : Int32).toInt = 1 := by decide
  first
  | (exfalso; omega)
  | omega
  | exact Or.inr ⟨z0, by first | assumption | (subst_vars; assumption)⟩
  | exact Or.inl ⟨z1, by first | assumption | (subst_vars; assumption)⟩
  | exact ⟨by first | assumption | (apply_assumption; assumption) | (rename_i q; exact q hv), rfl⟩
-- post @43
theorem vX0_isThere_4 (κ : KS) (k0 : Int32) (k1 : Int32) (x1 : Int32) (x2 : Int32) (ex1 : x1 = k0 * (5 : Int32)) (ex2 : x2 = x1 + k1) (c3 : 1 ≤ k1.toInt) (c4 : k1.toInt ≤ 4) (c5 : x2.toInt < 0) : ((1 ≤ k1.toInt ∧ k1.toInt ≤ 4 ∧ 0 ≤ k0.toInt ∧ k0.toInt ≤ 12) → (((0 : Int32).toInt = 1 ∧ ¬ ((κ.2.2.1 14) (5 * k0.toInt + k1.toInt).toNat).toInt = 0) ∨ ((0 : Int32).toInt = 0 ∧ ((κ.2.2.1 14) (5 * k0.toInt + k1.toInt).toNat).toInt = 0))) := by
  have q0 : (0 : Int32).toInt = 0 := by decide +kernel
  have q5 : (5 : Int32).toInt = 5 := by decide +kernel
  intro hv
  have emx1 : x1.toInt = 5 * k0.toInt := by rw [ex1, Int32.mul_comm]; exact z_mulc 5 (by decide) (by omega) (by omega)
  have eax2 : x2.toInt = 5 * k0.toInt + k1.toInt := by rw [ex2, z_add (by omega) (by omega), emx1]
  have ecx2 : x2.toNatClampNeg = (5 * k0.toInt + k1.toInt).toNat := by show x2.toInt.toNat = _; rw [eax2]
  have z0 : (0 : Int32).toInt = 0 := by decide
  have z1 : (1 : Int32).toInt = 1 := by decide
  first
  | (exfalso; omega)
  | omega
  | exact Or.inr ⟨z0, by first | assumption | (subst_vars; assumption)⟩
  | exact Or.inl ⟨z1, by first | assumption | (subst_vars; assumption)⟩
  | exact ⟨by first | assumption | (apply_assumption; assumption) | (rename_i q; exact q hv), rfl⟩
-- post @43
theorem vX0_isThere_5 (κ : KS) (k0 : Int32) (k1 : Int32) (x1 : Int32) (x2 : Int32) (ex1 : x1 = k0 * (5 : Int32)) (ex2 : x2 = x1 + k1) (c3 : 1 ≤ k1.toInt) (c4 : k1.toInt ≤ 4) (c5 : 0 ≤ x2.toInt) (c7 : 65 ≤ x2.toInt) : ((1 ≤ k1.toInt ∧ k1.toInt ≤ 4 ∧ 0 ≤ k0.toInt ∧ k0.toInt ≤ 12) → (((0 : Int32).toInt = 1 ∧ ¬ ((κ.2.2.1 14) (5 * k0.toInt + k1.toInt).toNat).toInt = 0) ∨ ((0 : Int32).toInt = 0 ∧ ((κ.2.2.1 14) (5 * k0.toInt + k1.toInt).toNat).toInt = 0))) := by
  have q0 : (0 : Int32).toInt = 0 := by decide +kernel
  have q5 : (5 : Int32).toInt = 5 := by decide +kernel
  intro hv
  have emx1 : x1.toInt = 5 * k0.toInt := by rw [ex1, Int32.mul_comm]; exact z_mulc 5 (by decide) (by omega) (by omega)
  have eax2 : x2.toInt = 5 * k0.toInt + k1.toInt := by rw [ex2, z_add (by omega) (by omega), emx1]
  have ecx2 : x2.toNatClampNeg = (5 * k0.toInt + k1.toInt).toNat := by show x2.toInt.toNat = _; rw [eax2]
  have z0 : (0 : Int32).toInt = 0 := by decide
  have z1 : (1 : Int32).toInt = 1 := by decide
  first
  | (exfalso; omega)
  | omega
  | exact Or.inr ⟨z0, by first | assumption | (subst_vars; assumption)⟩
  | exact Or.inl ⟨z1, by first | assumption | (subst_vars; assumption)⟩
  | exact ⟨by first | assumption | (apply_assumption; assumption) | (rename_i q; exact q hv), rfl⟩
-- in@34 @34
theorem vX0_isThere_6 (k0 : Int32) (k1 : Int32) (x1 : Int32) (x2 : Int32) (ex1 : x1 = k0 * (5 : Int32)) (ex2 : x2 = x1 + k1) (c3 : 1 ≤ k1.toInt) (c4 : k1.toInt ≤ 4) (c5 : 0 ≤ x2.toInt) (c7 : x2.toInt < 65) : vp_in x2 65 := by
  have q5 : (5 : Int32).toInt = 5 := by decide +kernel
  exact vp_in_iff.mpr ⟨by omega, by omega⟩
-- post @43
theorem vX0_isThere_7 (κ : KS) (k0 : Int32) (k1 : Int32) (x1 : Int32) (x2 : Int32) (x8 : Int32) (ex1 : x1 = k0 * (5 : Int32)) (ex2 : x2 = x1 + k1) (c3 : 1 ≤ k1.toInt) (c4 : k1.toInt ≤ 4) (c5 : 0 ≤ x2.toInt) (c7 : x2.toInt < 65) (ex8 : x8 = (κ.2.2.1 14) x2.toNatClampNeg) (c9 : x8.toInt = 0) : ((1 ≤ k1.toInt ∧ k1.toInt ≤ 4 ∧ 0 ≤ k0.toInt ∧ k0.toInt ≤ 12) → (((0 : Int32).toInt = 1 ∧ ¬ ((κ.2.2.1 14) (5 * k0.toInt + k1.toInt).toNat).toInt = 0) ∨ ((0 : Int32).toInt = 0 ∧ ((κ.2.2.1 14) (5 * k0.toInt + k1.toInt).toNat).toInt = 0))) := by
  have q0 : (0 : Int32).toInt = 0 := by decide +kernel
  have q5 : (5 : Int32).toInt = 5 := by decide +kernel
  intro hv
  have emx1 : x1.toInt = 5 * k0.toInt := by rw [ex1, Int32.mul_comm]; exact z_mulc 5 (by decide) (by omega) (by omega)
  have eax2 : x2.toInt = 5 * k0.toInt + k1.toInt := by rw [ex2, z_add (by omega) (by omega), emx1]
  have ecx2 : x2.toNatClampNeg = (5 * k0.toInt + k1.toInt).toNat := by show x2.toInt.toNat = _; rw [eax2]
  have z0 : (0 : Int32).toInt = 0 := by decide
  have z1 : (1 : Int32).toInt = 1 := by decide
  rw [← ecx2, ← ex8]
  first
  | (exfalso; omega)
  | omega
  | exact Or.inr ⟨z0, by first | assumption | (subst_vars; assumption)⟩
  | exact Or.inl ⟨z1, by first | assumption | (subst_vars; assumption)⟩
  | exact ⟨by first | assumption | (apply_assumption; assumption) | (rename_i q; exact q hv), rfl⟩
-- retz @43
theorem vX0_isThere_8   : 0 ≤ (1 : Int32).toInt ∧ (1 : Int32).toInt ≤ 1 := by
  have q1 : (1 : Int32).toInt = 1 := by decide +kernel
  refine ⟨?_, ?_⟩ <;> first | assumption | omega | (subst_vars; omega) | trivial
-- post @43
theorem vX0_isThere_9 (κ : KS) (k0 : Int32) (k1 : Int32) (x1 : Int32) (x2 : Int32) (x8 : Int32) (ex1 : x1 = k0 * (5 : Int32)) (ex2 : x2 = x1 + k1) (c3 : 1 ≤ k1.toInt) (c4 : k1.toInt ≤ 4) (c5 : 0 ≤ x2.toInt) (c7 : x2.toInt < 65) (ex8 : x8 = (κ.2.2.1 14) x2.toNatClampNeg) (c9 : ¬ x8.toInt = 0) : ((1 ≤ k1.toInt ∧ k1.toInt ≤ 4 ∧ 0 ≤ k0.toInt ∧ k0.toInt ≤ 12) → (((1 : Int32).toInt = 1 ∧ ¬ ((κ.2.2.1 14) (5 * k0.toInt + k1.toInt).toNat).toInt = 0) ∨ ((1 : Int32).toInt = 0 ∧ ((κ.2.2.1 14) (5 * k0.toInt + k1.toInt).toNat).toInt = 0))) := by
  have q1 : (1 : Int32).toInt = 1 := by decide +kernel
  have q5 : (5 : Int32).toInt = 5 := by decide +kernel
  intro hv
  have emx1 : x1.toInt = 5 * k0.toInt := by rw [ex1, Int32.mul_comm]; exact z_mulc 5 (by decide) (by omega) (by omega)
  have eax2 : x2.toInt = 5 * k0.toInt + k1.toInt := by rw [ex2, z_add (by omega) (by omega), emx1]
  have ecx2 : x2.toNatClampNeg = (5 * k0.toInt + k1.toInt).toNat := by show x2.toInt.toNat = _; rw [eax2]
  have z0 : (0 : Int32).toInt = 0 := by decide
  have z1 : (1 : Int32).toInt = 1 := by decide
  rw [← ecx2, ← ex8]
  first
  | (exfalso; omega)
  | omega
  | exact Or.inr ⟨z0, by first | assumption | (subst_vars; assumption)⟩
  | exact Or.inl ⟨z1, by first | assumption | (subst_vars; assumption)⟩
  | exact ⟨by first | assumption | (apply_assumption; assumption) | (rename_i q; exact q hv), rfl⟩
set_option maxHeartbeats 4000000 in
set_option maxRecDepth 100000 in
theorem NX0_isThere (l : Launch) (D : va_G) (cy : Nat → ClassId) (ad : Nat → Nat) (A : Nat → Prop) (sz0 : Nat) (sa : Nat → Nat)  (κ : KS) (sz sl : Nat) (hAF : ∀ q, A q → Fr sz0 q) (hAn : ∀ q : Nat, sz ≤ q → A q) (k0 : Int32) (k1 : Int32) (hPV : PV sa κ.2.2.2.2) : Met l yX0_isThere (Cond.code yX0_isThere cX0_isThere 4 (some .boolean) :: GWc) ({ frames := 0, cells := 0, slots := 0, locals := 0 }) (PcC D cy ad A sz0 sa [.ref (ad 4), .int k0, .int k1] κ sz sl) (va_Qi (fun (r : Int32) (u : Unit) => (0 ≤ r.toInt ∧ r.toInt ≤ 1) ∧ (((1 ≤ k1.toInt ∧ k1.toInt ≤ 4 ∧ 0 ≤ k0.toInt ∧ k0.toInt ≤ 12) → ((r.toInt = 1 ∧ ¬ ((κ.2.2.1 14) (5 * k0.toInt + k1.toInt).toNat).toInt = 0) ∨ (r.toInt = 0 ∧ ((κ.2.2.1 14) (5 * k0.toInt + k1.toInt).toNat).toInt = 0))))) (fun (u : Unit) (t : State) => Bx D cy ad A sz sl κ (0) (0) t) A) (0) (0) A := by
  refine CM_of (loc0 := [(0, .ref (ad 4)), (1, .int k0), (2, .int k1)]) (own := RX0) (nm := "isThere") (by decide) rfl rfl rfl (Nat.le_of_ble_eq_true rfl) hAF hAn ?_
  intro p e s m below meth c ls hsz hsl C hP hS hl
  refine lv_iload_n C.x C.b dX0_isThere_0 rfl (lv_at hl 1 rfl) ?_
  refine lv_iconst (v := 5) C.x C.b dX0_isThere_1 (by decide +kernel) ?_
  refine lv_imul C.x C.b dX0_isThere_2 ?_
  refine lv_topi (fun x1 ex1 => ?_)
  refine lv_iload_n C.x C.b dX0_isThere_3 rfl (lv_at hl 2 rfl) ?_
  refine lv_iadd C.x C.b dX0_isThere_4 ?_
  refine lv_topi (fun x2 ex2 => ?_)
  refine lv_istore_n (lv' := [(3, .int x2), (0, .ref (ad 4)), (1, .int k0), (2, .int k1)]) C.x C.b dX0_isThere_5 rfl hl (by decide) rfl (fun ls hl => ?_)
  refine lv_iload_n C.x C.b dX0_isThere_6 rfl (lv_at hl 3 rfl) ?_
  refine lv_iconst (v := 1) C.x C.b dX0_isThere_7 (by decide +kernel) ?_
  refine lv_icmp_lt (tgt := 42) C.x C.b dX0_isThere_8 (by decide) (fun c3 => ?_) (fun c3 => ?_)
  · have c3 : k1.toInt < 1 := by have h := z_lt c3; rw [show (1 : Int32).toInt = 1 from by decide +kernel] at h; exact h
    refine lv_iconst (v := 0) C.x C.b dX0_isThere_42 (by decide +kernel) ?_
    exact c_retz (ty := .boolean) (hv := rfl) C hsz hsl () ⟨(vX0_isThere_1  ), (vX0_isThere_2 κ k0 k1 x1 x2 ex1 ex2 c3)⟩ hP hS ⟨(Nat.le_of_ble_eq_true rfl), (Nat.le_of_ble_eq_true rfl)⟩ ⟨(Nat.le_of_ble_eq_true rfl), (Nat.le_of_ble_eq_true rfl)⟩ dX0_isThere_43
  · have c3 : 1 ≤ k1.toInt := by have h := z_nlt c3; rw [show (1 : Int32).toInt = 1 from by decide +kernel] at h; exact h
    refine lv_iload_n C.x C.b dX0_isThere_11 rfl (lv_at hl 3 rfl) ?_
    refine lv_iconst (v := 4) C.x C.b dX0_isThere_12 (by decide +kernel) ?_
    refine lv_icmp_gt (tgt := 42) C.x C.b dX0_isThere_13 (by decide) (fun c4 => ?_) (fun c4 => ?_)
    · have c4 : 4 < k1.toInt := by have h := z_lt c4; rw [show (4 : Int32).toInt = 4 from by decide +kernel] at h; exact h
      refine lv_iconst (v := 0) C.x C.b dX0_isThere_42 (by decide +kernel) ?_
      exact c_retz (ty := .boolean) (hv := rfl) C hsz hsl () ⟨(vX0_isThere_1  ), (vX0_isThere_3 κ k0 k1 x1 x2 ex1 ex2 c3 c4)⟩ hP hS ⟨(Nat.le_of_ble_eq_true rfl), (Nat.le_of_ble_eq_true rfl)⟩ ⟨(Nat.le_of_ble_eq_true rfl), (Nat.le_of_ble_eq_true rfl)⟩ dX0_isThere_43
    · have c4 : k1.toInt ≤ 4 := by have h := z_nlt c4; rw [show (4 : Int32).toInt = 4 from by decide +kernel] at h; exact h
      refine lv_iload_n C.x C.b dX0_isThere_16 rfl (lv_at hl 0 rfl) ?_
      refine lv_if_lt (tgt := 42) C.x C.b dX0_isThere_17 (by decide) (fun c5 => ?_) (fun c5 => ?_)
      · have c5 : x2.toInt < 0 := by have h := z_lt c5; rw [show (0 : Int32).toInt = 0 from by decide +kernel] at h; exact h
        refine lv_iconst (v := 0) C.x C.b dX0_isThere_42 (by decide +kernel) ?_
        exact c_retz (ty := .boolean) (hv := rfl) C hsz hsl () ⟨(vX0_isThere_1  ), (vX0_isThere_4 κ k0 k1 x1 x2 ex1 ex2 c3 c4 c5)⟩ hP hS ⟨(Nat.le_of_ble_eq_true rfl), (Nat.le_of_ble_eq_true rfl)⟩ ⟨(Nat.le_of_ble_eq_true rfl), (Nat.le_of_ble_eq_true rfl)⟩ dX0_isThere_43
      · have c5 : 0 ≤ x2.toInt := by have h := z_nlt c5; rw [show (0 : Int32).toInt = 0 from by decide +kernel] at h; exact h
        refine lv_iload_n C.x C.b dX0_isThere_20 rfl (lv_at hl 0 rfl) ?_
        refine lv_aload_n C.x C.b dX0_isThere_21 rfl (lv_at hl 1 rfl) ?_
        refine cg_X0_0 C hP cw_5 dX0_isThere_22 ?_
        refine cl_14 C hP dX0_isThere_25 ?_
        refine lv_icmp_ge (tgt := 42) C.x C.b dX0_isThere_26 (by decide) (fun c7 => ?_) (fun c7 => ?_)
        · have c7 : 65 ≤ x2.toInt := by have h := z_le c7; rw [show (65 : Int32).toInt = 65 from by decide +kernel] at h; exact h
          refine lv_iconst (v := 0) C.x C.b dX0_isThere_42 (by decide +kernel) ?_
          exact c_retz (ty := .boolean) (hv := rfl) C hsz hsl () ⟨(vX0_isThere_1  ), (vX0_isThere_5 κ k0 k1 x1 x2 ex1 ex2 c3 c4 c5 c7)⟩ hP hS ⟨(Nat.le_of_ble_eq_true rfl), (Nat.le_of_ble_eq_true rfl)⟩ ⟨(Nat.le_of_ble_eq_true rfl), (Nat.le_of_ble_eq_true rfl)⟩ dX0_isThere_43
        · have c7 : x2.toInt < 65 := by have h := z_nle c7; rw [show (65 : Int32).toInt = 65 from by decide +kernel] at h; exact h
          refine lv_aload_n C.x C.b dX0_isThere_29 rfl (lv_at hl 1 rfl) ?_
          refine cg_X0_0 C hP cw_5 dX0_isThere_30 ?_
          refine lv_iload_n C.x C.b dX0_isThere_33 rfl (lv_at hl 0 rfl) ?_
          refine ca_14 (f := (κ.2.2.1 14)) C hP rfl (vX0_isThere_6 k0 k1 x1 x2 ex1 ex2 c3 c4 c5 c7) dX0_isThere_34 (fun x8 ex8 => ?_)
          refine lv_if_eq (tgt := 42) C.x C.b dX0_isThere_35 (by decide) (fun c9 => ?_) (fun c9 => ?_)
          · have c9 : x8.toInt = 0 := by have h := z_eq c9; rw [show (0 : Int32).toInt = 0 from by decide +kernel] at h; exact h
            refine lv_iconst (v := 0) C.x C.b dX0_isThere_42 (by decide +kernel) ?_
            exact c_retz (ty := .boolean) (hv := rfl) C hsz hsl () ⟨(vX0_isThere_1  ), (vX0_isThere_7 κ k0 k1 x1 x2 x8 ex1 ex2 c3 c4 c5 c7 ex8 c9)⟩ hP hS ⟨(Nat.le_of_ble_eq_true rfl), (Nat.le_of_ble_eq_true rfl)⟩ ⟨(Nat.le_of_ble_eq_true rfl), (Nat.le_of_ble_eq_true rfl)⟩ dX0_isThere_43
          · have c9 : ¬ x8.toInt = 0 := by have h := z_ne c9; rw [show (0 : Int32).toInt = 0 from by decide +kernel] at h; exact h
            refine lv_iconst (v := 1) C.x C.b dX0_isThere_38 (by decide +kernel) ?_
            refine lv_goto (tgt := 43) C.x C.b dX0_isThere_39 (by decide) ?_
            exact c_retz (ty := .boolean) (hv := rfl) C hsz hsl () ⟨(vX0_isThere_8  ), (vX0_isThere_9 κ k0 k1 x1 x2 x8 ex1 ex2 c3 c4 c5 c7 ex8 c9)⟩ hP hS ⟨(Nat.le_of_ble_eq_true rfl), (Nat.le_of_ble_eq_true rfl)⟩ ⟨(Nat.le_of_ble_eq_true rfl), (Nat.le_of_ble_eq_true rfl)⟩ dX0_isThere_43

-- retz @40
theorem vX0_change_1 (κ : KS) (k0 : Int32) (k1 : Int32) (r1 : Int32) (x2 : Int32) (x3 : Int32) (hr1_0_0 : 0 ≤ r1.toInt) (hr1_0_1 : r1.toInt ≤ 1) (hr1_1 : ((1 ≤ k1.toInt ∧ k1.toInt ≤ 4 ∧ 0 ≤ k0.toInt ∧ k0.toInt ≤ 12) → ((r1.toInt = 1 ∧ ¬ ((κ.2.2.1 14) (5 * k0.toInt + k1.toInt).toNat).toInt = 0) ∨ (r1.toInt = 0 ∧ ((κ.2.2.1 14) (5 * k0.toInt + k1.toInt).toNat).toInt = 0)))) (ex2 : x2 = k0 * (5 : Int32)) (ex3 : x3 = x2 + k1) (c4 : x3.toInt < 0) : 0 ≤ r1.toInt ∧ r1.toInt ≤ 1 := by
  have q5 : (5 : Int32).toInt = 5 := by decide +kernel
  refine ⟨?_, ?_⟩ <;> first | assumption | omega | (subst_vars; omega) | trivial
-- post @40
theorem vX0_change_2 (κ : KS) (k0 : Int32) (k1 : Int32) (k2 : Int32) (r1 : Int32) (x2 : Int32) (x3 : Int32) (hpre_0 : 0 ≤ k2.toInt) (hpre_1 : k2.toInt ≤ 1) (hr1_0_0 : 0 ≤ r1.toInt) (hr1_0_1 : r1.toInt ≤ 1) (hr1_1 : ((1 ≤ k1.toInt ∧ k1.toInt ≤ 4 ∧ 0 ≤ k0.toInt ∧ k0.toInt ≤ 12) → ((r1.toInt = 1 ∧ ¬ ((κ.2.2.1 14) (5 * k0.toInt + k1.toInt).toNat).toInt = 0) ∨ (r1.toInt = 0 ∧ ((κ.2.2.1 14) (5 * k0.toInt + k1.toInt).toNat).toInt = 0)))) (ex2 : x2 = k0 * (5 : Int32)) (ex3 : x3 = x2 + k1) (c4 : x3.toInt < 0) : ((1 ≤ k1.toInt ∧ k1.toInt ≤ 4 ∧ 0 ≤ k0.toInt ∧ k0.toInt ≤ 12) → (((r1.toInt = 1 ∧ ¬ ((κ.2.2.1 14) (5 * k0.toInt + k1.toInt).toNat).toInt = 0) ∨ (r1.toInt = 0 ∧ ((κ.2.2.1 14) (5 * k0.toInt + k1.toInt).toNat).toInt = 0)) ∧ (κ.2.2.1 14) = upd (κ.2.2.1 14) (5 * k0.toInt + k1.toInt).toNat k2)) := by
  have q5 : (5 : Int32).toInt = 5 := by decide +kernel
  intro hv
  have emx2 : x2.toInt = 5 * k0.toInt := by rw [ex2, Int32.mul_comm]; exact z_mulc 5 (by decide) (by omega) (by omega)
  have eax3 : x3.toInt = 5 * k0.toInt + k1.toInt := by rw [ex3, z_add (by omega) (by omega), emx2]
  have ecx3 : x3.toNatClampNeg = (5 * k0.toInt + k1.toInt).toNat := by show x3.toInt.toNat = _; rw [eax3]
  have z0 : (0 : Int32).toInt = 0 := by decide
  have z1 : (1 : Int32).toInt = 1 := by decide
  first
  | (exfalso; omega)
  | exact ⟨hr1_1 hv, by rw [← ecx3]⟩

-- bool@ret @40
theorem vX0_change_3 (κ : KS) (k0 : Int32) (k1 : Int32) (r1 : Int32) (x2 : Int32) (x3 : Int32) (hr1_0_0 : 0 ≤ r1.toInt) (hr1_0_1 : r1.toInt ≤ 1) (hr1_1 : ((1 ≤ k1.toInt ∧ k1.toInt ≤ 4 ∧ 0 ≤ k0.toInt ∧ k0.toInt ≤ 12) → ((r1.toInt = 1 ∧ ¬ ((κ.2.2.1 14) (5 * k0.toInt + k1.toInt).toNat).toInt = 0) ∨ (r1.toInt = 0 ∧ ((κ.2.2.1 14) (5 * k0.toInt + k1.toInt).toNat).toInt = 0)))) (ex2 : x2 = k0 * (5 : Int32)) (ex3 : x3 = x2 + k1) (c4 : x3.toInt < 0) : r1 = 0 ∨ r1 = 1 := by
  have q5 : (5 : Int32).toInt = 5 := by decide +kernel
  first | assumption | exact bool_of (by omega)
-- retz @40
theorem vX0_change_4 (κ : KS) (k0 : Int32) (k1 : Int32) (r1 : Int32) (x2 : Int32) (x3 : Int32) (hr1_0_0 : 0 ≤ r1.toInt) (hr1_0_1 : r1.toInt ≤ 1) (hr1_1 : ((1 ≤ k1.toInt ∧ k1.toInt ≤ 4 ∧ 0 ≤ k0.toInt ∧ k0.toInt ≤ 12) → ((r1.toInt = 1 ∧ ¬ ((κ.2.2.1 14) (5 * k0.toInt + k1.toInt).toNat).toInt = 0) ∨ (r1.toInt = 0 ∧ ((κ.2.2.1 14) (5 * k0.toInt + k1.toInt).toNat).toInt = 0)))) (ex2 : x2 = k0 * (5 : Int32)) (ex3 : x3 = x2 + k1) (c4 : 0 ≤ x3.toInt) (c6 : 65 ≤ x3.toInt) : 0 ≤ r1.toInt ∧ r1.toInt ≤ 1 := by
  have q5 : (5 : Int32).toInt = 5 := by decide +kernel
  refine ⟨?_, ?_⟩ <;> first | assumption | omega | (subst_vars; omega) | trivial
-- post @40
theorem vX0_change_5 (κ : KS) (k0 : Int32) (k1 : Int32) (k2 : Int32) (r1 : Int32) (x2 : Int32) (x3 : Int32) (hpre_0 : 0 ≤ k2.toInt) (hpre_1 : k2.toInt ≤ 1) (hr1_0_0 : 0 ≤ r1.toInt) (hr1_0_1 : r1.toInt ≤ 1) (hr1_1 : ((1 ≤ k1.toInt ∧ k1.toInt ≤ 4 ∧ 0 ≤ k0.toInt ∧ k0.toInt ≤ 12) → ((r1.toInt = 1 ∧ ¬ ((κ.2.2.1 14) (5 * k0.toInt + k1.toInt).toNat).toInt = 0) ∨ (r1.toInt = 0 ∧ ((κ.2.2.1 14) (5 * k0.toInt + k1.toInt).toNat).toInt = 0)))) (ex2 : x2 = k0 * (5 : Int32)) (ex3 : x3 = x2 + k1) (c4 : 0 ≤ x3.toInt) (c6 : 65 ≤ x3.toInt) : ((1 ≤ k1.toInt ∧ k1.toInt ≤ 4 ∧ 0 ≤ k0.toInt ∧ k0.toInt ≤ 12) → (((r1.toInt = 1 ∧ ¬ ((κ.2.2.1 14) (5 * k0.toInt + k1.toInt).toNat).toInt = 0) ∨ (r1.toInt = 0 ∧ ((κ.2.2.1 14) (5 * k0.toInt + k1.toInt).toNat).toInt = 0)) ∧ (κ.2.2.1 14) = upd (κ.2.2.1 14) (5 * k0.toInt + k1.toInt).toNat k2)) := by
  have q5 : (5 : Int32).toInt = 5 := by decide +kernel
  intro hv
  have emx2 : x2.toInt = 5 * k0.toInt := by rw [ex2, Int32.mul_comm]; exact z_mulc 5 (by decide) (by omega) (by omega)
  have eax3 : x3.toInt = 5 * k0.toInt + k1.toInt := by rw [ex3, z_add (by omega) (by omega), emx2]
  have ecx3 : x3.toNatClampNeg = (5 * k0.toInt + k1.toInt).toNat := by show x3.toInt.toNat = _; rw [eax3]
  have z0 : (0 : Int32).toInt = 0 := by decide
  have z1 : (1 : Int32).toInt = 1 := by decide
  first
  | (exfalso; omega)
  | exact ⟨hr1_1 hv, by rw [← ecx3]⟩

-- bool@ret @40
theorem vX0_change_6 (κ : KS) (k0 : Int32) (k1 : Int32) (r1 : Int32) (x2 : Int32) (x3 : Int32) (hr1_0_0 : 0 ≤ r1.toInt) (hr1_0_1 : r1.toInt ≤ 1) (hr1_1 : ((1 ≤ k1.toInt ∧ k1.toInt ≤ 4 ∧ 0 ≤ k0.toInt ∧ k0.toInt ≤ 12) → ((r1.toInt = 1 ∧ ¬ ((κ.2.2.1 14) (5 * k0.toInt + k1.toInt).toNat).toInt = 0) ∨ (r1.toInt = 0 ∧ ((κ.2.2.1 14) (5 * k0.toInt + k1.toInt).toNat).toInt = 0)))) (ex2 : x2 = k0 * (5 : Int32)) (ex3 : x3 = x2 + k1) (c4 : 0 ≤ x3.toInt) (c6 : 65 ≤ x3.toInt) : r1 = 0 ∨ r1 = 1 := by
  have q5 : (5 : Int32).toInt = 5 := by decide +kernel
  first | assumption | exact bool_of (by omega)
-- in@37 @37
theorem vX0_change_7 (κ : KS) (k0 : Int32) (k1 : Int32) (r1 : Int32) (x2 : Int32) (x3 : Int32) (hr1_0_0 : 0 ≤ r1.toInt) (hr1_0_1 : r1.toInt ≤ 1) (hr1_1 : ((1 ≤ k1.toInt ∧ k1.toInt ≤ 4 ∧ 0 ≤ k0.toInt ∧ k0.toInt ≤ 12) → ((r1.toInt = 1 ∧ ¬ ((κ.2.2.1 14) (5 * k0.toInt + k1.toInt).toNat).toInt = 0) ∨ (r1.toInt = 0 ∧ ((κ.2.2.1 14) (5 * k0.toInt + k1.toInt).toNat).toInt = 0)))) (ex2 : x2 = k0 * (5 : Int32)) (ex3 : x3 = x2 + k1) (c4 : 0 ≤ x3.toInt) (c6 : x3.toInt < 65) : vp_in x3 65 := by
  have q5 : (5 : Int32).toInt = 5 := by decide +kernel
  exact vp_in_iff.mpr ⟨by omega, by omega⟩
-- bool@37 @37
theorem vX0_change_8 (k2 : Int32) (hpre_0 : 0 ≤ k2.toInt) (hpre_1 : k2.toInt ≤ 1) : k2 = 0 ∨ k2 = 1 := by
  first | assumption | exact bool_of (by omega)
-- retz @40
theorem vX0_change_9 (κ : KS) (k0 : Int32) (k1 : Int32) (r1 : Int32) (x2 : Int32) (x3 : Int32) (hr1_0_0 : 0 ≤ r1.toInt) (hr1_0_1 : r1.toInt ≤ 1) (hr1_1 : ((1 ≤ k1.toInt ∧ k1.toInt ≤ 4 ∧ 0 ≤ k0.toInt ∧ k0.toInt ≤ 12) → ((r1.toInt = 1 ∧ ¬ ((κ.2.2.1 14) (5 * k0.toInt + k1.toInt).toNat).toInt = 0) ∨ (r1.toInt = 0 ∧ ((κ.2.2.1 14) (5 * k0.toInt + k1.toInt).toNat).toInt = 0)))) (ex2 : x2 = k0 * (5 : Int32)) (ex3 : x3 = x2 + k1) (c4 : 0 ≤ x3.toInt) (c6 : x3.toInt < 65) : 0 ≤ r1.toInt ∧ r1.toInt ≤ 1 := by
  have q5 : (5 : Int32).toInt = 5 := by decide +kernel
  refine ⟨?_, ?_⟩ <;> first | assumption | omega | (subst_vars; omega) | trivial
-- post @40
theorem vX0_change_10 (κ : KS) (k0 : Int32) (k1 : Int32) (k2 : Int32) (r1 : Int32) (x2 : Int32) (x3 : Int32) (hpre_0 : 0 ≤ k2.toInt) (hpre_1 : k2.toInt ≤ 1) (hr1_0_0 : 0 ≤ r1.toInt) (hr1_0_1 : r1.toInt ≤ 1) (hr1_1 : ((1 ≤ k1.toInt ∧ k1.toInt ≤ 4 ∧ 0 ≤ k0.toInt ∧ k0.toInt ≤ 12) → ((r1.toInt = 1 ∧ ¬ ((κ.2.2.1 14) (5 * k0.toInt + k1.toInt).toNat).toInt = 0) ∨ (r1.toInt = 0 ∧ ((κ.2.2.1 14) (5 * k0.toInt + k1.toInt).toNat).toInt = 0)))) (ex2 : x2 = k0 * (5 : Int32)) (ex3 : x3 = x2 + k1) (c4 : 0 ≤ x3.toInt) (c6 : x3.toInt < 65) : ((1 ≤ k1.toInt ∧ k1.toInt ≤ 4 ∧ 0 ≤ k0.toInt ∧ k0.toInt ≤ 12) → (((r1.toInt = 1 ∧ ¬ ((κ.2.2.1 14) (5 * k0.toInt + k1.toInt).toNat).toInt = 0) ∨ (r1.toInt = 0 ∧ ((κ.2.2.1 14) (5 * k0.toInt + k1.toInt).toNat).toInt = 0)) ∧ (upd (κ.2.2.1 14) x3.toNatClampNeg k2) = upd (κ.2.2.1 14) (5 * k0.toInt + k1.toInt).toNat k2)) := by
  have q5 : (5 : Int32).toInt = 5 := by decide +kernel
  intro hv
  have emx2 : x2.toInt = 5 * k0.toInt := by rw [ex2, Int32.mul_comm]; exact z_mulc 5 (by decide) (by omega) (by omega)
  have eax3 : x3.toInt = 5 * k0.toInt + k1.toInt := by rw [ex3, z_add (by omega) (by omega), emx2]
  have ecx3 : x3.toNatClampNeg = (5 * k0.toInt + k1.toInt).toNat := by show x3.toInt.toNat = _; rw [eax3]
  have z0 : (0 : Int32).toInt = 0 := by decide
  have z1 : (1 : Int32).toInt = 1 := by decide
  first
  | (exfalso; omega)
  | exact ⟨hr1_1 hv, by rw [← ecx3]⟩

-- bool@ret @40
theorem vX0_change_11 (κ : KS) (k0 : Int32) (k1 : Int32) (r1 : Int32) (x2 : Int32) (x3 : Int32) (hr1_0_0 : 0 ≤ r1.toInt) (hr1_0_1 : r1.toInt ≤ 1) (hr1_1 : ((1 ≤ k1.toInt ∧ k1.toInt ≤ 4 ∧ 0 ≤ k0.toInt ∧ k0.toInt ≤ 12) → ((r1.toInt = 1 ∧ ¬ ((κ.2.2.1 14) (5 * k0.toInt + k1.toInt).toNat).toInt = 0) ∨ (r1.toInt = 0 ∧ ((κ.2.2.1 14) (5 * k0.toInt + k1.toInt).toNat).toInt = 0)))) (ex2 : x2 = k0 * (5 : Int32)) (ex3 : x3 = x2 + k1) (c4 : 0 ≤ x3.toInt) (c6 : x3.toInt < 65) : r1 = 0 ∨ r1 = 1 := by
  have q5 : (5 : Int32).toInt = 5 := by decide +kernel
  first | assumption | exact bool_of (by omega)
set_option maxHeartbeats 4000000 in
set_option maxRecDepth 100000 in
theorem NX0_change (l : Launch) (D : va_G) (cy : Nat → ClassId) (ad : Nat → Nat) (A : Nat → Prop) (sz0 : Nat) (sa : Nat → Nat)  (κ : KS) (sz sl : Nat) (hAF : ∀ q, A q → Fr sz0 q) (hAn : ∀ q : Nat, sz ≤ q → A q) (k0 : Int32) (k1 : Int32) (k2 : Int32) (hPV : PV sa κ.2.2.2.2) (hpre : 0 ≤ k2.toInt ∧ k2.toInt ≤ 1) : Met l yX0_change (Cond.code yX0_change cX0_change 6 (some .boolean) :: GWc) ({ frames := 1, cells := 0, slots := 0, locals := 23 }) (PcC D cy ad A sz0 sa [.ref (ad 4), .int k0, .int k1, .int k2] κ sz sl) (va_Qi (fun (r : Int32) (u : (Nat → Int32)) => (0 ≤ r.toInt ∧ r.toInt ≤ 1) ∧ (((1 ≤ k1.toInt ∧ k1.toInt ≤ 4 ∧ 0 ≤ k0.toInt ∧ k0.toInt ≤ 12) → (((r.toInt = 1 ∧ ¬ ((κ.2.2.1 14) (5 * k0.toInt + k1.toInt).toNat).toInt = 0) ∨ (r.toInt = 0 ∧ ((κ.2.2.1 14) (5 * k0.toInt + k1.toInt).toNat).toInt = 0)) ∧ u = upd (κ.2.2.1 14) (5 * k0.toInt + k1.toInt).toNat k2)))) (fun (u : (Nat → Int32)) (t : State) => Bx D cy ad A sz sl (tA κ 14 u) (0) (0) t) A) (0) (0) A := by
  refine CM_of (loc0 := [(0, .ref (ad 4)), (1, .int k0), (2, .int k1), (3, .int k2)]) (own := RX0) (nm := "change") (by decide) rfl rfl rfl (Nat.le_of_ble_eq_true rfl) hAF hAn ?_
  intro p e s m below meth c ls hsz hsl C hP hS hl
  obtain ⟨hpre_0, hpre_1⟩ := hpre
  refine lv_aload_n C.x C.b dX0_change_0 rfl (lv_at hl 0 rfl) ?_
  refine lv_iload_n C.x C.b dX0_change_1 rfl (lv_at hl 1 rfl) ?_
  refine lv_iload_n C.x C.b dX0_change_2 rfl (lv_at hl 2 rfl) ?_
  refine c_callVi (n := 2) (As := [.int k0, .int k1]) (rest := []) C hP hS hl.1 (NX0_isThere l D cy ad A sz0 sa κ s.heap.size (SLT s.heap) C.f (fun q h => C.a q (Nat.le_trans hS.1 h)) k0 k1 hPV) ⟨cw_31, cw_35, by decide +kernel⟩ ⟨cw_32, cw_33, cw_34⟩ rfl (hP.recvS (k := 4) (ci := 2) C.K rfl rfl) rfl rfl (lv_room (Nat.le_of_ble_eq_true rfl)) ⟨Nat.le_of_ble_eq_true rfl, Nat.le_of_ble_eq_true rfl⟩ ⟨(Nat.le_of_ble_eq_true rfl), (Nat.le_of_ble_eq_true rfl)⟩ dX0_change_3 (fun r1 u H locs hr1 hP hS => ?_)
  have hr1 : (0 ≤ r1.toInt ∧ r1.toInt ≤ 1) ∧ (((1 ≤ k1.toInt ∧ k1.toInt ≤ 4 ∧ 0 ≤ k0.toInt ∧ k0.toInt ≤ 12) → ((r1.toInt = 1 ∧ ¬ ((κ.2.2.1 14) (5 * k0.toInt + k1.toInt).toNat).toInt = 0) ∨ (r1.toInt = 0 ∧ ((κ.2.2.1 14) (5 * k0.toInt + k1.toInt).toNat).toInt = 0)))) := hr1
  obtain ⟨hr1_0, hr1_1⟩ := hr1
  obtain ⟨hr1_0_0, hr1_0_1⟩ := hr1_0
  refine lv_istore (lv' := [(4, .int r1), (0, .ref (ad 4)), (1, .int k0), (2, .int k1), (3, .int k2)]) C.x C.b dX0_change_6 hl (by decide) rfl (fun ls hl => ?_)
  refine lv_iload_n C.x C.b dX0_change_8 rfl (lv_at hl 2 rfl) ?_
  refine lv_iconst (v := 5) C.x C.b dX0_change_9 (by decide +kernel) ?_
  refine lv_imul C.x C.b dX0_change_10 ?_
  refine lv_topi (fun x2 ex2 => ?_)
  refine lv_iload_n C.x C.b dX0_change_11 rfl (lv_at hl 3 rfl) ?_
  refine lv_iadd C.x C.b dX0_change_12 ?_
  refine lv_topi (fun x3 ex3 => ?_)
  refine lv_istore (lv' := [(5, .int x3), (4, .int r1), (0, .ref (ad 4)), (1, .int k0), (2, .int k1), (3, .int k2)]) C.x C.b dX0_change_13 hl (by decide) rfl (fun ls hl => ?_)
  refine lv_iload C.x C.b dX0_change_15 (lv_at hl 0 rfl) ?_
  refine lv_if_lt (tgt := 38) C.x C.b dX0_change_17 (by decide) (fun c4 => ?_) (fun c4 => ?_)
  · have c4 : x3.toInt < 0 := by have h := z_lt c4; rw [show (0 : Int32).toInt = 0 from by decide +kernel] at h; exact h
    refine lv_iload C.x C.b dX0_change_38 (lv_at hl 1 rfl) ?_
    have hP : CH D cy ad A (tA κ 14 (κ.2.2.1 14)) H := CH.cong hP rfl rfl rfl rfl rfl rfl rfl rfl rfl rfl rfl rfl rfl rfl rfl rfl rfl rfl rfl rfl rfl rfl rfl rfl rfl rfl rfl
    exact c_retz (ty := .boolean) (hv := (by rcases (vX0_change_3 κ k0 k1 r1 x2 x3 hr1_0_0 hr1_0_1 hr1_1 ex2 ex3 c4) with h | h <;> rw [h] <;> rfl)) C hsz hsl (κ.2.2.1 14) ⟨(vX0_change_1 κ k0 k1 r1 x2 x3 hr1_0_0 hr1_0_1 hr1_1 ex2 ex3 c4), (vX0_change_2 κ k0 k1 k2 r1 x2 x3 hpre_0 hpre_1 hr1_0_0 hr1_0_1 hr1_1 ex2 ex3 c4)⟩ hP hS ⟨(Nat.le_of_ble_eq_true rfl), (Nat.le_of_ble_eq_true rfl)⟩ ⟨(Nat.le_of_ble_eq_true rfl), (Nat.le_of_ble_eq_true rfl)⟩ dX0_change_40
  · have c4 : 0 ≤ x3.toInt := by have h := z_nlt c4; rw [show (0 : Int32).toInt = 0 from by decide +kernel] at h; exact h
    refine lv_iload C.x C.b dX0_change_20 (lv_at hl 0 rfl) ?_
    refine lv_aload_n C.x C.b dX0_change_22 rfl (lv_at hl 2 rfl) ?_
    refine cg_X0_0 C hP cw_5 dX0_change_23 ?_
    refine cl_14 C hP dX0_change_26 ?_
    refine lv_icmp_ge (tgt := 38) C.x C.b dX0_change_27 (by decide) (fun c6 => ?_) (fun c6 => ?_)
    · have c6 : 65 ≤ x3.toInt := by have h := z_le c6; rw [show (65 : Int32).toInt = 65 from by decide +kernel] at h; exact h
      refine lv_iload C.x C.b dX0_change_38 (lv_at hl 1 rfl) ?_
      have hP : CH D cy ad A (tA κ 14 (κ.2.2.1 14)) H := CH.cong hP rfl rfl rfl rfl rfl rfl rfl rfl rfl rfl rfl rfl rfl rfl rfl rfl rfl rfl rfl rfl rfl rfl rfl rfl rfl rfl rfl
      exact c_retz (ty := .boolean) (hv := (by rcases (vX0_change_6 κ k0 k1 r1 x2 x3 hr1_0_0 hr1_0_1 hr1_1 ex2 ex3 c4 c6) with h | h <;> rw [h] <;> rfl)) C hsz hsl (κ.2.2.1 14) ⟨(vX0_change_4 κ k0 k1 r1 x2 x3 hr1_0_0 hr1_0_1 hr1_1 ex2 ex3 c4 c6), (vX0_change_5 κ k0 k1 k2 r1 x2 x3 hpre_0 hpre_1 hr1_0_0 hr1_0_1 hr1_1 ex2 ex3 c4 c6)⟩ hP hS ⟨(Nat.le_of_ble_eq_true rfl), (Nat.le_of_ble_eq_true rfl)⟩ ⟨(Nat.le_of_ble_eq_true rfl), (Nat.le_of_ble_eq_true rfl)⟩ dX0_change_40
    · have c6 : x3.toInt < 65 := by have h := z_nle c6; rw [show (65 : Int32).toInt = 65 from by decide +kernel] at h; exact h
      refine lv_aload_n C.x C.b dX0_change_30 rfl (lv_at hl 2 rfl) ?_
      refine cg_X0_0 C hP cw_5 dX0_change_31 ?_
      refine lv_iload C.x C.b dX0_change_34 (lv_at hl 0 rfl) ?_
      refine lv_iload_n C.x C.b dX0_change_36 rfl (lv_at hl 5 rfl) ?_
      refine cw_st14 (f := (κ.2.2.1 14)) C hP hS rfl (by rcases (vX0_change_8 k2 hpre_0 hpre_1) with h | h <;> rw [h] <;> rfl) (vX0_change_7 κ k0 k1 r1 x2 x3 hr1_0_0 hr1_0_1 hr1_1 ex2 ex3 c4 c6) dX0_change_37 (fun H locs hP hS => ?_)
      refine lv_iload C.x C.b dX0_change_38 (lv_at hl 1 rfl) ?_
      exact c_retz (ty := .boolean) (hv := (by rcases (vX0_change_11 κ k0 k1 r1 x2 x3 hr1_0_0 hr1_0_1 hr1_1 ex2 ex3 c4 c6) with h | h <;> rw [h] <;> rfl)) C hsz hsl (upd (κ.2.2.1 14) x3.toNatClampNeg k2) ⟨(vX0_change_9 κ k0 k1 r1 x2 x3 hr1_0_0 hr1_0_1 hr1_1 ex2 ex3 c4 c6), (vX0_change_10 κ k0 k1 k2 r1 x2 x3 hpre_0 hpre_1 hr1_0_0 hr1_0_1 hr1_1 ex2 ex3 c4 c6)⟩ hP hS ⟨(Nat.le_of_ble_eq_true rfl), (Nat.le_of_ble_eq_true rfl)⟩ ⟨(Nat.le_of_ble_eq_true rfl), (Nat.le_of_ble_eq_true rfl)⟩ dX0_change_40

-- retz @22
theorem vX0_reach_1   : 0 ≤ (1 : Int32).toInt ∧ (1 : Int32).toInt ≤ 1 := by
  have q1 : (1 : Int32).toInt = 1 := by decide +kernel
  refine ⟨?_, ?_⟩ <;> first | assumption | omega | (subst_vars; omega) | trivial
-- retz @72
theorem vX0_reach_2   : 0 ≤ (0 : Int32).toInt ∧ (0 : Int32).toInt ≤ 1 := by
  have q0 : (0 : Int32).toInt = 0 := by decide +kernel
  refine ⟨?_, ?_⟩ <;> first | assumption | omega | (subst_vars; omega) | trivial
-- meas@45 @45
theorem vX0_reach_3 (κ : KS) (k0 : Nat) (k1 : Int32) (x3 : Int32) (r4 : Int32) (b9 : Nat) (x10 : Int32) (r11 : Int32) (x13 : Option Nat) (ex3 : oI κ.2.2.2.2 0 k0 = x3) (hr4_0_0 : 0 ≤ r4.toInt) (hr4_0_1 : r4.toInt ≤ 1) (hr4_1 : ((1 ≤ k1.toInt ∧ k1.toInt ≤ 4 ∧ 0 ≤ x3.toInt ∧ x3.toInt ≤ 12) → ((r4.toInt = 1 ∧ ¬ ((κ.2.2.1 14) (5 * x3.toInt + k1.toInt).toNat).toInt = 0) ∨ (r4.toInt = 0 ∧ ((κ.2.2.1 14) (5 * x3.toInt + k1.toInt).toNat).toInt = 0)))) (c5 : r4.toInt = 0) (ex10 : oI κ.2.2.2.2 7 b9 = x10) (hr11_0_0 : 0 ≤ r11.toInt) (hr11_0_1 : r11.toInt ≤ 1) (hr11_1 : ((1 ≤ k1.toInt ∧ k1.toInt ≤ 4 ∧ 0 ≤ x10.toInt ∧ x10.toInt ≤ 12) → ((r11.toInt = 1 ∧ ¬ ((κ.2.2.1 14) (5 * x10.toInt + k1.toInt).toNat).toInt = 0) ∨ (r11.toInt = 0 ∧ ((κ.2.2.1 14) (5 * x10.toInt + k1.toInt).toNat).toInt = 0)))) (c12 : r11.toInt = 0) (mx13 : cto κ.2.2.2.2 x13 < oC κ.2.2.2.2 b9) : (cto κ.2.2.2.2 x13) < (cto κ.2.2.2.2 (some b9)) := by
  show cto _ _ < oC _ _
  assumption
-- meas@45 @45
theorem vX0_reach_4 (κ : KS) (k0 : Nat) (k1 : Int32) (x3 : Int32) (r4 : Int32) (x14 : Nat) (x15 : Option Nat) (b17 : Nat) (x18 : Int32) (r19 : Int32) (x21 : Option Nat) (ex3 : oI κ.2.2.2.2 0 k0 = x3) (hr4_0_0 : 0 ≤ r4.toInt) (hr4_0_1 : r4.toInt ≤ 1) (hr4_1 : ((1 ≤ k1.toInt ∧ k1.toInt ≤ 4 ∧ 0 ≤ x3.toInt ∧ x3.toInt ≤ 12) → ((r4.toInt = 1 ∧ ¬ ((κ.2.2.1 14) (5 * x3.toInt + k1.toInt).toNat).toInt = 0) ∨ (r4.toInt = 0 ∧ ((κ.2.2.1 14) (5 * x3.toInt + k1.toInt).toNat).toInt = 0)))) (c5 : r4.toInt = 0) (mx15 : cto κ.2.2.2.2 x15 < oC κ.2.2.2.2 x14) (ex18 : oI κ.2.2.2.2 7 b17 = x18) (hr19_0_0 : 0 ≤ r19.toInt) (hr19_0_1 : r19.toInt ≤ 1) (hr19_1 : ((1 ≤ k1.toInt ∧ k1.toInt ≤ 4 ∧ 0 ≤ x18.toInt ∧ x18.toInt ≤ 12) → ((r19.toInt = 1 ∧ ¬ ((κ.2.2.1 14) (5 * x18.toInt + k1.toInt).toNat).toInt = 0) ∨ (r19.toInt = 0 ∧ ((κ.2.2.1 14) (5 * x18.toInt + k1.toInt).toNat).toInt = 0)))) (c20 : r19.toInt = 0) (mx21 : cto κ.2.2.2.2 x21 < oC κ.2.2.2.2 b17) : (cto κ.2.2.2.2 x21) < (cto κ.2.2.2.2 (some b17)) := by
  show cto _ _ < oC _ _
  assumption
set_option maxHeartbeats 4000000 in
set_option maxRecDepth 100000 in
theorem NX0_reach (l : Launch) (D : va_G) (cy : Nat → ClassId) (ad : Nat → Nat) (A : Nat → Prop) (sz0 : Nat) (sa : Nat → Nat)  (κ : KS) (sz sl : Nat) (hAF : ∀ q, A q → Fr sz0 q) (hAn : ∀ q : Nat, sz ≤ q → A q) (k0 : Nat) (k1 : Int32) (ht0 : oT κ.2.2.2.2 k0 = 1) (hPV : PV sa κ.2.2.2.2) : Met l yX0_reach (Cond.code yX0_reach cX0_reach 4 (some .boolean) :: GWc) ({ frames := 1, cells := 0, slots := 0, locals := 23 }) (PcC D cy ad A sz0 sa [.ref (ad 4), .ref k0, .int k1] κ sz sl) (va_Qi (fun (r : Int32) (u : Unit) => (0 ≤ r.toInt ∧ r.toInt ≤ 1)) (fun (u : Unit) (t : State) => Bx D cy ad A sz sl κ (0) (0) t) A) (0) (0) A := by
  refine CM_of (loc0 := [(0, .ref (ad 4)), (1, .ref k0), (2, .int k1)]) (own := RX0) (nm := "reach") (by decide) rfl rfl rfl (Nat.le_of_ble_eq_true rfl) hAF hAn ?_
  intro p e s m below meth c ls hsz hsl C hP hS hl
  refine lv_aload_n C.x C.b dX0_reach_0 rfl (lv_at hl 0 rfl) ?_
  refine lv_iconst (v := 5) C.x C.b dX0_reach_1 (by decide +kernel) ?_
  refine lv_iload_n C.x C.b dX0_reach_2 rfl (lv_at hl 2 rfl) ?_
  refine c_callVi (n := 2) (As := [.int 5, .int k1]) (rest := []) C hP hS hl.1 (NX0_isThere l D cy ad A sz0 sa κ s.heap.size (SLT s.heap) C.f (fun q h => C.a q (Nat.le_trans hS.1 h)) (5 : Int32) k1 hPV) ⟨cw_31, cw_35, by decide +kernel⟩ ⟨cw_32, cw_33, cw_34⟩ rfl (hP.recvS (k := 4) (ci := 2) C.K rfl rfl) rfl rfl (lv_room (Nat.le_of_ble_eq_true rfl)) ⟨Nat.le_of_ble_eq_true rfl, Nat.le_of_ble_eq_true rfl⟩ ⟨(Nat.le_of_ble_eq_true rfl), (Nat.le_of_ble_eq_true rfl)⟩ dX0_reach_3 (fun r1 u H locs hr1 hP hS => ?_)
  have hr1 : (0 ≤ r1.toInt ∧ r1.toInt ≤ 1) ∧ (((1 ≤ k1.toInt ∧ k1.toInt ≤ 4 ∧ 0 ≤ (5 : Int32).toInt ∧ (5 : Int32).toInt ≤ 12) → ((r1.toInt = 1 ∧ ¬ ((κ.2.2.1 14) (5 * (5 : Int32).toInt + k1.toInt).toNat).toInt = 0) ∨ (r1.toInt = 0 ∧ ((κ.2.2.1 14) (5 * (5 : Int32).toInt + k1.toInt).toNat).toInt = 0)))) := hr1
  obtain ⟨hr1_0, hr1_1⟩ := hr1
  obtain ⟨hr1_0_0, hr1_0_1⟩ := hr1_0
  refine lv_if_ne (tgt := 21) C.x C.b dX0_reach_6 (by decide) (fun c2 => ?_) (fun c2 => ?_)
  · have c2 : ¬ r1.toInt = 0 := by have h := z_ne c2; rw [show (0 : Int32).toInt = 0 from by decide +kernel] at h; exact h
    refine lv_iconst (v := 1) C.x C.b dX0_reach_21 (by decide +kernel) ?_
    exact c_retz (ty := .boolean) (hv := rfl) C hsz hsl () (vX0_reach_1  ) hP hS ⟨(Nat.le_of_ble_eq_true rfl), (Nat.le_of_ble_eq_true rfl)⟩ ⟨(Nat.le_of_ble_eq_true rfl), (Nat.le_of_ble_eq_true rfl)⟩ dX0_reach_22
  · have c2 : r1.toInt = 0 := by have h := z_eq c2; rw [show (0 : Int32).toInt = 0 from by decide +kernel] at h; exact h
    refine lv_aload_n C.x C.b dX0_reach_9 rfl (lv_at hl 0 rfl) ?_
    refine lv_aload_n C.x C.b dX0_reach_10 rfl (lv_at hl 1 rfl) ?_
    obtain ⟨x3, ex3⟩ : ∃ z, oI κ.2.2.2.2 0 k0 = z := ⟨_, rfl⟩
    refine pg_X10_0 (v := x3) C hP (t20 (a := k0) (t := 1) ht0) ex3 cw_55 dX0_reach_11 ?_
    refine lv_iload_n C.x C.b dX0_reach_14 rfl (lv_at hl 2 rfl) ?_
    refine c_callVi (n := 2) (As := [.int x3, .int k1]) (rest := []) C hP hS hl.1 (NX0_isThere l D cy ad A sz0 sa κ H.size (SLT H) C.f (fun q h => C.a q (Nat.le_trans hS.1 h)) x3 k1 hPV) ⟨cw_31, cw_35, by decide +kernel⟩ ⟨cw_32, cw_33, cw_34⟩ rfl (hP.recvS (k := 4) (ci := 2) C.K rfl rfl) rfl rfl (lv_room (Nat.le_of_ble_eq_true rfl)) ⟨Nat.le_of_ble_eq_true rfl, Nat.le_of_ble_eq_true rfl⟩ ⟨(Nat.le_of_ble_eq_true rfl), (Nat.le_of_ble_eq_true rfl)⟩ dX0_reach_15 (fun r4 u H locs hr4 hP hS => ?_)
    have hr4 : (0 ≤ r4.toInt ∧ r4.toInt ≤ 1) ∧ (((1 ≤ k1.toInt ∧ k1.toInt ≤ 4 ∧ 0 ≤ x3.toInt ∧ x3.toInt ≤ 12) → ((r4.toInt = 1 ∧ ¬ ((κ.2.2.1 14) (5 * x3.toInt + k1.toInt).toNat).toInt = 0) ∨ (r4.toInt = 0 ∧ ((κ.2.2.1 14) (5 * x3.toInt + k1.toInt).toNat).toInt = 0)))) := hr4
    obtain ⟨hr4_0, hr4_1⟩ := hr4
    obtain ⟨hr4_0_0, hr4_0_1⟩ := hr4_0
    refine lv_if_eq (tgt := 23) C.x C.b dX0_reach_18 (by decide) (fun c5 => ?_) (fun c5 => ?_)
    · have c5 : r4.toInt = 0 := by have h := z_eq c5; rw [show (0 : Int32).toInt = 0 from by decide +kernel] at h; exact h
      refine lv_aload_n C.x C.b dX0_reach_23 rfl (lv_at hl 1 rfl) ?_
      obtain ⟨x6, ex6⟩ : ∃ z, oR κ.2.2.2.2 1 k0 = z := ⟨_, rfl⟩
      refine pg_X10_4 (v := x6) C hP (t20 (a := k0) (t := 1) ht0) ex6 cw_56 dX0_reach_24 ?_
      have tx6 : NT κ.2.2.2.2 6 x6 := by rw [← ex6]; exact (hPV.t1 ht0).2.1
      cases x6 with
      | none =>
        refine lv_ifnonnullN C.x C.b dX0_reach_27 ?_
        refine lv_null C.x C.b dX0_reach_30 ?_
        refine lv_goto (tgt := 44) C.x C.b dX0_reach_31 (by decide) ?_
        refine lv_astore_nN (lv' := [(3, .null), (0, .ref (ad 4)), (1, .ref k0), (2, .int k1)]) C.x C.b dX0_reach_44 rfl hl (by decide) rfl (fun ls hl => ?_)
        have lp45 : ∀ (n : Nat) (y8 : Option Nat) (H : Heap) (locs : List Loc) (ls : Array Slot), (cto κ.2.2.2.2 y8) < n → (NT κ.2.2.2.2 3 y8) → (True) → CH D cy ad A κ H → va_S A s.heap H locs → lv_has ls 4 [(3, va_rf y8), (0, .ref (ad 4)), (1, .ref k0), (2, .int k1)] → W p l e (headSpec (Cond.code yX0_reach cX0_reach 4 (some .boolean) :: GWc) ({ frames := 1, cells := 0, slots := 0, locals := 23 })).room s m #[.ref (ad 4), .ref k0, .int k1] below meth c H locs (0 + 0 + 0) (0 + 0 + 0) (MQ below (va_Qi (fun (r : Int32) (u : Unit) => (0 ≤ r.toInt ∧ r.toInt ≤ 1)) (fun (u : Unit) (t : State) => Bx D cy ad A sz sl κ (0) (0) t) A) #[.ref (ad 4), .ref k0, .int k1] s (0) (0) A) (F0 m 45 ls []) := by
          intro n
          induction n with
          | zero => intro y8 H locs ls hn; exact absurd hn (Nat.not_lt_zero _)
          | succ n45 ih45 =>
            intro y8 H locs ls hn45 hf45_0 hi45 hP hS hl
            refine lq_aload_n C.x C.b dX0_reach_45 rfl (lv_at hl 0 rfl) ?_
            cases y8 with
            | none =>
              refine lv_ifnullN (tgt := 71) C.x C.b dX0_reach_46 (by decide) ?_
              refine lv_iconst (v := 0) C.x C.b dX0_reach_71 (by decide +kernel) ?_
              exact c_retz (ty := .boolean) (hv := rfl) C hsz hsl () (vX0_reach_2  ) hP hS ⟨(Nat.le_of_ble_eq_true rfl), (Nat.le_of_ble_eq_true rfl)⟩ ⟨(Nat.le_of_ble_eq_true rfl), (Nat.le_of_ble_eq_true rfl)⟩ dX0_reach_72
            | some b9 =>
              have hb9 : oT κ.2.2.2.2 b9 = 3 := hf45_0 b9 rfl
              refine lv_ifnull C.x C.b dX0_reach_46 ?_
              refine lv_aload_n C.x C.b dX0_reach_49 rfl (lv_at hl 1 rfl) ?_
              refine lv_aload_n C.x C.b dX0_reach_50 rfl (lv_at hl 0 rfl) ?_
              obtain ⟨x10, ex10⟩ : ∃ z, oI κ.2.2.2.2 7 b9 = z := ⟨_, rfl⟩
              refine pg_X1_1 (v := x10) C hP (t20 (a := b9) (t := 3) hb9) ex10 cw_59 dX0_reach_51 ?_
              refine lv_iload_n C.x C.b dX0_reach_54 rfl (lv_at hl 3 rfl) ?_
              refine c_callVi (n := 2) (As := [.int x10, .int k1]) (rest := []) C hP hS hl.1 (NX0_isThere l D cy ad A sz0 sa κ H.size (SLT H) C.f (fun q h => C.a q (Nat.le_trans hS.1 h)) x10 k1 hPV) ⟨cw_31, cw_35, by decide +kernel⟩ ⟨cw_32, cw_33, cw_34⟩ rfl (hP.recvS (k := 4) (ci := 2) C.K rfl rfl) rfl rfl (lv_room (Nat.le_of_ble_eq_true rfl)) ⟨Nat.le_of_ble_eq_true rfl, Nat.le_of_ble_eq_true rfl⟩ ⟨(Nat.le_of_ble_eq_true rfl), (Nat.le_of_ble_eq_true rfl)⟩ dX0_reach_55 (fun r11 u H locs hr11 hP hS => ?_)
              have hr11 : (0 ≤ r11.toInt ∧ r11.toInt ≤ 1) ∧ (((1 ≤ k1.toInt ∧ k1.toInt ≤ 4 ∧ 0 ≤ x10.toInt ∧ x10.toInt ≤ 12) → ((r11.toInt = 1 ∧ ¬ ((κ.2.2.1 14) (5 * x10.toInt + k1.toInt).toNat).toInt = 0) ∨ (r11.toInt = 0 ∧ ((κ.2.2.1 14) (5 * x10.toInt + k1.toInt).toNat).toInt = 0)))) := hr11
              obtain ⟨hr11_0, hr11_1⟩ := hr11
              obtain ⟨hr11_0_0, hr11_0_1⟩ := hr11_0
              refine lv_if_eq (tgt := 63) C.x C.b dX0_reach_58 (by decide) (fun c12 => ?_) (fun c12 => ?_)
              · have c12 : r11.toInt = 0 := by have h := z_eq c12; rw [show (0 : Int32).toInt = 0 from by decide +kernel] at h; exact h
                refine lv_aload_n C.x C.b dX0_reach_63 rfl (lv_at hl 0 rfl) ?_
                obtain ⟨x13, ex13⟩ : ∃ z, oR κ.2.2.2.2 6 b9 = z := ⟨_, rfl⟩
                refine pg_X1_2 (v := x13) C hP (t20 (a := b9) (t := 3) hb9) ex13 cw_58 dX0_reach_64 ?_
                have tx13 : NT κ.2.2.2.2 3 x13 := by rw [← ex13]; exact (hPV.t3 hb9).1.1
                have mx13 : cto κ.2.2.2.2 x13 < oC κ.2.2.2.2 b9 := by rw [← ex13]; exact (hPV.t3 hb9).1.2
                refine lq_astore_n (lv' := [(3, va_rf x13), (0, .ref (ad 4)), (1, .ref k0), (2, .int k1)]) C.x C.b dX0_reach_67 rfl hl (by decide) (by cases x13 <;> rfl) (fun ls hl => ?_)
                refine lv_goto (tgt := 45) C.x C.b dX0_reach_68 (by decide) ?_
                refine W.widen (k := 0 + 0 + 0) (n := 0 + 0 + 0) (Nat.le_of_ble_eq_true rfl) (Nat.le_of_ble_eq_true rfl) ?_
                exact ih45 x13 _ _ _ (Nat.lt_of_lt_of_le (vX0_reach_3 κ k0 k1 x3 r4 b9 x10 r11 x13 ex3 hr4_0_0 hr4_0_1 hr4_1 c5 ex10 hr11_0_0 hr11_0_1 hr11_1 c12 mx13) (Nat.le_of_lt_succ hn45)) tx13 trivial hP hS (lv_sub hl [0, 1, 2, 3] rfl)
              · have c12 : ¬ r11.toInt = 0 := by have h := z_ne c12; rw [show (0 : Int32).toInt = 0 from by decide +kernel] at h; exact h
                refine lv_iconst (v := 1) C.x C.b dX0_reach_61 (by decide +kernel) ?_
                exact c_retz (ty := .boolean) (hv := rfl) C hsz hsl () (vX0_reach_1  ) hP hS ⟨(Nat.le_of_ble_eq_true rfl), (Nat.le_of_ble_eq_true rfl)⟩ ⟨(Nat.le_of_ble_eq_true rfl), (Nat.le_of_ble_eq_true rfl)⟩ dX0_reach_62
        refine W.widen (k := 0 + 0 + 0) (n := 0 + 0 + 0) (Nat.le_of_ble_eq_true rfl) (Nat.le_of_ble_eq_true rfl) ?_
        exact lp45 ((cto κ.2.2.2.2 none) + 1) none _ _ _ (Nat.lt_succ_self _) nt_n trivial hP hS (lv_sub hl [0, 1, 2, 3] rfl)
      | some b7 =>
        have hb7 : oT κ.2.2.2.2 b7 = 6 := tx6 b7 rfl
        refine lv_ifnonnull (tgt := 34) C.x C.b dX0_reach_27 (by decide) ?_
        refine lv_aload_n C.x C.b dX0_reach_34 rfl (lv_at hl 1 rfl) ?_
        refine pg_X10_4 (v := (some b7)) C hP (t20 (a := k0) (t := 1) ht0) ex6 cw_56 dX0_reach_35 ?_
        obtain ⟨x14, ex14, hx14⟩ := (hPV.t6 hb7).1
        refine pg_X9_1 (v := some x14) C hP (t20 (a := b7) (t := 6) hb7) ex14 cw_57 dX0_reach_38 ?_
        obtain ⟨x15, ex15⟩ : ∃ z, oR κ.2.2.2.2 6 x14 = z := ⟨_, rfl⟩
        refine pg_X1_2 (v := x15) C hP (t20 (a := x14) (t := 3) hx14) ex15 cw_58 dX0_reach_41 ?_
        have tx15 : NT κ.2.2.2.2 3 x15 := by rw [← ex15]; exact (hPV.t3 hx14).1.1
        have mx15 : cto κ.2.2.2.2 x15 < oC κ.2.2.2.2 x14 := by rw [← ex15]; exact (hPV.t3 hx14).1.2
        refine lq_astore_n (lv' := [(3, va_rf x15), (0, .ref (ad 4)), (1, .ref k0), (2, .int k1)]) C.x C.b dX0_reach_44 rfl hl (by decide) (by cases x15 <;> rfl) (fun ls hl => ?_)
        have lp45 : ∀ (n : Nat) (y16 : Option Nat) (H : Heap) (locs : List Loc) (ls : Array Slot), (cto κ.2.2.2.2 y16) < n → (NT κ.2.2.2.2 3 y16) → (True) → CH D cy ad A κ H → va_S A s.heap H locs → lv_has ls 4 [(3, va_rf y16), (0, .ref (ad 4)), (1, .ref k0), (2, .int k1)] → W p l e (headSpec (Cond.code yX0_reach cX0_reach 4 (some .boolean) :: GWc) ({ frames := 1, cells := 0, slots := 0, locals := 23 })).room s m #[.ref (ad 4), .ref k0, .int k1] below meth c H locs (0 + 0 + 0) (0 + 0 + 0) (MQ below (va_Qi (fun (r : Int32) (u : Unit) => (0 ≤ r.toInt ∧ r.toInt ≤ 1)) (fun (u : Unit) (t : State) => Bx D cy ad A sz sl κ (0) (0) t) A) #[.ref (ad 4), .ref k0, .int k1] s (0) (0) A) (F0 m 45 ls []) := by
          intro n
          induction n with
          | zero => intro y16 H locs ls hn; exact absurd hn (Nat.not_lt_zero _)
          | succ n45 ih45 =>
            intro y16 H locs ls hn45 hf45_0 hi45 hP hS hl
            refine lq_aload_n C.x C.b dX0_reach_45 rfl (lv_at hl 0 rfl) ?_
            cases y16 with
            | none =>
              refine lv_ifnullN (tgt := 71) C.x C.b dX0_reach_46 (by decide) ?_
              refine lv_iconst (v := 0) C.x C.b dX0_reach_71 (by decide +kernel) ?_
              exact c_retz (ty := .boolean) (hv := rfl) C hsz hsl () (vX0_reach_2  ) hP hS ⟨(Nat.le_of_ble_eq_true rfl), (Nat.le_of_ble_eq_true rfl)⟩ ⟨(Nat.le_of_ble_eq_true rfl), (Nat.le_of_ble_eq_true rfl)⟩ dX0_reach_72
            | some b17 =>
              have hb17 : oT κ.2.2.2.2 b17 = 3 := hf45_0 b17 rfl
              refine lv_ifnull C.x C.b dX0_reach_46 ?_
              refine lv_aload_n C.x C.b dX0_reach_49 rfl (lv_at hl 1 rfl) ?_
              refine lv_aload_n C.x C.b dX0_reach_50 rfl (lv_at hl 0 rfl) ?_
              obtain ⟨x18, ex18⟩ : ∃ z, oI κ.2.2.2.2 7 b17 = z := ⟨_, rfl⟩
              refine pg_X1_1 (v := x18) C hP (t20 (a := b17) (t := 3) hb17) ex18 cw_59 dX0_reach_51 ?_
              refine lv_iload_n C.x C.b dX0_reach_54 rfl (lv_at hl 3 rfl) ?_
              refine c_callVi (n := 2) (As := [.int x18, .int k1]) (rest := []) C hP hS hl.1 (NX0_isThere l D cy ad A sz0 sa κ H.size (SLT H) C.f (fun q h => C.a q (Nat.le_trans hS.1 h)) x18 k1 hPV) ⟨cw_31, cw_35, by decide +kernel⟩ ⟨cw_32, cw_33, cw_34⟩ rfl (hP.recvS (k := 4) (ci := 2) C.K rfl rfl) rfl rfl (lv_room (Nat.le_of_ble_eq_true rfl)) ⟨Nat.le_of_ble_eq_true rfl, Nat.le_of_ble_eq_true rfl⟩ ⟨(Nat.le_of_ble_eq_true rfl), (Nat.le_of_ble_eq_true rfl)⟩ dX0_reach_55 (fun r19 u H locs hr19 hP hS => ?_)
              have hr19 : (0 ≤ r19.toInt ∧ r19.toInt ≤ 1) ∧ (((1 ≤ k1.toInt ∧ k1.toInt ≤ 4 ∧ 0 ≤ x18.toInt ∧ x18.toInt ≤ 12) → ((r19.toInt = 1 ∧ ¬ ((κ.2.2.1 14) (5 * x18.toInt + k1.toInt).toNat).toInt = 0) ∨ (r19.toInt = 0 ∧ ((κ.2.2.1 14) (5 * x18.toInt + k1.toInt).toNat).toInt = 0)))) := hr19
              obtain ⟨hr19_0, hr19_1⟩ := hr19
              obtain ⟨hr19_0_0, hr19_0_1⟩ := hr19_0
              refine lv_if_eq (tgt := 63) C.x C.b dX0_reach_58 (by decide) (fun c20 => ?_) (fun c20 => ?_)
              · have c20 : r19.toInt = 0 := by have h := z_eq c20; rw [show (0 : Int32).toInt = 0 from by decide +kernel] at h; exact h
                refine lv_aload_n C.x C.b dX0_reach_63 rfl (lv_at hl 0 rfl) ?_
                obtain ⟨x21, ex21⟩ : ∃ z, oR κ.2.2.2.2 6 b17 = z := ⟨_, rfl⟩
                refine pg_X1_2 (v := x21) C hP (t20 (a := b17) (t := 3) hb17) ex21 cw_58 dX0_reach_64 ?_
                have tx21 : NT κ.2.2.2.2 3 x21 := by rw [← ex21]; exact (hPV.t3 hb17).1.1
                have mx21 : cto κ.2.2.2.2 x21 < oC κ.2.2.2.2 b17 := by rw [← ex21]; exact (hPV.t3 hb17).1.2
                refine lq_astore_n (lv' := [(3, va_rf x21), (0, .ref (ad 4)), (1, .ref k0), (2, .int k1)]) C.x C.b dX0_reach_67 rfl hl (by decide) (by cases x21 <;> rfl) (fun ls hl => ?_)
                refine lv_goto (tgt := 45) C.x C.b dX0_reach_68 (by decide) ?_
                refine W.widen (k := 0 + 0 + 0) (n := 0 + 0 + 0) (Nat.le_of_ble_eq_true rfl) (Nat.le_of_ble_eq_true rfl) ?_
                exact ih45 x21 _ _ _ (Nat.lt_of_lt_of_le (vX0_reach_4 κ k0 k1 x3 r4 x14 x15 b17 x18 r19 x21 ex3 hr4_0_0 hr4_0_1 hr4_1 c5 mx15 ex18 hr19_0_0 hr19_0_1 hr19_1 c20 mx21) (Nat.le_of_lt_succ hn45)) tx21 trivial hP hS (lv_sub hl [0, 1, 2, 3] rfl)
              · have c20 : ¬ r19.toInt = 0 := by have h := z_ne c20; rw [show (0 : Int32).toInt = 0 from by decide +kernel] at h; exact h
                refine lv_iconst (v := 1) C.x C.b dX0_reach_61 (by decide +kernel) ?_
                exact c_retz (ty := .boolean) (hv := rfl) C hsz hsl () (vX0_reach_1  ) hP hS ⟨(Nat.le_of_ble_eq_true rfl), (Nat.le_of_ble_eq_true rfl)⟩ ⟨(Nat.le_of_ble_eq_true rfl), (Nat.le_of_ble_eq_true rfl)⟩ dX0_reach_62
        refine W.widen (k := 0 + 0 + 0) (n := 0 + 0 + 0) (Nat.le_of_ble_eq_true rfl) (Nat.le_of_ble_eq_true rfl) ?_
        exact lp45 ((cto κ.2.2.2.2 x15) + 1) x15 _ _ _ (Nat.lt_succ_self _) tx15 trivial hP hS (lv_sub hl [0, 1, 2, 3] rfl)
    · have c5 : ¬ r4.toInt = 0 := by have h := z_ne c5; rw [show (0 : Int32).toInt = 0 from by decide +kernel] at h; exact h
      refine lv_iconst (v := 1) C.x C.b dX0_reach_21 (by decide +kernel) ?_
      exact c_retz (ty := .boolean) (hv := rfl) C hsz hsl () (vX0_reach_1  ) hP hS ⟨(Nat.le_of_ble_eq_true rfl), (Nat.le_of_ble_eq_true rfl)⟩ ⟨(Nat.le_of_ble_eq_true rfl), (Nat.le_of_ble_eq_true rfl)⟩ dX0_reach_22

-- retz @22
theorem vX0_suit_1   : 0 ≤ (1 : Int32).toInt ∧ (1 : Int32).toInt ≤ 1 := by
  have q1 : (1 : Int32).toInt = 1 := by decide +kernel
  refine ⟨?_, ?_⟩ <;> first | assumption | omega | (subst_vars; omega) | trivial
-- retz @22
theorem vX0_suit_2   : 0 ≤ (0 : Int32).toInt ∧ (0 : Int32).toInt ≤ 1 := by
  have q0 : (0 : Int32).toInt = 0 := by decide +kernel
  refine ⟨?_, ?_⟩ <;> first | assumption | omega | (subst_vars; omega) | trivial
set_option maxHeartbeats 4000000 in
set_option maxRecDepth 100000 in
theorem NX0_suit (l : Launch) (D : va_G) (cy : Nat → ClassId) (ad : Nat → Nat) (A : Nat → Prop) (sz0 : Nat) (sa : Nat → Nat)  (κ : KS) (sz sl : Nat) (hAF : ∀ q, A q → Fr sz0 q) (hAn : ∀ q : Nat, sz ≤ q → A q) (k0 : Nat) (k1 : Int32) (ht0 : oT κ.2.2.2.2 k0 = 1) (hPV : PV sa κ.2.2.2.2) : Met l yX0_suit (Cond.code yX0_suit cX0_suit 3 (some .boolean) :: GWc) ({ frames := 2, cells := 0, slots := 0, locals := 46 }) (PcC D cy ad A sz0 sa [.ref (ad 4), .ref k0, .int k1] κ sz sl) (va_Qi (fun (r : Int32) (u : Unit) => (0 ≤ r.toInt ∧ r.toInt ≤ 1)) (fun (u : Unit) (t : State) => Bx D cy ad A sz sl κ (0) (0) t) A) (0) (0) A := by
  refine CM_of (loc0 := [(0, .ref (ad 4)), (1, .ref k0), (2, .int k1)]) (own := RX0) (nm := "suit") (by decide) rfl rfl rfl (Nat.le_of_ble_eq_true rfl) hAF hAn ?_
  intro p e s m below meth c ls hsz hsl C hP hS hl
  refine lv_aload_n C.x C.b dX0_suit_0 rfl (lv_at hl 1 rfl) ?_
  refine lv_iload_n C.x C.b dX0_suit_1 rfl (lv_at hl 2 rfl) ?_
  refine c_callVi (n := 1) (As := [.int k1]) (rest := []) C hP hS hl.1 (NX10_fits l D cy ad A sz0 sa κ s.heap.size (SLT s.heap) C.f (fun q h => C.a q (Nat.le_trans hS.1 h)) k0 k1 ht0 hPV) ⟨cw_37, cw_41, by decide +kernel⟩ ⟨cw_38, cw_39, cw_40⟩ rfl (hP.recvP (t := 1) (ci := 12) C.K (t20 (a := k0) (t := 1) ht0) (by decide) rfl rfl) rfl rfl (lv_room (Nat.le_of_ble_eq_true rfl)) ⟨Nat.le_of_ble_eq_true rfl, Nat.le_of_ble_eq_true rfl⟩ ⟨(Nat.le_of_ble_eq_true rfl), (Nat.le_of_ble_eq_true rfl)⟩ dX0_suit_2 (fun r1 u H locs hr1 hP hS => ?_)
  have hr1 : (0 ≤ r1.toInt ∧ r1.toInt ≤ 1) := hr1
  obtain ⟨hr1_0, hr1_1⟩ := hr1
  refine lv_if_ne (tgt := 17) C.x C.b dX0_suit_5 (by decide) (fun c2 => ?_) (fun c2 => ?_)
  · have c2 : ¬ r1.toInt = 0 := by have h := z_ne c2; rw [show (0 : Int32).toInt = 0 from by decide +kernel] at h; exact h
    refine lv_iconst (v := 1) C.x C.b dX0_suit_17 (by decide +kernel) ?_
    refine lv_goto (tgt := 22) C.x C.b dX0_suit_18 (by decide) ?_
    exact c_retz (ty := .boolean) (hv := rfl) C hsz hsl () (vX0_suit_1  ) hP hS ⟨(Nat.le_of_ble_eq_true rfl), (Nat.le_of_ble_eq_true rfl)⟩ ⟨(Nat.le_of_ble_eq_true rfl), (Nat.le_of_ble_eq_true rfl)⟩ dX0_suit_22
  · have c2 : r1.toInt = 0 := by have h := z_eq c2; rw [show (0 : Int32).toInt = 0 from by decide +kernel] at h; exact h
    refine lv_aload_n C.x C.b dX0_suit_8 rfl (lv_at hl 0 rfl) ?_
    refine lv_aload_n C.x C.b dX0_suit_9 rfl (lv_at hl 1 rfl) ?_
    refine lv_iload_n C.x C.b dX0_suit_10 rfl (lv_at hl 2 rfl) ?_
    refine c_callVi (n := 2) (As := [.ref k0, .int k1]) (rest := []) C hP hS hl.1 (NX0_reach l D cy ad A sz0 sa κ H.size (SLT H) C.f (fun q h => C.a q (Nat.le_trans hS.1 h)) k0 k1 ht0 hPV) ⟨cw_51, cw_54, by decide +kernel⟩ ⟨cw_52, cw_53, cw_34⟩ rfl (hP.recvS (k := 4) (ci := 2) C.K rfl rfl) rfl rfl (lv_room (Nat.le_of_ble_eq_true rfl)) ⟨Nat.le_of_ble_eq_true rfl, Nat.le_of_ble_eq_true rfl⟩ ⟨(Nat.le_of_ble_eq_true rfl), (Nat.le_of_ble_eq_true rfl)⟩ dX0_suit_11 (fun r3 u H locs hr3 hP hS => ?_)
    have hr3 : (0 ≤ r3.toInt ∧ r3.toInt ≤ 1) := hr3
    obtain ⟨hr3_0, hr3_1⟩ := hr3
    refine lv_if_eq (tgt := 21) C.x C.b dX0_suit_14 (by decide) (fun c4 => ?_) (fun c4 => ?_)
    · have c4 : r3.toInt = 0 := by have h := z_eq c4; rw [show (0 : Int32).toInt = 0 from by decide +kernel] at h; exact h
      refine lv_iconst (v := 0) C.x C.b dX0_suit_21 (by decide +kernel) ?_
      exact c_retz (ty := .boolean) (hv := rfl) C hsz hsl () (vX0_suit_2  ) hP hS ⟨(Nat.le_of_ble_eq_true rfl), (Nat.le_of_ble_eq_true rfl)⟩ ⟨(Nat.le_of_ble_eq_true rfl), (Nat.le_of_ble_eq_true rfl)⟩ dX0_suit_22
    · have c4 : ¬ r3.toInt = 0 := by have h := z_ne c4; rw [show (0 : Int32).toInt = 0 from by decide +kernel] at h; exact h
      refine lv_iconst (v := 1) C.x C.b dX0_suit_17 (by decide +kernel) ?_
      refine lv_goto (tgt := 22) C.x C.b dX0_suit_18 (by decide) ?_
      exact c_retz (ty := .boolean) (hv := rfl) C hsz hsl () (vX0_suit_1  ) hP hS ⟨(Nat.le_of_ble_eq_true rfl), (Nat.le_of_ble_eq_true rfl)⟩ ⟨(Nat.le_of_ble_eq_true rfl), (Nat.le_of_ble_eq_true rfl)⟩ dX0_suit_22

set_option maxHeartbeats 4000000 in
set_option maxRecDepth 100000 in
theorem NX0_toBool (l : Launch) (D : va_G) (cy : Nat → ClassId) (ad : Nat → Nat) (A : Nat → Prop) (sz0 : Nat) (sa : Nat → Nat)  (κ : KS) (sz sl : Nat) (hAF : ∀ q, A q → Fr sz0 q) (hAn : ∀ q : Nat, sz ≤ q → A q) (k0 : Nat) (ht0 : oT κ.2.2.2.2 k0 = 1) (hPV : PV sa κ.2.2.2.2) : Met l yX0_toBool (Cond.code yX0_toBool cX0_toBool 2 (some (.object "PhraseDesk$Value")) :: GWc) ({ frames := 3, cells := 1, slots := 5, locals := 66 }) (PcC D cy ad A sz0 sa [.ref k0] κ sz sl) (va_Qq (fun (r : Option Nat) (u : PL) => (EX κ.2.2.2.2 u) ∧ (PV sa u) ∧ (NT u 1 r)) (fun (u : PL) (t : State) => Bx D cy ad A sz sl (tP κ u) (1) (5) t) A) (1) (5) A := by
  refine CM_of (loc0 := [(0, .ref k0)]) (own := RX0) (nm := "toBool") (by decide) rfl rfl rfl (Nat.le_of_ble_eq_true rfl) hAF hAn ?_
  intro p e s m below meth c ls hsz hsl C hP hS hl
  refine lv_aload_n C.x C.b dX0_toBool_0 rfl (lv_at hl 0 rfl) ?_
  obtain ⟨x1, ex1⟩ : ∃ z, oI κ.2.2.2.2 0 k0 = z := ⟨_, rfl⟩
  refine pg_X10_0 (v := x1) C hP (t20 (a := k0) (t := 1) ht0) ex1 cw_55 dX0_toBool_1 ?_
  refine lv_iconst (v := 4) C.x C.b dX0_toBool_4 (by decide +kernel) ?_
  refine lv_icmp_ne (tgt := 43) C.x C.b dX0_toBool_5 (by decide) (fun c2 => ?_) (fun c2 => ?_)
  · have c2 : ¬ x1.toInt = 4 := by have h := z_ne c2; rw [show (4 : Int32).toInt = 4 from by decide +kernel] at h; exact h
    refine lv_aload_n C.x C.b dX0_toBool_43 rfl (lv_at hl 0 rfl) ?_
    obtain ⟨x3, ex3⟩ : ∃ z, oR κ.2.2.2.2 1 k0 = z := ⟨_, rfl⟩
    refine pg_X10_4 (v := x3) C hP (t20 (a := k0) (t := 1) ht0) ex3 cw_56 dX0_toBool_44 ?_
    have tx3 : NT κ.2.2.2.2 6 x3 := by rw [← ex3]; exact (hPV.t1 ht0).2.1
    cases x3 with
    | none =>
      refine lv_ifnullN (tgt := 54) C.x C.b dX0_toBool_47 (by decide) ?_
      refine lv_iconst (v := 0) C.x C.b dX0_toBool_54 (by decide +kernel) ?_
      refine lv_istore_n (lv' := [(1, .int 0), (0, .ref k0)]) C.x C.b dX0_toBool_55 rfl hl (by decide) rfl (fun ls hl => ?_)
      refine lv_iload_n C.x C.b dX0_toBool_56 rfl (lv_at hl 0 rfl) ?_
      refine lv_if_ne (tgt := 76) C.x C.b dX0_toBool_57 (by decide) (fun c5 => absurd (by decide +kernel) c5) (fun _ => ?_)
      refine lv_aload_n C.x C.b dX0_toBool_60 rfl (lv_at hl 1 rfl) ?_
      obtain ⟨x6, ex6⟩ : ∃ z, oI κ.2.2.2.2 1 k0 = z := ⟨_, rfl⟩
      refine pg_X10_1 (v := x6) C hP (t20 (a := k0) (t := 1) ht0) ex6 cw_61 dX0_toBool_61 ?_
      refine lv_if_ne (tgt := 76) C.x C.b dX0_toBool_64 (by decide) (fun c7 => ?_) (fun c7 => ?_)
      · have c7 : ¬ x6.toInt = 0 := by have h := z_ne c7; rw [show (0 : Int32).toInt = 0 from by decide +kernel] at h; exact h
        refine lv_iconst (v := 1) C.x C.b dX0_toBool_76 (by decide +kernel) ?_
        refine lv_goto (tgt := 81) C.x C.b dX0_toBool_77 (by decide) ?_
        refine c_callSq (C2 := "") (b := 0) (n := 1) (As := [.int 1]) (rest := []) C hP hS hl.1 (NX10_ofBool l D cy ad A sz0 sa κ s.heap.size (SLT s.heap) C.f (fun q h => C.a q (Nat.le_trans hS.1 h)) (1 : Int32) hPV) ⟨cw_80, cw_82, by decide +kernel⟩ ⟨cw_81, cw_40⟩ rfl rfl (lv_room (Nat.le_of_ble_eq_true rfl)) ⟨Nat.le_of_ble_eq_true rfl, Nat.le_of_ble_eq_true rfl⟩ ⟨(Nat.le_of_ble_eq_true rfl), (Nat.le_of_ble_eq_true rfl)⟩ dX0_toBool_81 (fun r8 u H locs hr8 hP hS => ?_)
        obtain ⟨P9, rfl⟩ : ∃ z, z = u := ⟨_, rfl⟩
        have hP : CH D cy ad A (tP κ P9) H := hP
        have hr8 : (EX κ.2.2.2.2 P9) ∧ (PV sa P9) ∧ (NN P9 1 r8) := hr8
        obtain ⟨hr8_0, hr8_1, hr8_2⟩ := hr8
        obtain ⟨b10, rfl, tb10⟩ := hr8_2
        exact c_retq (v := (some b10)) (Or.inl ⟨_, rfl⟩) C hsz hsl P9 ⟨hr8_0, hr8_1, (nt_s tb10)⟩ hP hS ⟨(Nat.le_of_ble_eq_true rfl), (Nat.le_of_ble_eq_true rfl)⟩ ⟨(Nat.le_of_ble_eq_true rfl), (Nat.le_of_ble_eq_true rfl)⟩ dX0_toBool_84
      · have c7 : x6.toInt = 0 := by have h := z_eq c7; rw [show (0 : Int32).toInt = 0 from by decide +kernel] at h; exact h
        refine lv_aload_n C.x C.b dX0_toBool_67 rfl (lv_at hl 1 rfl) ?_
        obtain ⟨x11, ex11⟩ : ∃ z, oD κ.2.2.2.2 k0 = z := ⟨_, rfl⟩
        refine pg_X10_2 (v := x11) C hP (t20 (a := k0) (t := 1) ht0) ex11 cw_66 dX0_toBool_68 ?_
        have fx11 : FN x11 := by rw [← ex11]; exact (hPV.t1 ht0).2.2
        refine lv_dconst0 C.x C.b dX0_toBool_71 ?_
        refine lv_dcmp C.x C.b dX0_toBool_72 ?_
        refine lv_topi (fun x12 ex12 => ?_)
        refine lv_if_eq (tgt := 80) C.x C.b dX0_toBool_73 (by decide) (fun c13 => ?_) (fun c13 => ?_)
        · have c13 : x12.toInt = 0 := by have h := z_eq c13; rw [show (0 : Int32).toInt = 0 from by decide +kernel] at h; exact h
          refine lv_iconst (v := 0) C.x C.b dX0_toBool_80 (by decide +kernel) ?_
          refine c_callSq (C2 := "") (b := 0) (n := 1) (As := [.int 0]) (rest := []) C hP hS hl.1 (NX10_ofBool l D cy ad A sz0 sa κ s.heap.size (SLT s.heap) C.f (fun q h => C.a q (Nat.le_trans hS.1 h)) (0 : Int32) hPV) ⟨cw_80, cw_82, by decide +kernel⟩ ⟨cw_81, cw_40⟩ rfl rfl (lv_room (Nat.le_of_ble_eq_true rfl)) ⟨Nat.le_of_ble_eq_true rfl, Nat.le_of_ble_eq_true rfl⟩ ⟨(Nat.le_of_ble_eq_true rfl), (Nat.le_of_ble_eq_true rfl)⟩ dX0_toBool_81 (fun r14 u H locs hr14 hP hS => ?_)
          obtain ⟨P15, rfl⟩ : ∃ z, z = u := ⟨_, rfl⟩
          have hP : CH D cy ad A (tP κ P15) H := hP
          have hr14 : (EX κ.2.2.2.2 P15) ∧ (PV sa P15) ∧ (NN P15 1 r14) := hr14
          obtain ⟨hr14_0, hr14_1, hr14_2⟩ := hr14
          obtain ⟨b16, rfl, tb16⟩ := hr14_2
          exact c_retq (v := (some b16)) (Or.inl ⟨_, rfl⟩) C hsz hsl P15 ⟨hr14_0, hr14_1, (nt_s tb16)⟩ hP hS ⟨(Nat.le_of_ble_eq_true rfl), (Nat.le_of_ble_eq_true rfl)⟩ ⟨(Nat.le_of_ble_eq_true rfl), (Nat.le_of_ble_eq_true rfl)⟩ dX0_toBool_84
        · have c13 : ¬ x12.toInt = 0 := by have h := z_ne c13; rw [show (0 : Int32).toInt = 0 from by decide +kernel] at h; exact h
          refine lv_iconst (v := 1) C.x C.b dX0_toBool_76 (by decide +kernel) ?_
          refine lv_goto (tgt := 81) C.x C.b dX0_toBool_77 (by decide) ?_
          refine c_callSq (C2 := "") (b := 0) (n := 1) (As := [.int 1]) (rest := []) C hP hS hl.1 (NX10_ofBool l D cy ad A sz0 sa κ s.heap.size (SLT s.heap) C.f (fun q h => C.a q (Nat.le_trans hS.1 h)) (1 : Int32) hPV) ⟨cw_80, cw_82, by decide +kernel⟩ ⟨cw_81, cw_40⟩ rfl rfl (lv_room (Nat.le_of_ble_eq_true rfl)) ⟨Nat.le_of_ble_eq_true rfl, Nat.le_of_ble_eq_true rfl⟩ ⟨(Nat.le_of_ble_eq_true rfl), (Nat.le_of_ble_eq_true rfl)⟩ dX0_toBool_81 (fun r17 u H locs hr17 hP hS => ?_)
          obtain ⟨P18, rfl⟩ : ∃ z, z = u := ⟨_, rfl⟩
          have hP : CH D cy ad A (tP κ P18) H := hP
          have hr17 : (EX κ.2.2.2.2 P18) ∧ (PV sa P18) ∧ (NN P18 1 r17) := hr17
          obtain ⟨hr17_0, hr17_1, hr17_2⟩ := hr17
          obtain ⟨b19, rfl, tb19⟩ := hr17_2
          exact c_retq (v := (some b19)) (Or.inl ⟨_, rfl⟩) C hsz hsl P18 ⟨hr17_0, hr17_1, (nt_s tb19)⟩ hP hS ⟨(Nat.le_of_ble_eq_true rfl), (Nat.le_of_ble_eq_true rfl)⟩ ⟨(Nat.le_of_ble_eq_true rfl), (Nat.le_of_ble_eq_true rfl)⟩ dX0_toBool_84
    | some b4 =>
      have hb4 : oT κ.2.2.2.2 b4 = 6 := tx3 b4 rfl
      refine lv_ifnull C.x C.b dX0_toBool_47 ?_
      refine lv_iconst (v := 1) C.x C.b dX0_toBool_50 (by decide +kernel) ?_
      refine lv_goto (tgt := 55) C.x C.b dX0_toBool_51 (by decide) ?_
      refine lv_istore_n (lv' := [(1, .int 1), (0, .ref k0)]) C.x C.b dX0_toBool_55 rfl hl (by decide) rfl (fun ls hl => ?_)
      refine lv_iload_n C.x C.b dX0_toBool_56 rfl (lv_at hl 0 rfl) ?_
      refine lv_if_ne (tgt := 76) C.x C.b dX0_toBool_57 (by decide) (fun _ => ?_) (fun c20 => absurd c20 (by decide +kernel))
      refine lv_iconst (v := 1) C.x C.b dX0_toBool_76 (by decide +kernel) ?_
      refine lv_goto (tgt := 81) C.x C.b dX0_toBool_77 (by decide) ?_
      refine c_callSq (C2 := "") (b := 0) (n := 1) (As := [.int 1]) (rest := []) C hP hS hl.1 (NX10_ofBool l D cy ad A sz0 sa κ s.heap.size (SLT s.heap) C.f (fun q h => C.a q (Nat.le_trans hS.1 h)) (1 : Int32) hPV) ⟨cw_80, cw_82, by decide +kernel⟩ ⟨cw_81, cw_40⟩ rfl rfl (lv_room (Nat.le_of_ble_eq_true rfl)) ⟨Nat.le_of_ble_eq_true rfl, Nat.le_of_ble_eq_true rfl⟩ ⟨(Nat.le_of_ble_eq_true rfl), (Nat.le_of_ble_eq_true rfl)⟩ dX0_toBool_81 (fun r21 u H locs hr21 hP hS => ?_)
      obtain ⟨P22, rfl⟩ : ∃ z, z = u := ⟨_, rfl⟩
      have hP : CH D cy ad A (tP κ P22) H := hP
      have hr21 : (EX κ.2.2.2.2 P22) ∧ (PV sa P22) ∧ (NN P22 1 r21) := hr21
      obtain ⟨hr21_0, hr21_1, hr21_2⟩ := hr21
      obtain ⟨b23, rfl, tb23⟩ := hr21_2
      exact c_retq (v := (some b23)) (Or.inl ⟨_, rfl⟩) C hsz hsl P22 ⟨hr21_0, hr21_1, (nt_s tb23)⟩ hP hS ⟨(Nat.le_of_ble_eq_true rfl), (Nat.le_of_ble_eq_true rfl)⟩ ⟨(Nat.le_of_ble_eq_true rfl), (Nat.le_of_ble_eq_true rfl)⟩ dX0_toBool_84
  · have c2 : x1.toInt = 4 := by have h := z_eq c2; rw [show (4 : Int32).toInt = 4 from by decide +kernel] at h; exact h
    refine lv_aload_n C.x C.b dX0_toBool_8 rfl (lv_at hl 0 rfl) ?_
    obtain ⟨x24, ex24, hx24⟩ := (hPV.t1 ht0).1
    refine pg_X10_3 (v := some x24) C hP (t20 (a := k0) (t := 1) ht0) ex24 cw_65 dX0_toBool_9 ?_
    refine va_ldcS C.x C.b C.o C.t.1 dX0_toBool_12 ?_
    refine c_callVi (n := 1) (As := [.ref (sa 400)]) (rest := []) C hP hS hl.1 (NJ0_equals_9ea2d l D cy ad A sz0 sa κ s.heap.size (SLT s.heap) C.f (fun q h => C.a q (Nat.le_trans hS.1 h)) x24 (sa 400) hx24 (SOK.any (P := κ.2.2.2.2) (sa := sa) (c := (sa 400)) (by unfold KC; simp)) hPV) ⟨cw_67, cw_71, by decide +kernel⟩ ⟨cw_68, cw_69, cw_70⟩ rfl (c_srecv C hP hS hx24) rfl rfl (lv_room (Nat.le_of_ble_eq_true rfl)) ⟨Nat.le_of_ble_eq_true rfl, Nat.le_of_ble_eq_true rfl⟩ ⟨(Nat.le_of_ble_eq_true rfl), (Nat.le_of_ble_eq_true rfl)⟩ dX0_toBool_14 (fun r25 u H locs hr25 hP hS => ?_)
    have hr25 : (0 ≤ r25.toInt ∧ r25.toInt ≤ 1) := hr25
    obtain ⟨hr25_0, hr25_1⟩ := hr25
    refine lv_istore_n (lv' := [(1, .int r25), (0, .ref k0)]) C.x C.b dX0_toBool_17 rfl hl (by decide) rfl (fun ls hl => ?_)
    refine lv_iload_n C.x C.b dX0_toBool_18 rfl (lv_at hl 0 rfl) ?_
    refine lv_if_ne (tgt := 34) C.x C.b dX0_toBool_19 (by decide) (fun c26 => ?_) (fun c26 => ?_)
    · have c26 : ¬ r25.toInt = 0 := by have h := z_ne c26; rw [show (0 : Int32).toInt = 0 from by decide +kernel] at h; exact h
      refine lv_iload_n C.x C.b dX0_toBool_34 rfl (lv_at hl 0 rfl) ?_
      refine c_callSq (C2 := "") (b := 0) (n := 1) (As := [.int r25]) (rest := []) C hP hS hl.1 (NX10_ofBool l D cy ad A sz0 sa κ H.size (SLT H) C.f (fun q h => C.a q (Nat.le_trans hS.1 h)) r25 hPV) ⟨cw_80, cw_82, by decide +kernel⟩ ⟨cw_81, cw_40⟩ rfl rfl (lv_room (Nat.le_of_ble_eq_true rfl)) ⟨Nat.le_of_ble_eq_true rfl, Nat.le_of_ble_eq_true rfl⟩ ⟨(Nat.le_of_ble_eq_true rfl), (Nat.le_of_ble_eq_true rfl)⟩ dX0_toBool_35 (fun r27 u H locs hr27 hP hS => ?_)
      obtain ⟨P28, rfl⟩ : ∃ z, z = u := ⟨_, rfl⟩
      have hP : CH D cy ad A (tP κ P28) H := hP
      have hr27 : (EX κ.2.2.2.2 P28) ∧ (PV sa P28) ∧ (NN P28 1 r27) := hr27
      obtain ⟨hr27_0, hr27_1, hr27_2⟩ := hr27
      obtain ⟨b29, rfl, tb29⟩ := hr27_2
      refine lv_goto (tgt := 42) C.x C.b dX0_toBool_38 (by decide) ?_
      exact c_retq (v := (some b29)) (Or.inl ⟨_, rfl⟩) C hsz hsl P28 ⟨hr27_0, hr27_1, (nt_s tb29)⟩ hP hS ⟨(Nat.le_of_ble_eq_true rfl), (Nat.le_of_ble_eq_true rfl)⟩ ⟨(Nat.le_of_ble_eq_true rfl), (Nat.le_of_ble_eq_true rfl)⟩ dX0_toBool_42
    · have c26 : r25.toInt = 0 := by have h := z_eq c26; rw [show (0 : Int32).toInt = 0 from by decide +kernel] at h; exact h
      refine lv_aload_n C.x C.b dX0_toBool_22 rfl (lv_at hl 1 rfl) ?_
      refine pg_X10_3 (v := (some x24)) C hP (t20 (a := k0) (t := 1) ht0) ex24 cw_65 dX0_toBool_23 ?_
      refine va_ldcS C.x C.b C.o C.t.2.1 dX0_toBool_26 ?_
      refine c_callVi (n := 1) (As := [.ref (sa 401)]) (rest := []) C hP hS hl.1 (NJ0_equals_9ea2d l D cy ad A sz0 sa κ H.size (SLT H) C.f (fun q h => C.a q (Nat.le_trans hS.1 h)) x24 (sa 401) hx24 (SOK.any (P := κ.2.2.2.2) (sa := sa) (c := (sa 401)) (by unfold KC; simp)) hPV) ⟨cw_67, cw_71, by decide +kernel⟩ ⟨cw_68, cw_69, cw_70⟩ rfl (c_srecv C hP hS hx24) rfl rfl (lv_room (Nat.le_of_ble_eq_true rfl)) ⟨Nat.le_of_ble_eq_true rfl, Nat.le_of_ble_eq_true rfl⟩ ⟨(Nat.le_of_ble_eq_true rfl), (Nat.le_of_ble_eq_true rfl)⟩ dX0_toBool_28 (fun r30 u H locs hr30 hP hS => ?_)
      have hr30 : (0 ≤ r30.toInt ∧ r30.toInt ≤ 1) := hr30
      obtain ⟨hr30_0, hr30_1⟩ := hr30
      refine lv_if_eq (tgt := 41) C.x C.b dX0_toBool_31 (by decide) (fun c31 => ?_) (fun c31 => ?_)
      · have c31 : r30.toInt = 0 := by have h := z_eq c31; rw [show (0 : Int32).toInt = 0 from by decide +kernel] at h; exact h
        refine lv_null C.x C.b dX0_toBool_41 ?_
        have hP : CH D cy ad A (tP κ κ.2.2.2.2) H := CH.cong hP rfl rfl rfl rfl rfl rfl rfl rfl rfl rfl rfl rfl rfl rfl rfl rfl rfl rfl rfl rfl rfl rfl rfl rfl rfl rfl rfl
        exact c_retq (v := none) (Or.inl ⟨_, rfl⟩) C hsz hsl κ.2.2.2.2 ⟨EX.rf, hPV, nt_n⟩ hP hS ⟨(Nat.le_of_ble_eq_true rfl), (Nat.le_of_ble_eq_true rfl)⟩ ⟨(Nat.le_of_ble_eq_true rfl), (Nat.le_of_ble_eq_true rfl)⟩ dX0_toBool_42
      · have c31 : ¬ r30.toInt = 0 := by have h := z_ne c31; rw [show (0 : Int32).toInt = 0 from by decide +kernel] at h; exact h
        refine lv_iload_n C.x C.b dX0_toBool_34 rfl (lv_at hl 0 rfl) ?_
        refine c_callSq (C2 := "") (b := 0) (n := 1) (As := [.int r25]) (rest := []) C hP hS hl.1 (NX10_ofBool l D cy ad A sz0 sa κ H.size (SLT H) C.f (fun q h => C.a q (Nat.le_trans hS.1 h)) r25 hPV) ⟨cw_80, cw_82, by decide +kernel⟩ ⟨cw_81, cw_40⟩ rfl rfl (lv_room (Nat.le_of_ble_eq_true rfl)) ⟨Nat.le_of_ble_eq_true rfl, Nat.le_of_ble_eq_true rfl⟩ ⟨(Nat.le_of_ble_eq_true rfl), (Nat.le_of_ble_eq_true rfl)⟩ dX0_toBool_35 (fun r32 u H locs hr32 hP hS => ?_)
        obtain ⟨P33, rfl⟩ : ∃ z, z = u := ⟨_, rfl⟩
        have hP : CH D cy ad A (tP κ P33) H := hP
        have hr32 : (EX κ.2.2.2.2 P33) ∧ (PV sa P33) ∧ (NN P33 1 r32) := hr32
        obtain ⟨hr32_0, hr32_1, hr32_2⟩ := hr32
        obtain ⟨b34, rfl, tb34⟩ := hr32_2
        refine lv_goto (tgt := 42) C.x C.b dX0_toBool_38 (by decide) ?_
        exact c_retq (v := (some b34)) (Or.inl ⟨_, rfl⟩) C hsz hsl P33 ⟨hr32_0, hr32_1, (nt_s tb34)⟩ hP hS ⟨(Nat.le_of_ble_eq_true rfl), (Nat.le_of_ble_eq_true rfl)⟩ ⟨(Nat.le_of_ble_eq_true rfl), (Nat.le_of_ble_eq_true rfl)⟩ dX0_toBool_42

-- nw@60 @60
theorem vX0_toInt_1 (n4 : Nat) (r5 : Int32) (x8 : Int32) (len4 : n4 ≤ 40) (hr5 : r5.toInt = ((n4 : Nat) : Int)) (c6 : r5.toInt ≤ 0) (ex8 : x8 = r5 - (0 : Int32)) : x8.toInt = r5.toInt - 0 := by
  have q0 : (0 : Int32).toInt = 0 := by decide +kernel
  have w1 : (0 : Int32).toInt = 0 := by decide +kernel
  rw [ex8, z_sub (by omega) (by omega)]; first | done | omega
-- nw@68 @68
theorem vX0_toInt_2 (n4 : Nat) (r5 : Int32) (x8 : Int32) (x10 : Int32) (len4 : n4 ≤ 40) (hr5 : r5.toInt = ((n4 : Nat) : Int)) (c6 : r5.toInt ≤ 0) (ex8 : x8 = r5 - (0 : Int32)) (tx8 : x8.toInt = r5.toInt - 0) (c9 : 1 ≤ x8.toInt) (ex10 : x10 = r5 - (0 : Int32)) : x10.toInt = r5.toInt - 0 := by
  have q0 : (0 : Int32).toInt = 0 := by decide +kernel
  have w1 : (0 : Int32).toInt = 0 := by decide +kernel
  rw [ex10, z_sub (by omega) (by omega)]; first | done | omega
-- init@83 @83
theorem vX0_toInt_3   : 0 ≤ (0 : Int32).toInt := by
  have q0 : (0 : Int32).toInt = 0 := by decide +kernel
  first | assumption | omega | (subst_vars; omega) | trivial
-- pre:J0_charAt_5068e@92 @92
theorem vX0_toInt_4 (n4 : Nat) (r5 : Int32) (x8 : Int32) (x10 : Int32) (y13 : Int32) (len4 : n4 ≤ 40) (hr5 : r5.toInt = ((n4 : Nat) : Int)) (c6 : r5.toInt ≤ 0) (ex8 : x8 = r5 - (0 : Int32)) (tx8 : x8.toInt = r5.toInt - 0) (c9 : 1 ≤ x8.toInt) (ex10 : x10 = r5 - (0 : Int32)) (tx10 : x10.toInt = r5.toInt - 0) (c11 : x10.toInt ≤ 9) (hi83 : 0 ≤ y13.toInt) (c14 : y13.toInt < r5.toInt) : 0 ≤ y13.toInt ∧ y13.toInt < ((n4 : Nat) : Int) := by
  have q0 : (0 : Int32).toInt = 0 := by decide +kernel
  refine ⟨?_, ?_⟩ <;> first | assumption | omega | (subst_vars; omega) | trivial
-- nw@126 @126
theorem vX0_toInt_5 (n4 : Nat) (r5 : Int32) (x8 : Int32) (x10 : Int32) (y13 : Int32) (x25 : Int32) (len4 : n4 ≤ 40) (hr5 : r5.toInt = ((n4 : Nat) : Int)) (c6 : r5.toInt ≤ 0) (ex8 : x8 = r5 - (0 : Int32)) (tx8 : x8.toInt = r5.toInt - 0) (c9 : 1 ≤ x8.toInt) (ex10 : x10 = r5 - (0 : Int32)) (tx10 : x10.toInt = r5.toInt - 0) (c11 : x10.toInt ≤ 9) (hi83 : 0 ≤ y13.toInt) (c14 : y13.toInt < r5.toInt) (ex25 : x25 = y13 + (1 : Int32)) : x25.toInt = y13.toInt + 1 := by
  have q0 : (0 : Int32).toInt = 0 := by decide +kernel
  have q1 : (1 : Int32).toInt = 1 := by decide +kernel
  have z9 : (1 : Int32).toInt = 1 := by decide +kernel
  rw [ex25, z_add (by omega) (by omega)]; first | done | omega
-- inv@83 @83
theorem vX0_toInt_6 (n4 : Nat) (r5 : Int32) (x8 : Int32) (x10 : Int32) (y13 : Int32) (x25 : Int32) (len4 : n4 ≤ 40) (hr5 : r5.toInt = ((n4 : Nat) : Int)) (c6 : r5.toInt ≤ 0) (ex8 : x8 = r5 - (0 : Int32)) (tx8 : x8.toInt = r5.toInt - 0) (c9 : 1 ≤ x8.toInt) (ex10 : x10 = r5 - (0 : Int32)) (tx10 : x10.toInt = r5.toInt - 0) (c11 : x10.toInt ≤ 9) (hi83 : 0 ≤ y13.toInt) (c14 : y13.toInt < r5.toInt) (ex25 : x25 = y13 + (1 : Int32)) (tx25 : x25.toInt = y13.toInt + 1) : 0 ≤ x25.toInt := by
  have q0 : (0 : Int32).toInt = 0 := by decide +kernel
  have q1 : (1 : Int32).toInt = 1 := by decide +kernel
  first | assumption | omega | (subst_vars; omega) | trivial
-- meas@83 @83
theorem vX0_toInt_7 (n4 : Nat) (r5 : Int32) (x8 : Int32) (x10 : Int32) (y13 : Int32) (x25 : Int32) (len4 : n4 ≤ 40) (hr5 : r5.toInt = ((n4 : Nat) : Int)) (c6 : r5.toInt ≤ 0) (ex8 : x8 = r5 - (0 : Int32)) (tx8 : x8.toInt = r5.toInt - 0) (c9 : 1 ≤ x8.toInt) (ex10 : x10 = r5 - (0 : Int32)) (tx10 : x10.toInt = r5.toInt - 0) (c11 : x10.toInt ≤ 9) (hi83 : 0 ≤ y13.toInt) (c14 : y13.toInt < r5.toInt) (ex25 : x25 = y13 + (1 : Int32)) (tx25 : x25.toInt = y13.toInt + 1) : (r5.toInt - x25.toInt).toNat < (r5.toInt - y13.toInt).toNat := by
  have q0 : (0 : Int32).toInt = 0 := by decide +kernel
  have q1 : (1 : Int32).toInt = 1 := by decide +kernel
  first | assumption | omega | (subst_vars; omega) | trivial
-- pre:J0_charAt_5068e@32 @32
theorem vX0_toInt_8 (n4 : Nat) (r5 : Int32) (len4 : n4 ≤ 40) (hr5 : r5.toInt = ((n4 : Nat) : Int)) (c6 : 0 < r5.toInt) : 0 ≤ (0 : Int32).toInt ∧ (0 : Int32).toInt < ((n4 : Nat) : Int) := by
  have q0 : (0 : Int32).toInt = 0 := by decide +kernel
  refine ⟨?_, ?_⟩ <;> first | assumption | omega | (subst_vars; omega) | trivial
-- nw@60 @60
theorem vX0_toInt_9 (n4 : Nat) (r5 : Int32) (x29 : Int32) (len4 : n4 ≤ 40) (hr5 : r5.toInt = ((n4 : Nat) : Int)) (c6 : 0 < r5.toInt) (ex29 : x29 = r5 - (0 : Int32)) : x29.toInt = r5.toInt - 0 := by
  have q0 : (0 : Int32).toInt = 0 := by decide +kernel
  have w1 : (0 : Int32).toInt = 0 := by decide +kernel
  rw [ex29, z_sub (by omega) (by omega)]; first | done | omega
-- nw@68 @68
theorem vX0_toInt_10 (n4 : Nat) (r5 : Int32) (x29 : Int32) (x31 : Int32) (len4 : n4 ≤ 40) (hr5 : r5.toInt = ((n4 : Nat) : Int)) (c6 : 0 < r5.toInt) (ex29 : x29 = r5 - (0 : Int32)) (tx29 : x29.toInt = r5.toInt - 0) (c30 : 1 ≤ x29.toInt) (ex31 : x31 = r5 - (0 : Int32)) : x31.toInt = r5.toInt - 0 := by
  have q0 : (0 : Int32).toInt = 0 := by decide +kernel
  have w1 : (0 : Int32).toInt = 0 := by decide +kernel
  rw [ex31, z_sub (by omega) (by omega)]; first | done | omega
-- pre:J0_charAt_5068e@92 @92
theorem vX0_toInt_11 (n4 : Nat) (r5 : Int32) (x29 : Int32) (x31 : Int32) (y34 : Int32) (len4 : n4 ≤ 40) (hr5 : r5.toInt = ((n4 : Nat) : Int)) (c6 : 0 < r5.toInt) (ex29 : x29 = r5 - (0 : Int32)) (tx29 : x29.toInt = r5.toInt - 0) (c30 : 1 ≤ x29.toInt) (ex31 : x31 = r5 - (0 : Int32)) (tx31 : x31.toInt = r5.toInt - 0) (c32 : x31.toInt ≤ 9) (hi83 : 0 ≤ y34.toInt) (c35 : y34.toInt < r5.toInt) : 0 ≤ y34.toInt ∧ y34.toInt < ((n4 : Nat) : Int) := by
  have q0 : (0 : Int32).toInt = 0 := by decide +kernel
  refine ⟨?_, ?_⟩ <;> first | assumption | omega | (subst_vars; omega) | trivial
-- nw@126 @126
theorem vX0_toInt_12 (n4 : Nat) (r5 : Int32) (x29 : Int32) (x31 : Int32) (y34 : Int32) (x46 : Int32) (len4 : n4 ≤ 40) (hr5 : r5.toInt = ((n4 : Nat) : Int)) (c6 : 0 < r5.toInt) (ex29 : x29 = r5 - (0 : Int32)) (tx29 : x29.toInt = r5.toInt - 0) (c30 : 1 ≤ x29.toInt) (ex31 : x31 = r5 - (0 : Int32)) (tx31 : x31.toInt = r5.toInt - 0) (c32 : x31.toInt ≤ 9) (hi83 : 0 ≤ y34.toInt) (c35 : y34.toInt < r5.toInt) (ex46 : x46 = y34 + (1 : Int32)) : x46.toInt = y34.toInt + 1 := by
  have q0 : (0 : Int32).toInt = 0 := by decide +kernel
  have q1 : (1 : Int32).toInt = 1 := by decide +kernel
  have z9 : (1 : Int32).toInt = 1 := by decide +kernel
  rw [ex46, z_add (by omega) (by omega)]; first | done | omega
-- inv@83 @83
theorem vX0_toInt_13 (n4 : Nat) (r5 : Int32) (x29 : Int32) (x31 : Int32) (y34 : Int32) (x46 : Int32) (len4 : n4 ≤ 40) (hr5 : r5.toInt = ((n4 : Nat) : Int)) (c6 : 0 < r5.toInt) (ex29 : x29 = r5 - (0 : Int32)) (tx29 : x29.toInt = r5.toInt - 0) (c30 : 1 ≤ x29.toInt) (ex31 : x31 = r5 - (0 : Int32)) (tx31 : x31.toInt = r5.toInt - 0) (c32 : x31.toInt ≤ 9) (hi83 : 0 ≤ y34.toInt) (c35 : y34.toInt < r5.toInt) (ex46 : x46 = y34 + (1 : Int32)) (tx46 : x46.toInt = y34.toInt + 1) : 0 ≤ x46.toInt := by
  have q0 : (0 : Int32).toInt = 0 := by decide +kernel
  have q1 : (1 : Int32).toInt = 1 := by decide +kernel
  first | assumption | omega | (subst_vars; omega) | trivial
-- meas@83 @83
theorem vX0_toInt_14 (n4 : Nat) (r5 : Int32) (x29 : Int32) (x31 : Int32) (y34 : Int32) (x46 : Int32) (len4 : n4 ≤ 40) (hr5 : r5.toInt = ((n4 : Nat) : Int)) (c6 : 0 < r5.toInt) (ex29 : x29 = r5 - (0 : Int32)) (tx29 : x29.toInt = r5.toInt - 0) (c30 : 1 ≤ x29.toInt) (ex31 : x31 = r5 - (0 : Int32)) (tx31 : x31.toInt = r5.toInt - 0) (c32 : x31.toInt ≤ 9) (hi83 : 0 ≤ y34.toInt) (c35 : y34.toInt < r5.toInt) (ex46 : x46 = y34 + (1 : Int32)) (tx46 : x46.toInt = y34.toInt + 1) : (r5.toInt - x46.toInt).toNat < (r5.toInt - y34.toInt).toNat := by
  have q0 : (0 : Int32).toInt = 0 := by decide +kernel
  have q1 : (1 : Int32).toInt = 1 := by decide +kernel
  first | assumption | omega | (subst_vars; omega) | trivial
-- nw@60 @60
theorem vX0_toInt_15 (n4 : Nat) (r5 : Int32) (x48 : Int32) (len4 : n4 ≤ 40) (hr5 : r5.toInt = ((n4 : Nat) : Int)) (c6 : 0 < r5.toInt) (ex48 : x48 = r5 - (1 : Int32)) : x48.toInt = r5.toInt - 1 := by
  have q1 : (1 : Int32).toInt = 1 := by decide +kernel
  have w1 : (1 : Int32).toInt = 1 := by decide +kernel
  rw [ex48, z_sub (by omega) (by omega)]; first | done | omega
-- nw@68 @68
theorem vX0_toInt_16 (n4 : Nat) (r5 : Int32) (x48 : Int32) (x50 : Int32) (len4 : n4 ≤ 40) (hr5 : r5.toInt = ((n4 : Nat) : Int)) (c6 : 0 < r5.toInt) (ex48 : x48 = r5 - (1 : Int32)) (tx48 : x48.toInt = r5.toInt - 1) (c49 : 1 ≤ x48.toInt) (ex50 : x50 = r5 - (1 : Int32)) : x50.toInt = r5.toInt - 1 := by
  have q1 : (1 : Int32).toInt = 1 := by decide +kernel
  have w1 : (1 : Int32).toInt = 1 := by decide +kernel
  rw [ex50, z_sub (by omega) (by omega)]; first | done | omega
-- init@83 @83
theorem vX0_toInt_17   : 0 ≤ (1 : Int32).toInt := by
  have q1 : (1 : Int32).toInt = 1 := by decide +kernel
  first | assumption | omega | (subst_vars; omega) | trivial
-- pre:J0_charAt_5068e@92 @92
theorem vX0_toInt_18 (n4 : Nat) (r5 : Int32) (x48 : Int32) (x50 : Int32) (y53 : Int32) (len4 : n4 ≤ 40) (hr5 : r5.toInt = ((n4 : Nat) : Int)) (c6 : 0 < r5.toInt) (ex48 : x48 = r5 - (1 : Int32)) (tx48 : x48.toInt = r5.toInt - 1) (c49 : 1 ≤ x48.toInt) (ex50 : x50 = r5 - (1 : Int32)) (tx50 : x50.toInt = r5.toInt - 1) (c51 : x50.toInt ≤ 9) (hi83 : 0 ≤ y53.toInt) (c54 : y53.toInt < r5.toInt) : 0 ≤ y53.toInt ∧ y53.toInt < ((n4 : Nat) : Int) := by
  have q1 : (1 : Int32).toInt = 1 := by decide +kernel
  refine ⟨?_, ?_⟩ <;> first | assumption | omega | (subst_vars; omega) | trivial
-- nw@126 @126
theorem vX0_toInt_19 (n4 : Nat) (r5 : Int32) (x48 : Int32) (x50 : Int32) (y53 : Int32) (x66 : Int32) (len4 : n4 ≤ 40) (hr5 : r5.toInt = ((n4 : Nat) : Int)) (c6 : 0 < r5.toInt) (ex48 : x48 = r5 - (1 : Int32)) (tx48 : x48.toInt = r5.toInt - 1) (c49 : 1 ≤ x48.toInt) (ex50 : x50 = r5 - (1 : Int32)) (tx50 : x50.toInt = r5.toInt - 1) (c51 : x50.toInt ≤ 9) (hi83 : 0 ≤ y53.toInt) (c54 : y53.toInt < r5.toInt) (ex66 : x66 = y53 + (1 : Int32)) : x66.toInt = y53.toInt + 1 := by
  have q1 : (1 : Int32).toInt = 1 := by decide +kernel
  have z9 : (1 : Int32).toInt = 1 := by decide +kernel
  rw [ex66, z_add (by omega) (by omega)]; first | done | omega
-- inv@83 @83
theorem vX0_toInt_20 (n4 : Nat) (r5 : Int32) (x48 : Int32) (x50 : Int32) (y53 : Int32) (x66 : Int32) (len4 : n4 ≤ 40) (hr5 : r5.toInt = ((n4 : Nat) : Int)) (c6 : 0 < r5.toInt) (ex48 : x48 = r5 - (1 : Int32)) (tx48 : x48.toInt = r5.toInt - 1) (c49 : 1 ≤ x48.toInt) (ex50 : x50 = r5 - (1 : Int32)) (tx50 : x50.toInt = r5.toInt - 1) (c51 : x50.toInt ≤ 9) (hi83 : 0 ≤ y53.toInt) (c54 : y53.toInt < r5.toInt) (ex66 : x66 = y53 + (1 : Int32)) (tx66 : x66.toInt = y53.toInt + 1) : 0 ≤ x66.toInt := by
  have q1 : (1 : Int32).toInt = 1 := by decide +kernel
  first | assumption | omega | (subst_vars; omega) | trivial
-- meas@83 @83
theorem vX0_toInt_21 (n4 : Nat) (r5 : Int32) (x48 : Int32) (x50 : Int32) (y53 : Int32) (x66 : Int32) (len4 : n4 ≤ 40) (hr5 : r5.toInt = ((n4 : Nat) : Int)) (c6 : 0 < r5.toInt) (ex48 : x48 = r5 - (1 : Int32)) (tx48 : x48.toInt = r5.toInt - 1) (c49 : 1 ≤ x48.toInt) (ex50 : x50 = r5 - (1 : Int32)) (tx50 : x50.toInt = r5.toInt - 1) (c51 : x50.toInt ≤ 9) (hi83 : 0 ≤ y53.toInt) (c54 : y53.toInt < r5.toInt) (ex66 : x66 = y53 + (1 : Int32)) (tx66 : x66.toInt = y53.toInt + 1) : (r5.toInt - x66.toInt).toNat < (r5.toInt - y53.toInt).toNat := by
  have q1 : (1 : Int32).toInt = 1 := by decide +kernel
  first | assumption | omega | (subst_vars; omega) | trivial
set_option maxHeartbeats 4000000 in
set_option maxRecDepth 100000 in
theorem NX0_toInt (l : Launch) (D : va_G) (cy : Nat → ClassId) (ad : Nat → Nat) (A : Nat → Prop) (sz0 : Nat) (sa : Nat → Nat)  (κ : KS) (sz sl : Nat) (hAF : ∀ q, A q → Fr sz0 q) (hAn : ∀ q : Nat, sz ≤ q → A q) (k0 : Nat) (ht0 : oT κ.2.2.2.2 k0 = 1) (hPV : PV sa κ.2.2.2.2) : Met l yX0_toInt (Cond.code yX0_toInt cX0_toInt 8 (some (.object "PhraseDesk$Value")) :: GWc) ({ frames := 4, cells := 1, slots := 5, locals := 85 }) (PcC D cy ad A sz0 sa [.ref k0] κ sz sl) (va_Qq (fun (r : Option Nat) (u : PL) => (EX κ.2.2.2.2 u) ∧ (PV sa u) ∧ (NT u 1 r)) (fun (u : PL) (t : State) => Bx D cy ad A sz sl (tP κ u) (1) (5) t) A) (1) (5) A := by
  refine CM_of (loc0 := [(0, .ref k0)]) (own := RX0) (nm := "toInt") (by decide) rfl rfl rfl (Nat.le_of_ble_eq_true rfl) hAF hAn ?_
  intro p e s m below meth c ls hsz hsl C hP hS hl
  refine lv_aload_n C.x C.b dX0_toInt_0 rfl (lv_at hl 0 rfl) ?_
  obtain ⟨x1, ex1⟩ : ∃ z, oI κ.2.2.2.2 0 k0 = z := ⟨_, rfl⟩
  refine pg_X10_0 (v := x1) C hP (t20 (a := k0) (t := 1) ht0) ex1 cw_55 dX0_toInt_1 ?_
  refine lv_iconst (v := 4) C.x C.b dX0_toInt_4 (by decide +kernel) ?_
  refine lv_icmp_eq (tgt := 16) C.x C.b dX0_toInt_5 (by decide) (fun c2 => ?_) (fun c2 => ?_)
  · have c2 : x1.toInt = 4 := by have h := z_eq c2; rw [show (4 : Int32).toInt = 4 from by decide +kernel] at h; exact h
    refine lv_aload_n C.x C.b dX0_toInt_16 rfl (lv_at hl 0 rfl) ?_
    obtain ⟨x3, ex3, hx3⟩ := (hPV.t1 ht0).1
    refine pg_X10_3 (v := some x3) C hP (t20 (a := k0) (t := 1) ht0) ex3 cw_65 dX0_toInt_17 ?_
    refine lv_astore_n (lv' := [(1, .ref x3), (0, .ref k0)]) C.x C.b dX0_toInt_20 rfl hl (by decide) rfl (fun ls hl => ?_)
    refine lv_aload_n C.x C.b dX0_toInt_21 rfl (lv_at hl 0 rfl) ?_
    obtain ⟨n4, sln4, len4⟩ := hx3.sl hPV C
    refine c_callVi (n := 0) (As := []) (rest := []) C hP hS hl.1 (NJ0_length_8abf5 l D cy ad A sz0 sa κ s.heap.size (SLT s.heap) C.f (fun q h => C.a q (Nat.le_trans hS.1 h)) x3 n4 sln4 hPV) ⟨cw_98, cw_101, by decide +kernel⟩ ⟨cw_99, cw_100, cw_70⟩ rfl (c_srecv C hP hS hx3) rfl rfl (lv_room (Nat.le_of_ble_eq_true rfl)) ⟨Nat.le_of_ble_eq_true rfl, Nat.le_of_ble_eq_true rfl⟩ ⟨(Nat.le_of_ble_eq_true rfl), (Nat.le_of_ble_eq_true rfl)⟩ dX0_toInt_22 (fun r5 u H locs hr5 hP hS => ?_)
    have hr5 : (r5.toInt = ((n4 : Nat) : Int)) := hr5
    refine lv_istore_n (lv' := [(2, .int r5), (1, .ref x3), (0, .ref k0)]) C.x C.b dX0_toInt_25 rfl hl (by decide) rfl (fun ls hl => ?_)
    refine lv_iload_n C.x C.b dX0_toInt_26 rfl (lv_at hl 0 rfl) ?_
    refine lv_if_le (tgt := 44) C.x C.b dX0_toInt_27 (by decide) (fun c6 => ?_) (fun c6 => ?_)
    · have c6 : r5.toInt ≤ 0 := by have h := z_le c6; rw [show (0 : Int32).toInt = 0 from by decide +kernel] at h; exact h
      refine lv_iconst (v := 0) C.x C.b dX0_toInt_44 (by decide +kernel) ?_
      refine lv_istore_n (lv' := [(3, .int 0), (2, .int r5), (1, .ref x3), (0, .ref k0)]) C.x C.b dX0_toInt_45 rfl hl (by decide) rfl (fun ls hl => ?_)
      refine lv_iload_n C.x C.b dX0_toInt_46 rfl (lv_at hl 0 rfl) ?_
      refine lv_if_eq (tgt := 54) C.x C.b dX0_toInt_47 (by decide) (fun _ => ?_) (fun c7 => absurd (by decide +kernel) c7)
      refine lv_iconst (v := 0) C.x C.b dX0_toInt_54 (by decide +kernel) ?_
      refine lv_istore (lv' := [(4, .int 0), (3, .int 0), (2, .int r5), (1, .ref x3), (0, .ref k0)]) C.x C.b dX0_toInt_55 hl (by decide) rfl (fun ls hl => ?_)
      refine lv_iload_n C.x C.b dX0_toInt_57 rfl (lv_at hl 2 rfl) ?_
      refine lv_iload C.x C.b dX0_toInt_58 (lv_at hl 0 rfl) ?_
      refine lv_isub C.x C.b dX0_toInt_60 ?_
      refine lv_topi (fun x8 ex8 => ?_)
      have tx8 : x8.toInt = r5.toInt - 0 := (vX0_toInt_1 n4 r5 x8 len4 hr5 c6 ex8)
      refine lv_iconst (v := 1) C.x C.b dX0_toInt_61 (by decide +kernel) ?_
      refine lv_icmp_lt (tgt := 74) C.x C.b dX0_toInt_62 (by decide) (fun c9 => ?_) (fun c9 => ?_)
      · have c9 : x8.toInt < 1 := by have h := z_lt c9; rw [show (1 : Int32).toInt = 1 from by decide +kernel] at h; exact h
        refine lv_null C.x C.b dX0_toInt_74 ?_
        have hP : CH D cy ad A (tP κ κ.2.2.2.2) H := CH.cong hP rfl rfl rfl rfl rfl rfl rfl rfl rfl rfl rfl rfl rfl rfl rfl rfl rfl rfl rfl rfl rfl rfl rfl rfl rfl rfl rfl
        exact c_retq (v := none) (Or.inl ⟨_, rfl⟩) C hsz hsl κ.2.2.2.2 ⟨EX.rf, hPV, nt_n⟩ hP hS ⟨(Nat.le_of_ble_eq_true rfl), (Nat.le_of_ble_eq_true rfl)⟩ ⟨(Nat.le_of_ble_eq_true rfl), (Nat.le_of_ble_eq_true rfl)⟩ dX0_toInt_75
      · have c9 : 1 ≤ x8.toInt := by have h := z_nlt c9; rw [show (1 : Int32).toInt = 1 from by decide +kernel] at h; exact h
        refine lv_iload_n C.x C.b dX0_toInt_65 rfl (lv_at hl 2 rfl) ?_
        refine lv_iload C.x C.b dX0_toInt_66 (lv_at hl 0 rfl) ?_
        refine lv_isub C.x C.b dX0_toInt_68 ?_
        refine lv_topi (fun x10 ex10 => ?_)
        have tx10 : x10.toInt = r5.toInt - 0 := (vX0_toInt_2 n4 r5 x8 x10 len4 hr5 c6 ex8 tx8 c9 ex10)
        refine lv_bipush (v := 9) C.x C.b dX0_toInt_69 (by decide +kernel) ?_
        refine lv_icmp_le (tgt := 76) C.x C.b dX0_toInt_71 (by decide) (fun c11 => ?_) (fun c11 => ?_)
        · have c11 : x10.toInt ≤ 9 := by have h := z_le c11; rw [show (9 : Int32).toInt = 9 from by decide +kernel] at h; exact h
          refine lv_iconst (v := 0) C.x C.b dX0_toInt_76 (by decide +kernel) ?_
          refine lv_istore (lv' := [(5, .int 0), (4, .int 0), (3, .int 0), (2, .int r5), (1, .ref x3), (0, .ref k0)]) C.x C.b dX0_toInt_77 hl (by decide) rfl (fun ls hl => ?_)
          refine lv_iload C.x C.b dX0_toInt_79 (lv_at hl 1 rfl) ?_
          refine lv_istore (lv' := [(6, .int 0), (5, .int 0), (4, .int 0), (3, .int 0), (2, .int r5), (1, .ref x3), (0, .ref k0)]) C.x C.b dX0_toInt_81 hl (by decide) rfl (fun ls hl => ?_)
          have lp83 : ∀ (n : Nat) (y12 : Int32) (y13 : Int32) (H : Heap) (locs : List Loc) (ls : Array Slot), (r5.toInt - y13.toInt).toNat < n → (0 ≤ y13.toInt) → CH D cy ad A κ H → va_S A s.heap H locs → lv_has ls 8 [(6, .int y13), (5, .int y12), (4, .int 0), (3, .int 0), (2, .int r5), (1, .ref x3), (0, .ref k0)] → W p l e (headSpec (Cond.code yX0_toInt cX0_toInt 8 (some (.object "PhraseDesk$Value")) :: GWc) ({ frames := 4, cells := 1, slots := 5, locals := 85 })).room s m #[.ref k0] below meth c H locs (0 + 0) (0 + 0) (MQ below (va_Qq (fun (r : Option Nat) (u : PL) => (EX κ.2.2.2.2 u) ∧ (PV sa u) ∧ (NT u 1 r)) (fun (u : PL) (t : State) => Bx D cy ad A sz sl (tP κ u) (1) (5) t) A) #[.ref k0] s (1) (5) A) (F0 m 83 ls []) := by
            intro n
            induction n with
            | zero => intro y12 y13 H locs ls hn; exact absurd hn (Nat.not_lt_zero _)
            | succ n83 ih83 =>
              intro y12 y13 H locs ls hn83  hi83 hP hS hl
              refine lv_iload C.x C.b dX0_toInt_83 (lv_at hl 0 rfl) ?_
              refine lv_iload_n C.x C.b dX0_toInt_85 rfl (lv_at hl 4 rfl) ?_
              refine lv_icmp_ge (tgt := 132) C.x C.b dX0_toInt_86 (by decide) (fun c14 => ?_) (fun c14 => ?_)
              · have c14 : r5.toInt ≤ y13.toInt := by have h := z_le c14; exact h
                refine lv_iload_n C.x C.b dX0_toInt_132 rfl (lv_at hl 3 rfl) ?_
                refine lv_if_eq (tgt := 142) C.x C.b dX0_toInt_133 (by decide) (fun _ => ?_) (fun c15 => absurd (by decide +kernel) c15)
                refine lv_iload C.x C.b dX0_toInt_142 (lv_at hl 1 rfl) ?_
                refine c_callSq (C2 := "") (b := 0) (n := 1) (As := [.int y12]) (rest := []) C hP hS hl.1 (NX10_ofInt l D cy ad A sz0 sa κ H.size (SLT H) C.f (fun q h => C.a q (Nat.le_trans hS.1 h)) y12 hPV) ⟨cw_95, cw_97, by decide +kernel⟩ ⟨cw_96, cw_40⟩ rfl rfl (lv_room (Nat.le_of_ble_eq_true rfl)) ⟨Nat.le_of_ble_eq_true rfl, Nat.le_of_ble_eq_true rfl⟩ ⟨(Nat.le_of_ble_eq_true rfl), (Nat.le_of_ble_eq_true rfl)⟩ dX0_toInt_144 (fun r16 u H locs hr16 hP hS => ?_)
                obtain ⟨P17, rfl⟩ : ∃ z, z = u := ⟨_, rfl⟩
                have hP : CH D cy ad A (tP κ P17) H := hP
                have hr16 : (EX κ.2.2.2.2 P17) ∧ (PV sa P17) ∧ (NN P17 1 r16) := hr16
                obtain ⟨hr16_0, hr16_1, hr16_2⟩ := hr16
                obtain ⟨b18, rfl, tb18⟩ := hr16_2
                exact c_retq (v := (some b18)) (Or.inl ⟨_, rfl⟩) C hsz hsl P17 ⟨hr16_0, hr16_1, (nt_s tb18)⟩ hP hS ⟨(Nat.le_of_ble_eq_true rfl), (Nat.le_of_ble_eq_true rfl)⟩ ⟨(Nat.le_of_ble_eq_true rfl), (Nat.le_of_ble_eq_true rfl)⟩ dX0_toInt_147
              · have c14 : y13.toInt < r5.toInt := by have h := z_nle c14; exact h
                refine lv_aload_n C.x C.b dX0_toInt_89 rfl (lv_at hl 5 rfl) ?_
                refine lv_iload C.x C.b dX0_toInt_90 (lv_at hl 0 rfl) ?_
                refine c_callVi (n := 1) (As := [.int y13]) (rest := []) C hP hS hl.1 (NJ0_charAt_5068e l D cy ad A sz0 sa κ H.size (SLT H) C.f (fun q h => C.a q (Nat.le_trans hS.1 h)) x3 n4 y13 sln4 hPV (vX0_toInt_4 n4 r5 x8 x10 y13 len4 hr5 c6 ex8 tx8 c9 ex10 tx10 c11 hi83 c14)) ⟨cw_106, cw_109, by decide +kernel⟩ ⟨cw_107, cw_108, cw_70⟩ rfl (c_srecv C hP hS hx3) rfl rfl (lv_room (Nat.le_of_ble_eq_true rfl)) ⟨Nat.le_of_ble_eq_true rfl, Nat.le_of_ble_eq_true rfl⟩ ⟨(Nat.le_of_ble_eq_true rfl), (Nat.le_of_ble_eq_true rfl)⟩ dX0_toInt_92 (fun r19 u H locs hr19 hP hS => ?_)
                have hr19 : (0 ≤ r19.toInt ∧ r19.toInt ≤ 65535) := hr19
                obtain ⟨hr19_0, hr19_1⟩ := hr19
                refine lv_istore (lv' := [(7, .int r19), (6, .int y13), (5, .int y12), (4, .int 0), (3, .int 0), (2, .int r5), (1, .ref x3), (0, .ref k0)]) C.x C.b dX0_toInt_95 hl (by decide) rfl (fun ls hl => ?_)
                refine lv_iload C.x C.b dX0_toInt_97 (lv_at hl 0 rfl) ?_
                refine lv_bipush (v := 48) C.x C.b dX0_toInt_99 (by decide +kernel) ?_
                refine lv_icmp_lt (tgt := 111) C.x C.b dX0_toInt_101 (by decide) (fun c20 => ?_) (fun c20 => ?_)
                · have c20 : r19.toInt < 48 := by have h := z_lt c20; rw [show (48 : Int32).toInt = 48 from by decide +kernel] at h; exact h
                  refine lv_null C.x C.b dX0_toInt_111 ?_
                  have hP : CH D cy ad A (tP κ κ.2.2.2.2) H := CH.cong hP rfl rfl rfl rfl rfl rfl rfl rfl rfl rfl rfl rfl rfl rfl rfl rfl rfl rfl rfl rfl rfl rfl rfl rfl rfl rfl rfl
                  exact c_retq (v := none) (Or.inl ⟨_, rfl⟩) C hsz hsl κ.2.2.2.2 ⟨EX.rf, hPV, nt_n⟩ hP hS ⟨(Nat.le_of_ble_eq_true rfl), (Nat.le_of_ble_eq_true rfl)⟩ ⟨(Nat.le_of_ble_eq_true rfl), (Nat.le_of_ble_eq_true rfl)⟩ dX0_toInt_112
                · have c20 : 48 ≤ r19.toInt := by have h := z_nlt c20; rw [show (48 : Int32).toInt = 48 from by decide +kernel] at h; exact h
                  refine lv_iload C.x C.b dX0_toInt_104 (lv_at hl 0 rfl) ?_
                  refine lv_bipush (v := 57) C.x C.b dX0_toInt_106 (by decide +kernel) ?_
                  refine lv_icmp_le (tgt := 113) C.x C.b dX0_toInt_108 (by decide) (fun c21 => ?_) (fun c21 => ?_)
                  · have c21 : r19.toInt ≤ 57 := by have h := z_le c21; rw [show (57 : Int32).toInt = 57 from by decide +kernel] at h; exact h
                    refine lv_iload C.x C.b dX0_toInt_113 (lv_at hl 2 rfl) ?_
                    refine lv_bipush (v := 10) C.x C.b dX0_toInt_115 (by decide +kernel) ?_
                    refine lv_imul C.x C.b dX0_toInt_117 ?_
                    refine lv_topi (fun x22 ex22 => ?_)
                    refine lv_iload C.x C.b dX0_toInt_118 (lv_at hl 0 rfl) ?_
                    refine lv_bipush (v := 48) C.x C.b dX0_toInt_120 (by decide +kernel) ?_
                    refine lv_isub C.x C.b dX0_toInt_122 ?_
                    refine lv_topi (fun x23 ex23 => ?_)
                    refine lv_iadd C.x C.b dX0_toInt_123 ?_
                    refine lv_topi (fun x24 ex24 => ?_)
                    refine lv_istore (lv' := [(5, .int x24), (7, .int r19), (6, .int y13), (4, .int 0), (3, .int 0), (2, .int r5), (1, .ref x3), (0, .ref k0)]) C.x C.b dX0_toInt_124 hl (by decide) rfl (fun ls hl => ?_)
                    obtain ⟨x25, ex25⟩ : ∃ y : Int32, y = y13 + (1 : Int32) := ⟨_, rfl⟩
                    have tx25 : x25.toInt = y13.toInt + 1 := (vX0_toInt_5 n4 r5 x8 x10 y13 x25 len4 hr5 c6 ex8 tx8 c9 ex10 tx10 c11 hi83 c14 ex25)
                    refine lv_iinc (v := x25) (lv' := [(6, .int x25), (5, .int x24), (7, .int r19), (4, .int 0), (3, .int 0), (2, .int r5), (1, .ref x3), (0, .ref k0)]) C.x C.b dX0_toInt_126 hl (k := 2) rfl (by rw [ex25]; rfl) (by decide) rfl (fun ls hl => ?_)
                    refine lv_goto (tgt := 83) C.x C.b dX0_toInt_129 (by decide) ?_
                    refine W.widen (k := 0 + 0) (n := 0 + 0) (Nat.le_of_ble_eq_true rfl) (Nat.le_of_ble_eq_true rfl) ?_
                    exact ih83 x24 x25 _ _ _ (Nat.lt_of_lt_of_le (vX0_toInt_7 n4 r5 x8 x10 y13 x25 len4 hr5 c6 ex8 tx8 c9 ex10 tx10 c11 hi83 c14 ex25 tx25) (Nat.le_of_lt_succ hn83))  (vX0_toInt_6 n4 r5 x8 x10 y13 x25 len4 hr5 c6 ex8 tx8 c9 ex10 tx10 c11 hi83 c14 ex25 tx25) hP hS (lv_sub hl [0, 1, 3, 4, 5, 6, 7] rfl)
                  · have c21 : 57 < r19.toInt := by have h := z_nle c21; rw [show (57 : Int32).toInt = 57 from by decide +kernel] at h; exact h
                    refine lv_null C.x C.b dX0_toInt_111 ?_
                    have hP : CH D cy ad A (tP κ κ.2.2.2.2) H := CH.cong hP rfl rfl rfl rfl rfl rfl rfl rfl rfl rfl rfl rfl rfl rfl rfl rfl rfl rfl rfl rfl rfl rfl rfl rfl rfl rfl rfl
                    exact c_retq (v := none) (Or.inl ⟨_, rfl⟩) C hsz hsl κ.2.2.2.2 ⟨EX.rf, hPV, nt_n⟩ hP hS ⟨(Nat.le_of_ble_eq_true rfl), (Nat.le_of_ble_eq_true rfl)⟩ ⟨(Nat.le_of_ble_eq_true rfl), (Nat.le_of_ble_eq_true rfl)⟩ dX0_toInt_112
          refine W.widen (k := 0 + 0) (n := 0 + 0) (Nat.le_of_ble_eq_true rfl) (Nat.le_of_ble_eq_true rfl) ?_
          exact lp83 ((r5.toInt - (0 : Int32).toInt).toNat + 1) (0 : Int32) (0 : Int32) _ _ _ (Nat.lt_succ_self _)  (vX0_toInt_3  ) hP hS (lv_sub hl [0, 1, 2, 3, 4, 5, 6] rfl)
        · have c11 : 9 < x10.toInt := by have h := z_nle c11; rw [show (9 : Int32).toInt = 9 from by decide +kernel] at h; exact h
          refine lv_null C.x C.b dX0_toInt_74 ?_
          have hP : CH D cy ad A (tP κ κ.2.2.2.2) H := CH.cong hP rfl rfl rfl rfl rfl rfl rfl rfl rfl rfl rfl rfl rfl rfl rfl rfl rfl rfl rfl rfl rfl rfl rfl rfl rfl rfl rfl
          exact c_retq (v := none) (Or.inl ⟨_, rfl⟩) C hsz hsl κ.2.2.2.2 ⟨EX.rf, hPV, nt_n⟩ hP hS ⟨(Nat.le_of_ble_eq_true rfl), (Nat.le_of_ble_eq_true rfl)⟩ ⟨(Nat.le_of_ble_eq_true rfl), (Nat.le_of_ble_eq_true rfl)⟩ dX0_toInt_75
    · have c6 : 0 < r5.toInt := by have h := z_nle c6; rw [show (0 : Int32).toInt = 0 from by decide +kernel] at h; exact h
      refine lv_aload_n C.x C.b dX0_toInt_30 rfl (lv_at hl 1 rfl) ?_
      refine lv_iconst (v := 0) C.x C.b dX0_toInt_31 (by decide +kernel) ?_
      refine c_callVi (n := 1) (As := [.int 0]) (rest := []) C hP hS hl.1 (NJ0_charAt_5068e l D cy ad A sz0 sa κ H.size (SLT H) C.f (fun q h => C.a q (Nat.le_trans hS.1 h)) x3 n4 (0 : Int32) sln4 hPV (vX0_toInt_8 n4 r5 len4 hr5 c6)) ⟨cw_106, cw_109, by decide +kernel⟩ ⟨cw_107, cw_108, cw_70⟩ rfl (c_srecv C hP hS hx3) rfl rfl (lv_room (Nat.le_of_ble_eq_true rfl)) ⟨Nat.le_of_ble_eq_true rfl, Nat.le_of_ble_eq_true rfl⟩ ⟨(Nat.le_of_ble_eq_true rfl), (Nat.le_of_ble_eq_true rfl)⟩ dX0_toInt_32 (fun r26 u H locs hr26 hP hS => ?_)
      have hr26 : (0 ≤ r26.toInt ∧ r26.toInt ≤ 65535) := hr26
      obtain ⟨hr26_0, hr26_1⟩ := hr26
      refine lv_bipush (v := 45) C.x C.b dX0_toInt_35 (by decide +kernel) ?_
      refine lv_icmp_ne (tgt := 44) C.x C.b dX0_toInt_37 (by decide) (fun c27 => ?_) (fun c27 => ?_)
      · have c27 : ¬ r26.toInt = 45 := by have h := z_ne c27; rw [show (45 : Int32).toInt = 45 from by decide +kernel] at h; exact h
        refine lv_iconst (v := 0) C.x C.b dX0_toInt_44 (by decide +kernel) ?_
        refine lv_istore_n (lv' := [(3, .int 0), (2, .int r5), (1, .ref x3), (0, .ref k0)]) C.x C.b dX0_toInt_45 rfl hl (by decide) rfl (fun ls hl => ?_)
        refine lv_iload_n C.x C.b dX0_toInt_46 rfl (lv_at hl 0 rfl) ?_
        refine lv_if_eq (tgt := 54) C.x C.b dX0_toInt_47 (by decide) (fun _ => ?_) (fun c28 => absurd (by decide +kernel) c28)
        refine lv_iconst (v := 0) C.x C.b dX0_toInt_54 (by decide +kernel) ?_
        refine lv_istore (lv' := [(4, .int 0), (3, .int 0), (2, .int r5), (1, .ref x3), (0, .ref k0)]) C.x C.b dX0_toInt_55 hl (by decide) rfl (fun ls hl => ?_)
        refine lv_iload_n C.x C.b dX0_toInt_57 rfl (lv_at hl 2 rfl) ?_
        refine lv_iload C.x C.b dX0_toInt_58 (lv_at hl 0 rfl) ?_
        refine lv_isub C.x C.b dX0_toInt_60 ?_
        refine lv_topi (fun x29 ex29 => ?_)
        have tx29 : x29.toInt = r5.toInt - 0 := (vX0_toInt_9 n4 r5 x29 len4 hr5 c6 ex29)
        refine lv_iconst (v := 1) C.x C.b dX0_toInt_61 (by decide +kernel) ?_
        refine lv_icmp_lt (tgt := 74) C.x C.b dX0_toInt_62 (by decide) (fun c30 => ?_) (fun c30 => ?_)
        · have c30 : x29.toInt < 1 := by have h := z_lt c30; rw [show (1 : Int32).toInt = 1 from by decide +kernel] at h; exact h
          refine lv_null C.x C.b dX0_toInt_74 ?_
          have hP : CH D cy ad A (tP κ κ.2.2.2.2) H := CH.cong hP rfl rfl rfl rfl rfl rfl rfl rfl rfl rfl rfl rfl rfl rfl rfl rfl rfl rfl rfl rfl rfl rfl rfl rfl rfl rfl rfl
          exact c_retq (v := none) (Or.inl ⟨_, rfl⟩) C hsz hsl κ.2.2.2.2 ⟨EX.rf, hPV, nt_n⟩ hP hS ⟨(Nat.le_of_ble_eq_true rfl), (Nat.le_of_ble_eq_true rfl)⟩ ⟨(Nat.le_of_ble_eq_true rfl), (Nat.le_of_ble_eq_true rfl)⟩ dX0_toInt_75
        · have c30 : 1 ≤ x29.toInt := by have h := z_nlt c30; rw [show (1 : Int32).toInt = 1 from by decide +kernel] at h; exact h
          refine lv_iload_n C.x C.b dX0_toInt_65 rfl (lv_at hl 2 rfl) ?_
          refine lv_iload C.x C.b dX0_toInt_66 (lv_at hl 0 rfl) ?_
          refine lv_isub C.x C.b dX0_toInt_68 ?_
          refine lv_topi (fun x31 ex31 => ?_)
          have tx31 : x31.toInt = r5.toInt - 0 := (vX0_toInt_10 n4 r5 x29 x31 len4 hr5 c6 ex29 tx29 c30 ex31)
          refine lv_bipush (v := 9) C.x C.b dX0_toInt_69 (by decide +kernel) ?_
          refine lv_icmp_le (tgt := 76) C.x C.b dX0_toInt_71 (by decide) (fun c32 => ?_) (fun c32 => ?_)
          · have c32 : x31.toInt ≤ 9 := by have h := z_le c32; rw [show (9 : Int32).toInt = 9 from by decide +kernel] at h; exact h
            refine lv_iconst (v := 0) C.x C.b dX0_toInt_76 (by decide +kernel) ?_
            refine lv_istore (lv' := [(5, .int 0), (4, .int 0), (3, .int 0), (2, .int r5), (1, .ref x3), (0, .ref k0)]) C.x C.b dX0_toInt_77 hl (by decide) rfl (fun ls hl => ?_)
            refine lv_iload C.x C.b dX0_toInt_79 (lv_at hl 1 rfl) ?_
            refine lv_istore (lv' := [(6, .int 0), (5, .int 0), (4, .int 0), (3, .int 0), (2, .int r5), (1, .ref x3), (0, .ref k0)]) C.x C.b dX0_toInt_81 hl (by decide) rfl (fun ls hl => ?_)
            have lp83 : ∀ (n : Nat) (y33 : Int32) (y34 : Int32) (H : Heap) (locs : List Loc) (ls : Array Slot), (r5.toInt - y34.toInt).toNat < n → (0 ≤ y34.toInt) → CH D cy ad A κ H → va_S A s.heap H locs → lv_has ls 8 [(6, .int y34), (5, .int y33), (4, .int 0), (3, .int 0), (2, .int r5), (1, .ref x3), (0, .ref k0)] → W p l e (headSpec (Cond.code yX0_toInt cX0_toInt 8 (some (.object "PhraseDesk$Value")) :: GWc) ({ frames := 4, cells := 1, slots := 5, locals := 85 })).room s m #[.ref k0] below meth c H locs (0 + 0 + 0) (0 + 0 + 0) (MQ below (va_Qq (fun (r : Option Nat) (u : PL) => (EX κ.2.2.2.2 u) ∧ (PV sa u) ∧ (NT u 1 r)) (fun (u : PL) (t : State) => Bx D cy ad A sz sl (tP κ u) (1) (5) t) A) #[.ref k0] s (1) (5) A) (F0 m 83 ls []) := by
              intro n
              induction n with
              | zero => intro y33 y34 H locs ls hn; exact absurd hn (Nat.not_lt_zero _)
              | succ n83 ih83 =>
                intro y33 y34 H locs ls hn83  hi83 hP hS hl
                refine lv_iload C.x C.b dX0_toInt_83 (lv_at hl 0 rfl) ?_
                refine lv_iload_n C.x C.b dX0_toInt_85 rfl (lv_at hl 4 rfl) ?_
                refine lv_icmp_ge (tgt := 132) C.x C.b dX0_toInt_86 (by decide) (fun c35 => ?_) (fun c35 => ?_)
                · have c35 : r5.toInt ≤ y34.toInt := by have h := z_le c35; exact h
                  refine lv_iload_n C.x C.b dX0_toInt_132 rfl (lv_at hl 3 rfl) ?_
                  refine lv_if_eq (tgt := 142) C.x C.b dX0_toInt_133 (by decide) (fun _ => ?_) (fun c36 => absurd (by decide +kernel) c36)
                  refine lv_iload C.x C.b dX0_toInt_142 (lv_at hl 1 rfl) ?_
                  refine c_callSq (C2 := "") (b := 0) (n := 1) (As := [.int y33]) (rest := []) C hP hS hl.1 (NX10_ofInt l D cy ad A sz0 sa κ H.size (SLT H) C.f (fun q h => C.a q (Nat.le_trans hS.1 h)) y33 hPV) ⟨cw_95, cw_97, by decide +kernel⟩ ⟨cw_96, cw_40⟩ rfl rfl (lv_room (Nat.le_of_ble_eq_true rfl)) ⟨Nat.le_of_ble_eq_true rfl, Nat.le_of_ble_eq_true rfl⟩ ⟨(Nat.le_of_ble_eq_true rfl), (Nat.le_of_ble_eq_true rfl)⟩ dX0_toInt_144 (fun r37 u H locs hr37 hP hS => ?_)
                  obtain ⟨P38, rfl⟩ : ∃ z, z = u := ⟨_, rfl⟩
                  have hP : CH D cy ad A (tP κ P38) H := hP
                  have hr37 : (EX κ.2.2.2.2 P38) ∧ (PV sa P38) ∧ (NN P38 1 r37) := hr37
                  obtain ⟨hr37_0, hr37_1, hr37_2⟩ := hr37
                  obtain ⟨b39, rfl, tb39⟩ := hr37_2
                  exact c_retq (v := (some b39)) (Or.inl ⟨_, rfl⟩) C hsz hsl P38 ⟨hr37_0, hr37_1, (nt_s tb39)⟩ hP hS ⟨(Nat.le_of_ble_eq_true rfl), (Nat.le_of_ble_eq_true rfl)⟩ ⟨(Nat.le_of_ble_eq_true rfl), (Nat.le_of_ble_eq_true rfl)⟩ dX0_toInt_147
                · have c35 : y34.toInt < r5.toInt := by have h := z_nle c35; exact h
                  refine lv_aload_n C.x C.b dX0_toInt_89 rfl (lv_at hl 5 rfl) ?_
                  refine lv_iload C.x C.b dX0_toInt_90 (lv_at hl 0 rfl) ?_
                  refine c_callVi (n := 1) (As := [.int y34]) (rest := []) C hP hS hl.1 (NJ0_charAt_5068e l D cy ad A sz0 sa κ H.size (SLT H) C.f (fun q h => C.a q (Nat.le_trans hS.1 h)) x3 n4 y34 sln4 hPV (vX0_toInt_11 n4 r5 x29 x31 y34 len4 hr5 c6 ex29 tx29 c30 ex31 tx31 c32 hi83 c35)) ⟨cw_106, cw_109, by decide +kernel⟩ ⟨cw_107, cw_108, cw_70⟩ rfl (c_srecv C hP hS hx3) rfl rfl (lv_room (Nat.le_of_ble_eq_true rfl)) ⟨Nat.le_of_ble_eq_true rfl, Nat.le_of_ble_eq_true rfl⟩ ⟨(Nat.le_of_ble_eq_true rfl), (Nat.le_of_ble_eq_true rfl)⟩ dX0_toInt_92 (fun r40 u H locs hr40 hP hS => ?_)
                  have hr40 : (0 ≤ r40.toInt ∧ r40.toInt ≤ 65535) := hr40
                  obtain ⟨hr40_0, hr40_1⟩ := hr40
                  refine lv_istore (lv' := [(7, .int r40), (6, .int y34), (5, .int y33), (4, .int 0), (3, .int 0), (2, .int r5), (1, .ref x3), (0, .ref k0)]) C.x C.b dX0_toInt_95 hl (by decide) rfl (fun ls hl => ?_)
                  refine lv_iload C.x C.b dX0_toInt_97 (lv_at hl 0 rfl) ?_
                  refine lv_bipush (v := 48) C.x C.b dX0_toInt_99 (by decide +kernel) ?_
                  refine lv_icmp_lt (tgt := 111) C.x C.b dX0_toInt_101 (by decide) (fun c41 => ?_) (fun c41 => ?_)
                  · have c41 : r40.toInt < 48 := by have h := z_lt c41; rw [show (48 : Int32).toInt = 48 from by decide +kernel] at h; exact h
                    refine lv_null C.x C.b dX0_toInt_111 ?_
                    have hP : CH D cy ad A (tP κ κ.2.2.2.2) H := CH.cong hP rfl rfl rfl rfl rfl rfl rfl rfl rfl rfl rfl rfl rfl rfl rfl rfl rfl rfl rfl rfl rfl rfl rfl rfl rfl rfl rfl
                    exact c_retq (v := none) (Or.inl ⟨_, rfl⟩) C hsz hsl κ.2.2.2.2 ⟨EX.rf, hPV, nt_n⟩ hP hS ⟨(Nat.le_of_ble_eq_true rfl), (Nat.le_of_ble_eq_true rfl)⟩ ⟨(Nat.le_of_ble_eq_true rfl), (Nat.le_of_ble_eq_true rfl)⟩ dX0_toInt_112
                  · have c41 : 48 ≤ r40.toInt := by have h := z_nlt c41; rw [show (48 : Int32).toInt = 48 from by decide +kernel] at h; exact h
                    refine lv_iload C.x C.b dX0_toInt_104 (lv_at hl 0 rfl) ?_
                    refine lv_bipush (v := 57) C.x C.b dX0_toInt_106 (by decide +kernel) ?_
                    refine lv_icmp_le (tgt := 113) C.x C.b dX0_toInt_108 (by decide) (fun c42 => ?_) (fun c42 => ?_)
                    · have c42 : r40.toInt ≤ 57 := by have h := z_le c42; rw [show (57 : Int32).toInt = 57 from by decide +kernel] at h; exact h
                      refine lv_iload C.x C.b dX0_toInt_113 (lv_at hl 2 rfl) ?_
                      refine lv_bipush (v := 10) C.x C.b dX0_toInt_115 (by decide +kernel) ?_
                      refine lv_imul C.x C.b dX0_toInt_117 ?_
                      refine lv_topi (fun x43 ex43 => ?_)
                      refine lv_iload C.x C.b dX0_toInt_118 (lv_at hl 0 rfl) ?_
                      refine lv_bipush (v := 48) C.x C.b dX0_toInt_120 (by decide +kernel) ?_
                      refine lv_isub C.x C.b dX0_toInt_122 ?_
                      refine lv_topi (fun x44 ex44 => ?_)
                      refine lv_iadd C.x C.b dX0_toInt_123 ?_
                      refine lv_topi (fun x45 ex45 => ?_)
                      refine lv_istore (lv' := [(5, .int x45), (7, .int r40), (6, .int y34), (4, .int 0), (3, .int 0), (2, .int r5), (1, .ref x3), (0, .ref k0)]) C.x C.b dX0_toInt_124 hl (by decide) rfl (fun ls hl => ?_)
                      obtain ⟨x46, ex46⟩ : ∃ y : Int32, y = y34 + (1 : Int32) := ⟨_, rfl⟩
                      have tx46 : x46.toInt = y34.toInt + 1 := (vX0_toInt_12 n4 r5 x29 x31 y34 x46 len4 hr5 c6 ex29 tx29 c30 ex31 tx31 c32 hi83 c35 ex46)
                      refine lv_iinc (v := x46) (lv' := [(6, .int x46), (5, .int x45), (7, .int r40), (4, .int 0), (3, .int 0), (2, .int r5), (1, .ref x3), (0, .ref k0)]) C.x C.b dX0_toInt_126 hl (k := 2) rfl (by rw [ex46]; rfl) (by decide) rfl (fun ls hl => ?_)
                      refine lv_goto (tgt := 83) C.x C.b dX0_toInt_129 (by decide) ?_
                      refine W.widen (k := 0 + 0 + 0) (n := 0 + 0 + 0) (Nat.le_of_ble_eq_true rfl) (Nat.le_of_ble_eq_true rfl) ?_
                      exact ih83 x45 x46 _ _ _ (Nat.lt_of_lt_of_le (vX0_toInt_14 n4 r5 x29 x31 y34 x46 len4 hr5 c6 ex29 tx29 c30 ex31 tx31 c32 hi83 c35 ex46 tx46) (Nat.le_of_lt_succ hn83))  (vX0_toInt_13 n4 r5 x29 x31 y34 x46 len4 hr5 c6 ex29 tx29 c30 ex31 tx31 c32 hi83 c35 ex46 tx46) hP hS (lv_sub hl [0, 1, 3, 4, 5, 6, 7] rfl)
                    · have c42 : 57 < r40.toInt := by have h := z_nle c42; rw [show (57 : Int32).toInt = 57 from by decide +kernel] at h; exact h
                      refine lv_null C.x C.b dX0_toInt_111 ?_
                      have hP : CH D cy ad A (tP κ κ.2.2.2.2) H := CH.cong hP rfl rfl rfl rfl rfl rfl rfl rfl rfl rfl rfl rfl rfl rfl rfl rfl rfl rfl rfl rfl rfl rfl rfl rfl rfl rfl rfl
                      exact c_retq (v := none) (Or.inl ⟨_, rfl⟩) C hsz hsl κ.2.2.2.2 ⟨EX.rf, hPV, nt_n⟩ hP hS ⟨(Nat.le_of_ble_eq_true rfl), (Nat.le_of_ble_eq_true rfl)⟩ ⟨(Nat.le_of_ble_eq_true rfl), (Nat.le_of_ble_eq_true rfl)⟩ dX0_toInt_112
            refine W.widen (k := 0 + 0 + 0) (n := 0 + 0 + 0) (Nat.le_of_ble_eq_true rfl) (Nat.le_of_ble_eq_true rfl) ?_
            exact lp83 ((r5.toInt - (0 : Int32).toInt).toNat + 1) (0 : Int32) (0 : Int32) _ _ _ (Nat.lt_succ_self _)  (vX0_toInt_3  ) hP hS (lv_sub hl [0, 1, 2, 3, 4, 5, 6] rfl)
          · have c32 : 9 < x31.toInt := by have h := z_nle c32; rw [show (9 : Int32).toInt = 9 from by decide +kernel] at h; exact h
            refine lv_null C.x C.b dX0_toInt_74 ?_
            have hP : CH D cy ad A (tP κ κ.2.2.2.2) H := CH.cong hP rfl rfl rfl rfl rfl rfl rfl rfl rfl rfl rfl rfl rfl rfl rfl rfl rfl rfl rfl rfl rfl rfl rfl rfl rfl rfl rfl
            exact c_retq (v := none) (Or.inl ⟨_, rfl⟩) C hsz hsl κ.2.2.2.2 ⟨EX.rf, hPV, nt_n⟩ hP hS ⟨(Nat.le_of_ble_eq_true rfl), (Nat.le_of_ble_eq_true rfl)⟩ ⟨(Nat.le_of_ble_eq_true rfl), (Nat.le_of_ble_eq_true rfl)⟩ dX0_toInt_75
      · have c27 : r26.toInt = 45 := by have h := z_eq c27; rw [show (45 : Int32).toInt = 45 from by decide +kernel] at h; exact h
        refine lv_iconst (v := 1) C.x C.b dX0_toInt_40 (by decide +kernel) ?_
        refine lv_goto (tgt := 45) C.x C.b dX0_toInt_41 (by decide) ?_
        refine lv_istore_n (lv' := [(3, .int 1), (2, .int r5), (1, .ref x3), (0, .ref k0)]) C.x C.b dX0_toInt_45 rfl hl (by decide) rfl (fun ls hl => ?_)
        refine lv_iload_n C.x C.b dX0_toInt_46 rfl (lv_at hl 0 rfl) ?_
        refine lv_if_eq (tgt := 54) C.x C.b dX0_toInt_47 (by decide) (fun c47 => absurd c47 (by decide +kernel)) (fun _ => ?_)
        refine lv_iconst (v := 1) C.x C.b dX0_toInt_50 (by decide +kernel) ?_
        refine lv_goto (tgt := 55) C.x C.b dX0_toInt_51 (by decide) ?_
        refine lv_istore (lv' := [(4, .int 1), (3, .int 1), (2, .int r5), (1, .ref x3), (0, .ref k0)]) C.x C.b dX0_toInt_55 hl (by decide) rfl (fun ls hl => ?_)
        refine lv_iload_n C.x C.b dX0_toInt_57 rfl (lv_at hl 2 rfl) ?_
        refine lv_iload C.x C.b dX0_toInt_58 (lv_at hl 0 rfl) ?_
        refine lv_isub C.x C.b dX0_toInt_60 ?_
        refine lv_topi (fun x48 ex48 => ?_)
        have tx48 : x48.toInt = r5.toInt - 1 := (vX0_toInt_15 n4 r5 x48 len4 hr5 c6 ex48)
        refine lv_iconst (v := 1) C.x C.b dX0_toInt_61 (by decide +kernel) ?_
        refine lv_icmp_lt (tgt := 74) C.x C.b dX0_toInt_62 (by decide) (fun c49 => ?_) (fun c49 => ?_)
        · have c49 : x48.toInt < 1 := by have h := z_lt c49; rw [show (1 : Int32).toInt = 1 from by decide +kernel] at h; exact h
          refine lv_null C.x C.b dX0_toInt_74 ?_
          have hP : CH D cy ad A (tP κ κ.2.2.2.2) H := CH.cong hP rfl rfl rfl rfl rfl rfl rfl rfl rfl rfl rfl rfl rfl rfl rfl rfl rfl rfl rfl rfl rfl rfl rfl rfl rfl rfl rfl
          exact c_retq (v := none) (Or.inl ⟨_, rfl⟩) C hsz hsl κ.2.2.2.2 ⟨EX.rf, hPV, nt_n⟩ hP hS ⟨(Nat.le_of_ble_eq_true rfl), (Nat.le_of_ble_eq_true rfl)⟩ ⟨(Nat.le_of_ble_eq_true rfl), (Nat.le_of_ble_eq_true rfl)⟩ dX0_toInt_75
        · have c49 : 1 ≤ x48.toInt := by have h := z_nlt c49; rw [show (1 : Int32).toInt = 1 from by decide +kernel] at h; exact h
          refine lv_iload_n C.x C.b dX0_toInt_65 rfl (lv_at hl 2 rfl) ?_
          refine lv_iload C.x C.b dX0_toInt_66 (lv_at hl 0 rfl) ?_
          refine lv_isub C.x C.b dX0_toInt_68 ?_
          refine lv_topi (fun x50 ex50 => ?_)
          have tx50 : x50.toInt = r5.toInt - 1 := (vX0_toInt_16 n4 r5 x48 x50 len4 hr5 c6 ex48 tx48 c49 ex50)
          refine lv_bipush (v := 9) C.x C.b dX0_toInt_69 (by decide +kernel) ?_
          refine lv_icmp_le (tgt := 76) C.x C.b dX0_toInt_71 (by decide) (fun c51 => ?_) (fun c51 => ?_)
          · have c51 : x50.toInt ≤ 9 := by have h := z_le c51; rw [show (9 : Int32).toInt = 9 from by decide +kernel] at h; exact h
            refine lv_iconst (v := 0) C.x C.b dX0_toInt_76 (by decide +kernel) ?_
            refine lv_istore (lv' := [(5, .int 0), (4, .int 1), (3, .int 1), (2, .int r5), (1, .ref x3), (0, .ref k0)]) C.x C.b dX0_toInt_77 hl (by decide) rfl (fun ls hl => ?_)
            refine lv_iload C.x C.b dX0_toInt_79 (lv_at hl 1 rfl) ?_
            refine lv_istore (lv' := [(6, .int 1), (5, .int 0), (4, .int 1), (3, .int 1), (2, .int r5), (1, .ref x3), (0, .ref k0)]) C.x C.b dX0_toInt_81 hl (by decide) rfl (fun ls hl => ?_)
            have lp83 : ∀ (n : Nat) (y52 : Int32) (y53 : Int32) (H : Heap) (locs : List Loc) (ls : Array Slot), (r5.toInt - y53.toInt).toNat < n → (0 ≤ y53.toInt) → CH D cy ad A κ H → va_S A s.heap H locs → lv_has ls 8 [(6, .int y53), (5, .int y52), (4, .int 1), (3, .int 1), (2, .int r5), (1, .ref x3), (0, .ref k0)] → W p l e (headSpec (Cond.code yX0_toInt cX0_toInt 8 (some (.object "PhraseDesk$Value")) :: GWc) ({ frames := 4, cells := 1, slots := 5, locals := 85 })).room s m #[.ref k0] below meth c H locs (0 + 0 + 0) (0 + 0 + 0) (MQ below (va_Qq (fun (r : Option Nat) (u : PL) => (EX κ.2.2.2.2 u) ∧ (PV sa u) ∧ (NT u 1 r)) (fun (u : PL) (t : State) => Bx D cy ad A sz sl (tP κ u) (1) (5) t) A) #[.ref k0] s (1) (5) A) (F0 m 83 ls []) := by
              intro n
              induction n with
              | zero => intro y52 y53 H locs ls hn; exact absurd hn (Nat.not_lt_zero _)
              | succ n83 ih83 =>
                intro y52 y53 H locs ls hn83  hi83 hP hS hl
                refine lv_iload C.x C.b dX0_toInt_83 (lv_at hl 0 rfl) ?_
                refine lv_iload_n C.x C.b dX0_toInt_85 rfl (lv_at hl 4 rfl) ?_
                refine lv_icmp_ge (tgt := 132) C.x C.b dX0_toInt_86 (by decide) (fun c54 => ?_) (fun c54 => ?_)
                · have c54 : r5.toInt ≤ y53.toInt := by have h := z_le c54; exact h
                  refine lv_iload_n C.x C.b dX0_toInt_132 rfl (lv_at hl 3 rfl) ?_
                  refine lv_if_eq (tgt := 142) C.x C.b dX0_toInt_133 (by decide) (fun c55 => absurd c55 (by decide +kernel)) (fun _ => ?_)
                  refine lv_iload C.x C.b dX0_toInt_136 (lv_at hl 1 rfl) ?_
                  refine lv_ineg C.x C.b dX0_toInt_138 ?_
                  refine lv_topi (fun x56 ex56 => ?_)
                  refine lv_goto (tgt := 144) C.x C.b dX0_toInt_139 (by decide) ?_
                  refine c_callSq (C2 := "") (b := 0) (n := 1) (As := [.int x56]) (rest := []) C hP hS hl.1 (NX10_ofInt l D cy ad A sz0 sa κ H.size (SLT H) C.f (fun q h => C.a q (Nat.le_trans hS.1 h)) x56 hPV) ⟨cw_95, cw_97, by decide +kernel⟩ ⟨cw_96, cw_40⟩ rfl rfl (lv_room (Nat.le_of_ble_eq_true rfl)) ⟨Nat.le_of_ble_eq_true rfl, Nat.le_of_ble_eq_true rfl⟩ ⟨(Nat.le_of_ble_eq_true rfl), (Nat.le_of_ble_eq_true rfl)⟩ dX0_toInt_144 (fun r57 u H locs hr57 hP hS => ?_)
                  obtain ⟨P58, rfl⟩ : ∃ z, z = u := ⟨_, rfl⟩
                  have hP : CH D cy ad A (tP κ P58) H := hP
                  have hr57 : (EX κ.2.2.2.2 P58) ∧ (PV sa P58) ∧ (NN P58 1 r57) := hr57
                  obtain ⟨hr57_0, hr57_1, hr57_2⟩ := hr57
                  obtain ⟨b59, rfl, tb59⟩ := hr57_2
                  exact c_retq (v := (some b59)) (Or.inl ⟨_, rfl⟩) C hsz hsl P58 ⟨hr57_0, hr57_1, (nt_s tb59)⟩ hP hS ⟨(Nat.le_of_ble_eq_true rfl), (Nat.le_of_ble_eq_true rfl)⟩ ⟨(Nat.le_of_ble_eq_true rfl), (Nat.le_of_ble_eq_true rfl)⟩ dX0_toInt_147
                · have c54 : y53.toInt < r5.toInt := by have h := z_nle c54; exact h
                  refine lv_aload_n C.x C.b dX0_toInt_89 rfl (lv_at hl 5 rfl) ?_
                  refine lv_iload C.x C.b dX0_toInt_90 (lv_at hl 0 rfl) ?_
                  refine c_callVi (n := 1) (As := [.int y53]) (rest := []) C hP hS hl.1 (NJ0_charAt_5068e l D cy ad A sz0 sa κ H.size (SLT H) C.f (fun q h => C.a q (Nat.le_trans hS.1 h)) x3 n4 y53 sln4 hPV (vX0_toInt_18 n4 r5 x48 x50 y53 len4 hr5 c6 ex48 tx48 c49 ex50 tx50 c51 hi83 c54)) ⟨cw_106, cw_109, by decide +kernel⟩ ⟨cw_107, cw_108, cw_70⟩ rfl (c_srecv C hP hS hx3) rfl rfl (lv_room (Nat.le_of_ble_eq_true rfl)) ⟨Nat.le_of_ble_eq_true rfl, Nat.le_of_ble_eq_true rfl⟩ ⟨(Nat.le_of_ble_eq_true rfl), (Nat.le_of_ble_eq_true rfl)⟩ dX0_toInt_92 (fun r60 u H locs hr60 hP hS => ?_)
                  have hr60 : (0 ≤ r60.toInt ∧ r60.toInt ≤ 65535) := hr60
                  obtain ⟨hr60_0, hr60_1⟩ := hr60
                  refine lv_istore (lv' := [(7, .int r60), (6, .int y53), (5, .int y52), (4, .int 1), (3, .int 1), (2, .int r5), (1, .ref x3), (0, .ref k0)]) C.x C.b dX0_toInt_95 hl (by decide) rfl (fun ls hl => ?_)
                  refine lv_iload C.x C.b dX0_toInt_97 (lv_at hl 0 rfl) ?_
                  refine lv_bipush (v := 48) C.x C.b dX0_toInt_99 (by decide +kernel) ?_
                  refine lv_icmp_lt (tgt := 111) C.x C.b dX0_toInt_101 (by decide) (fun c61 => ?_) (fun c61 => ?_)
                  · have c61 : r60.toInt < 48 := by have h := z_lt c61; rw [show (48 : Int32).toInt = 48 from by decide +kernel] at h; exact h
                    refine lv_null C.x C.b dX0_toInt_111 ?_
                    have hP : CH D cy ad A (tP κ κ.2.2.2.2) H := CH.cong hP rfl rfl rfl rfl rfl rfl rfl rfl rfl rfl rfl rfl rfl rfl rfl rfl rfl rfl rfl rfl rfl rfl rfl rfl rfl rfl rfl
                    exact c_retq (v := none) (Or.inl ⟨_, rfl⟩) C hsz hsl κ.2.2.2.2 ⟨EX.rf, hPV, nt_n⟩ hP hS ⟨(Nat.le_of_ble_eq_true rfl), (Nat.le_of_ble_eq_true rfl)⟩ ⟨(Nat.le_of_ble_eq_true rfl), (Nat.le_of_ble_eq_true rfl)⟩ dX0_toInt_112
                  · have c61 : 48 ≤ r60.toInt := by have h := z_nlt c61; rw [show (48 : Int32).toInt = 48 from by decide +kernel] at h; exact h
                    refine lv_iload C.x C.b dX0_toInt_104 (lv_at hl 0 rfl) ?_
                    refine lv_bipush (v := 57) C.x C.b dX0_toInt_106 (by decide +kernel) ?_
                    refine lv_icmp_le (tgt := 113) C.x C.b dX0_toInt_108 (by decide) (fun c62 => ?_) (fun c62 => ?_)
                    · have c62 : r60.toInt ≤ 57 := by have h := z_le c62; rw [show (57 : Int32).toInt = 57 from by decide +kernel] at h; exact h
                      refine lv_iload C.x C.b dX0_toInt_113 (lv_at hl 2 rfl) ?_
                      refine lv_bipush (v := 10) C.x C.b dX0_toInt_115 (by decide +kernel) ?_
                      refine lv_imul C.x C.b dX0_toInt_117 ?_
                      refine lv_topi (fun x63 ex63 => ?_)
                      refine lv_iload C.x C.b dX0_toInt_118 (lv_at hl 0 rfl) ?_
                      refine lv_bipush (v := 48) C.x C.b dX0_toInt_120 (by decide +kernel) ?_
                      refine lv_isub C.x C.b dX0_toInt_122 ?_
                      refine lv_topi (fun x64 ex64 => ?_)
                      refine lv_iadd C.x C.b dX0_toInt_123 ?_
                      refine lv_topi (fun x65 ex65 => ?_)
                      refine lv_istore (lv' := [(5, .int x65), (7, .int r60), (6, .int y53), (4, .int 1), (3, .int 1), (2, .int r5), (1, .ref x3), (0, .ref k0)]) C.x C.b dX0_toInt_124 hl (by decide) rfl (fun ls hl => ?_)
                      obtain ⟨x66, ex66⟩ : ∃ y : Int32, y = y53 + (1 : Int32) := ⟨_, rfl⟩
                      have tx66 : x66.toInt = y53.toInt + 1 := (vX0_toInt_19 n4 r5 x48 x50 y53 x66 len4 hr5 c6 ex48 tx48 c49 ex50 tx50 c51 hi83 c54 ex66)
                      refine lv_iinc (v := x66) (lv' := [(6, .int x66), (5, .int x65), (7, .int r60), (4, .int 1), (3, .int 1), (2, .int r5), (1, .ref x3), (0, .ref k0)]) C.x C.b dX0_toInt_126 hl (k := 2) rfl (by rw [ex66]; rfl) (by decide) rfl (fun ls hl => ?_)
                      refine lv_goto (tgt := 83) C.x C.b dX0_toInt_129 (by decide) ?_
                      refine W.widen (k := 0 + 0 + 0) (n := 0 + 0 + 0) (Nat.le_of_ble_eq_true rfl) (Nat.le_of_ble_eq_true rfl) ?_
                      exact ih83 x65 x66 _ _ _ (Nat.lt_of_lt_of_le (vX0_toInt_21 n4 r5 x48 x50 y53 x66 len4 hr5 c6 ex48 tx48 c49 ex50 tx50 c51 hi83 c54 ex66 tx66) (Nat.le_of_lt_succ hn83))  (vX0_toInt_20 n4 r5 x48 x50 y53 x66 len4 hr5 c6 ex48 tx48 c49 ex50 tx50 c51 hi83 c54 ex66 tx66) hP hS (lv_sub hl [0, 1, 3, 4, 5, 6, 7] rfl)
                    · have c62 : 57 < r60.toInt := by have h := z_nle c62; rw [show (57 : Int32).toInt = 57 from by decide +kernel] at h; exact h
                      refine lv_null C.x C.b dX0_toInt_111 ?_
                      have hP : CH D cy ad A (tP κ κ.2.2.2.2) H := CH.cong hP rfl rfl rfl rfl rfl rfl rfl rfl rfl rfl rfl rfl rfl rfl rfl rfl rfl rfl rfl rfl rfl rfl rfl rfl rfl rfl rfl
                      exact c_retq (v := none) (Or.inl ⟨_, rfl⟩) C hsz hsl κ.2.2.2.2 ⟨EX.rf, hPV, nt_n⟩ hP hS ⟨(Nat.le_of_ble_eq_true rfl), (Nat.le_of_ble_eq_true rfl)⟩ ⟨(Nat.le_of_ble_eq_true rfl), (Nat.le_of_ble_eq_true rfl)⟩ dX0_toInt_112
            refine W.widen (k := 0 + 0 + 0) (n := 0 + 0 + 0) (Nat.le_of_ble_eq_true rfl) (Nat.le_of_ble_eq_true rfl) ?_
            exact lp83 ((r5.toInt - (1 : Int32).toInt).toNat + 1) (0 : Int32) (1 : Int32) _ _ _ (Nat.lt_succ_self _)  (vX0_toInt_17  ) hP hS (lv_sub hl [0, 1, 2, 3, 4, 5, 6] rfl)
          · have c51 : 9 < x50.toInt := by have h := z_nle c51; rw [show (9 : Int32).toInt = 9 from by decide +kernel] at h; exact h
            refine lv_null C.x C.b dX0_toInt_74 ?_
            have hP : CH D cy ad A (tP κ κ.2.2.2.2) H := CH.cong hP rfl rfl rfl rfl rfl rfl rfl rfl rfl rfl rfl rfl rfl rfl rfl rfl rfl rfl rfl rfl rfl rfl rfl rfl rfl rfl rfl
            exact c_retq (v := none) (Or.inl ⟨_, rfl⟩) C hsz hsl κ.2.2.2.2 ⟨EX.rf, hPV, nt_n⟩ hP hS ⟨(Nat.le_of_ble_eq_true rfl), (Nat.le_of_ble_eq_true rfl)⟩ ⟨(Nat.le_of_ble_eq_true rfl), (Nat.le_of_ble_eq_true rfl)⟩ dX0_toInt_75
  · have c2 : ¬ x1.toInt = 4 := by have h := z_ne c2; rw [show (4 : Int32).toInt = 4 from by decide +kernel] at h; exact h
    refine lv_aload_n C.x C.b dX0_toInt_8 rfl (lv_at hl 0 rfl) ?_
    obtain ⟨x67, ex67⟩ : ∃ z, oI κ.2.2.2.2 1 k0 = z := ⟨_, rfl⟩
    refine pg_X10_1 (v := x67) C hP (t20 (a := k0) (t := 1) ht0) ex67 cw_61 dX0_toInt_9 ?_
    refine c_callSq (C2 := "") (b := 0) (n := 1) (As := [.int x67]) (rest := []) C hP hS hl.1 (NX10_ofInt l D cy ad A sz0 sa κ s.heap.size (SLT s.heap) C.f (fun q h => C.a q (Nat.le_trans hS.1 h)) x67 hPV) ⟨cw_95, cw_97, by decide +kernel⟩ ⟨cw_96, cw_40⟩ rfl rfl (lv_room (Nat.le_of_ble_eq_true rfl)) ⟨Nat.le_of_ble_eq_true rfl, Nat.le_of_ble_eq_true rfl⟩ ⟨(Nat.le_of_ble_eq_true rfl), (Nat.le_of_ble_eq_true rfl)⟩ dX0_toInt_12 (fun r68 u H locs hr68 hP hS => ?_)
    obtain ⟨P69, rfl⟩ : ∃ z, z = u := ⟨_, rfl⟩
    have hP : CH D cy ad A (tP κ P69) H := hP
    have hr68 : (EX κ.2.2.2.2 P69) ∧ (PV sa P69) ∧ (NN P69 1 r68) := hr68
    obtain ⟨hr68_0, hr68_1, hr68_2⟩ := hr68
    obtain ⟨b70, rfl, tb70⟩ := hr68_2
    exact c_retq (v := (some b70)) (Or.inl ⟨_, rfl⟩) C hsz hsl P69 ⟨hr68_0, hr68_1, (nt_s tb70)⟩ hP hS ⟨(Nat.le_of_ble_eq_true rfl), (Nat.le_of_ble_eq_true rfl)⟩ ⟨(Nat.le_of_ble_eq_true rfl), (Nat.le_of_ble_eq_true rfl)⟩ dX0_toInt_15
