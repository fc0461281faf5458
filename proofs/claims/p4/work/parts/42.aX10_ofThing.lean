-- pre:X10_init@12 @12
theorem vX10_ofText_1   : FN FP.dconst0 := by
  first | assumption | exact fp_k0 | exact fp_i2d _ | (subst_vars; exact fp_i2d _) | exact (fp_FN_iff _).mpr (by decide +kernel)
set_option maxHeartbeats 4000000 in
set_option maxRecDepth 100000 in
theorem NX10_ofText (l : Launch) (D : va_G) (cy : Nat → ClassId) (ad : Nat → Nat) (A : Nat → Prop) (sz0 : Nat) (sa : Nat → Nat) (κ : KS) (sz sl : Nat) (hAF : ∀ q, A q → Fr sz0 q) (hAn : ∀ q : Nat, sz ≤ q → A q) (k0 : Nat) (ht0 : SOK κ.2.2.2.2 sa k0) (hPV : PV sa κ.2.2.2.2) : Met l yX10_ofText (Cond.code yX10_ofText cX10_ofText 1 (some (.object "PhraseDesk$Value")) :: GWc) ({ frames := 2, cells := 1, slots := 5, locals := 46 }) (PcC D cy ad A sz0 sa [.ref k0] κ sz sl) (va_Qq (fun (r : Option Nat) (u : PL) => (EX κ.2.2.2.2 u) ∧ (PV sa u) ∧ (NN u 1 r)) (fun (u : PL) (t : State) => Bx D cy ad A sz sl (tP κ u) (1) (5) t) A) (1) (5) A := by
  refine CM_of (loc0 := [(0, .ref k0)]) (own := RX10) (nm := "ofText") (by decide) rfl rfl rfl (Nat.le_of_ble_eq_true rfl) hAF hAn ?_
  intro p e s m below meth c ls hsz hsl C hP hS hl
  refine cn_X10 C hP hS cw_83 cw_84 cw_40 ⟨(Nat.le_of_ble_eq_true rfl), (Nat.le_of_ble_eq_true rfl)⟩ dX10_ofText_0 (fun q1 H h0q1 hP hS => ?_)
  have exz2 : EX κ.2.2.2.2 (newP κ.2.2.2.2 q1 21) := (EX.newP h0q1)
  have pvz2 : PV sa (newP κ.2.2.2.2 q1 21) := (hPV.raw h0q1 (by decide))
  refine lv_dup C.x C.b dX10_ofText_3 rfl ?_
  refine lv_iconst (v := 4) C.x C.b dX10_ofText_4 (by decide +kernel) ?_
  refine lv_aload_n C.x C.b dX10_ofText_5 rfl (lv_at hl 0 rfl) ?_
  obtain ⟨n3, sln3, len3⟩ := (exz2.S ht0).sl pvz2 C
  refine c_callVi (n := 0) (As := []) (rest := [.int 4, .ref q1, .ref q1]) C hP hS hl.1 (NJ0_length_8abf5 l D cy ad A sz0 sa (tP κ (newP κ.2.2.2.2 q1 21)) H.size (SLT H) C.f (fun q h => C.a q (Nat.le_trans hS.1 h)) k0 n3 sln3 pvz2) ⟨cw_340, cw_101, by decide +kernel⟩ ⟨cw_99, cw_100, cw_70⟩ rfl (c_srecv C hP hS (exz2.S ht0)) rfl rfl (lv_room (Nat.le_of_ble_eq_true rfl)) ⟨Nat.le_of_ble_eq_true rfl, Nat.le_of_ble_eq_true rfl⟩ ⟨(Nat.le_of_ble_eq_true rfl), (Nat.le_of_ble_eq_true rfl)⟩ dX10_ofText_6 (fun r4 u H locs hr4 hP hS => ?_)
  have hr4 : (r4.toInt = ((n3 : Nat) : Int)) := hr4
  refine lv_dconst0 C.x C.b dX10_ofText_9 ?_
  refine lv_aload_n C.x C.b dX10_ofText_10 rfl (lv_at hl 0 rfl) ?_
  refine lv_null C.x C.b dX10_ofText_11 ?_
  refine c_callIv (C2 := "") (n := 5) (As := [.int 4, .int r4, .double FP.dconst0, .ref k0, .null]) (rest := [.ref q1]) C hP hS hl.1 (NX10_init l D cy ad A sz0 sa (tP κ (newP κ.2.2.2.2 q1 21)) H.size (SLT H) C.f (fun q h => C.a q (Nat.le_trans hS.1 h)) q1 (4 : Int32) r4 FP.dconst0 k0 none (by show oT (newP κ.2.2.2.2 q1 21) q1 = 21; rw [newP_T, if_pos rfl]) (exz2.S ht0) nt_n pvz2 (vX10_ofText_1  )) ⟨cw_85, cw_87, by decide +kernel⟩ ⟨cw_86, cw_40⟩ rfl rfl rfl (lv_room (Nat.le_of_ble_eq_true rfl)) ⟨Nat.le_of_ble_eq_true rfl, Nat.le_of_ble_eq_true rfl⟩ ⟨(Nat.le_of_ble_eq_true rfl), (Nat.le_of_ble_eq_true rfl)⟩ dX10_ofText_12 (fun u H locs hr5 hP hS => ?_)
  obtain ⟨P6, rfl⟩ : ∃ z, z = u := ⟨_, rfl⟩
  have hP : CH D cy ad A (tP (tP κ (newP κ.2.2.2.2 q1 21)) P6) H := hP
  have hr5 : (EXP (fun a => ¬ a = q1) (newP κ.2.2.2.2 q1 21) P6) ∧ (PV sa P6) ∧ (oT P6 q1 = 1) := hr5
  obtain ⟨hr5_0, hr5_1, hr5_2⟩ := hr5
  have exz7 : EX κ.2.2.2.2 P6 := EX.cons exz2 h0q1 hr5_0
  have hP : CH D cy ad A (tP κ P6) H := CH.cong hP rfl rfl rfl rfl rfl rfl rfl rfl rfl rfl rfl rfl rfl rfl rfl rfl rfl rfl rfl rfl rfl rfl rfl rfl rfl rfl rfl
  exact c_retq (v := (some q1)) (Or.inl ⟨_, rfl⟩) C hsz hsl P6 ⟨exz7, hr5_1, ⟨q1, rfl, hr5_2⟩⟩ hP hS ⟨(Nat.le_of_ble_eq_true rfl), (Nat.le_of_ble_eq_true rfl)⟩ ⟨(Nat.le_of_ble_eq_true rfl), (Nat.le_of_ble_eq_true rfl)⟩ dX10_ofText_15

-- pre:X10_init@19 @19
theorem vX10_ofThing_1   : FN FP.dconst0 := by
  first | assumption | exact fp_k0 | exact fp_i2d _ | (subst_vars; exact fp_i2d _) | exact (fp_FN_iff _).mpr (by decide +kernel)
set_option maxHeartbeats 4000000 in
set_option maxRecDepth 100000 in
theorem NX10_ofThing (l : Launch) (D : va_G) (cy : Nat → ClassId) (ad : Nat → Nat) (A : Nat → Prop) (sz0 : Nat) (sa : Nat → Nat) (κ : KS) (sz sl : Nat) (hAF : ∀ q, A q → Fr sz0 q) (hAn : ∀ q : Nat, sz ≤ q → A q) (k0 : Nat) (ht0 : oT κ.2.2.2.2 k0 = 6) (hPV : PV sa κ.2.2.2.2) : Met l yX10_ofThing (Cond.code yX10_ofThing cX10_ofThing 1 (some (.object "PhraseDesk$Value")) :: GWc) ({ frames := 2, cells := 1, slots := 5, locals := 46 }) (PcC D cy ad A sz0 sa [.ref k0] κ sz sl) (va_Qq (fun (r : Option Nat) (u : PL) => (EX κ.2.2.2.2 u) ∧ (PV sa u) ∧ (NN u 1 r)) (fun (u : PL) (t : State) => Bx D cy ad A sz sl (tP κ u) (1) (5) t) A) (1) (5) A := by
  refine CM_of (loc0 := [(0, .ref k0)]) (own := RX10) (nm := "ofThing") (by decide) rfl rfl rfl (Nat.le_of_ble_eq_true rfl) hAF hAn ?_
  intro p e s m below meth c ls hsz hsl C hP hS hl
  refine cn_X10 C hP hS cw_83 cw_84 cw_40 ⟨(Nat.le_of_ble_eq_true rfl), (Nat.le_of_ble_eq_true rfl)⟩ dX10_ofThing_0 (fun q1 H h0q1 hP hS => ?_)
  have exz2 : EX κ.2.2.2.2 (newP κ.2.2.2.2 q1 21) := (EX.newP h0q1)
  have pvz2 : PV sa (newP κ.2.2.2.2 q1 21) := (hPV.raw h0q1 (by decide))
  refine lv_dup C.x C.b dX10_ofThing_3 rfl ?_
  refine lv_aload_n C.x C.b dX10_ofThing_4 rfl (lv_at hl 0 rfl) ?_
  obtain ⟨x3, ex3, hx3⟩ := (pvz2.t6 (exz2.T ht0 (by decide))).1
  refine pg_X9_1 (v := some x3) C hP (t20 (a := k0) (t := 6) (exz2.T ht0 (by decide))) ex3 cw_48 dX10_ofThing_5 ?_
  obtain ⟨x4, ex4⟩ : ∃ z, oI (newP κ.2.2.2.2 q1 21) 7 x3 = z := ⟨_, rfl⟩
  refine pg_X1_1 (v := x4) C hP (t20 (a := x3) (t := 3) hx3) ex4 cw_49 dX10_ofThing_8 ?_
  refine lv_aload_n C.x C.b dX10_ofThing_11 rfl (lv_at hl 0 rfl) ?_
  obtain ⟨x5, ex5⟩ : ∃ z, oI (newP κ.2.2.2.2 q1 21) 19 k0 = z := ⟨_, rfl⟩
  refine pg_X9_0 (v := x5) C hP (t20 (a := k0) (t := 6) (exz2.T ht0 (by decide))) ex5 cw_866 dX10_ofThing_12 ?_
  refine lv_dconst0 C.x C.b dX10_ofThing_15 ?_
  refine va_ldcS C.x C.b C.o C.en.2.2.2.2.1 dX10_ofThing_16 ?_
  refine lv_aload_n C.x C.b dX10_ofThing_18 rfl (lv_at hl 0 rfl) ?_
  refine c_callIv (C2 := "") (n := 5) (As := [.int x4, .int x5, .double FP.dconst0, .ref (sa 0), .ref k0]) (rest := [.ref q1]) C hP hS hl.1 (NX10_init l D cy ad A sz0 sa (tP κ (newP κ.2.2.2.2 q1 21)) H.size (SLT H) C.f (fun q h => C.a q (Nat.le_trans hS.1 h)) q1 x4 x5 FP.dconst0 (sa 0) (some k0) (by show oT (newP κ.2.2.2.2 q1 21) q1 = 21; rw [newP_T, if_pos rfl]) (SOK.any (P := (newP κ.2.2.2.2 q1 21)) (by unfold KC; simp)) (nt_s (exz2.T ht0 (by decide))) pvz2 (vX10_ofThing_1  )) ⟨cw_85, cw_87, by decide +kernel⟩ ⟨cw_86, cw_40⟩ rfl rfl rfl (lv_room (Nat.le_of_ble_eq_true rfl)) ⟨Nat.le_of_ble_eq_true rfl, Nat.le_of_ble_eq_true rfl⟩ ⟨(Nat.le_of_ble_eq_true rfl), (Nat.le_of_ble_eq_true rfl)⟩ dX10_ofThing_19 (fun u H locs hr6 hP hS => ?_)
  obtain ⟨P7, rfl⟩ : ∃ z, z = u := ⟨_, rfl⟩
  have hP : CH D cy ad A (tP (tP κ (newP κ.2.2.2.2 q1 21)) P7) H := hP
  have hr6 : (EXP (fun a => ¬ a = q1) (newP κ.2.2.2.2 q1 21) P7) ∧ (PV sa P7) ∧ (oT P7 q1 = 1) := hr6
  obtain ⟨hr6_0, hr6_1, hr6_2⟩ := hr6
  have exz8 : EX κ.2.2.2.2 P7 := EX.cons exz2 h0q1 hr6_0
  have hP : CH D cy ad A (tP κ P7) H := CH.cong hP rfl rfl rfl rfl rfl rfl rfl rfl rfl rfl rfl rfl rfl rfl rfl rfl rfl rfl rfl rfl rfl rfl rfl rfl rfl rfl rfl
  exact c_retq (v := (some q1)) (Or.inl ⟨_, rfl⟩) C hsz hsl P7 ⟨exz8, hr6_1, ⟨q1, rfl, hr6_2⟩⟩ hP hS ⟨(Nat.le_of_ble_eq_true rfl), (Nat.le_of_ble_eq_true rfl)⟩ ⟨(Nat.le_of_ble_eq_true rfl), (Nat.le_of_ble_eq_true rfl)⟩ dX10_ofThing_22
