set_option maxHeartbeats 4000000 in
set_option maxRecDepth 100000 in
theorem NX8_fail (l : Launch) (D : va_G) (cy : Nat → ClassId) (ad : Nat → Nat) (A : Nat → Prop) (sz0 : Nat) (sa : Nat → Nat)  (κ : KS) (sz sl : Nat) (hAF : ∀ q, A q → Fr sz0 q) (hAn : ∀ q : Nat, sz ≤ q → A q) (k0 : Int32)  : Met l yX8_fail (Cond.code yX8_fail cX8_fail 2 (some (.object "PhraseDesk$Value")) :: GWc) ({ frames := 0, cells := 0, slots := 0, locals := 0 }) (PcC D cy ad A sz0 sa [.ref (ad 3), .int k0] κ sz sl) (va_Qq (fun (r : Option Nat) (u : Int32) => (NT κ.2.2.2.2 1 r)) (fun (u : Int32) (t : State) => Bx D cy ad A sz sl (tI κ 9 u) (0) (0) t) A) (0) (0) A := by
  refine CM_of (loc0 := [(0, .ref (ad 3)), (1, .int k0)]) (own := RX8) (nm := "fail") (by decide) rfl rfl rfl (Nat.le_of_ble_eq_true rfl) hAF hAn ?_
  intro p e s m below meth c ls hsz hsl C hP hS hl
  refine lv_aload_n C.x C.b dX8_fail_0 rfl (lv_at hl 0 rfl) ?_
  refine lv_iload_n C.x C.b dX8_fail_1 rfl (lv_at hl 1 rfl) ?_
  refine cp_X8_7 (v := k0) C hP hS cw_694 dX8_fail_2 (fun H locs hP hS => ?_)
  refine lv_null C.x C.b dX8_fail_5 ?_
  exact c_retq (v := none) (Or.inl ⟨_, rfl⟩) C hsz hsl k0 nt_n hP hS ⟨(Nat.le_of_ble_eq_true rfl), (Nat.le_of_ble_eq_true rfl)⟩ ⟨(Nat.le_of_ble_eq_true rfl), (Nat.le_of_ble_eq_true rfl)⟩ dX8_fail_6

set_option maxHeartbeats 4000000 in
set_option maxRecDepth 100000 in
theorem NX8_begin (l : Launch) (D : va_G) (cy : Nat → ClassId) (ad : Nat → Nat) (A : Nat → Prop) (sz0 : Nat) (sa : Nat → Nat)  (κ : KS) (sz sl : Nat) (hAF : ∀ q, A q → Fr sz0 q) (hAn : ∀ q : Nat, sz ≤ q → A q) (k0 : Nat) (ht0 : oT κ.2.2.2.2 k0 = 1) (hSV : SV ad κ.2.2.2.2 (κ.2.1 0) (κ.2.1 1) (κ.2.2.2.1 6) (κ.2.2.2.1 7) (κ.2.2.2.1 8) (κ.2.2.2.1 13) (κ.2.2.2.1 15) (κ.2.2.2.1 17) (κ.1 1).toInt) : Met l yX8_begin (Cond.code yX8_begin cX8_begin 2 none :: GWc) ({ frames := 0, cells := 0, slots := 0, locals := 0 }) (PcC D cy ad A sz0 sa [.ref (ad 3), .ref k0] κ sz sl) (va_Qv (fun (u : Int32 × Option Nat) => (SV ad κ.2.2.2.2 (κ.2.1 0) u.2 (κ.2.2.2.1 6) (κ.2.2.2.1 7) (κ.2.2.2.1 8) (κ.2.2.2.1 13) (κ.2.2.2.1 15) (κ.2.2.2.1 17) (κ.1 1).toInt)) (fun (u : Int32 × Option Nat) (t : State) => Bx D cy ad A sz sl (tR (tI κ 9 u.1) 1 u.2) (0) (0) t) A) (0) (0) A := by
  refine CM_of (loc0 := [(0, .ref (ad 3)), (1, .ref k0)]) (own := RX8) (nm := "begin") (by decide) rfl rfl rfl (Nat.le_of_ble_eq_true rfl) hAF hAn ?_
  intro p e s m below meth c ls hsz hsl C hP hS hl
  refine lv_aload_n C.x C.b dX8_begin_0 rfl (lv_at hl 0 rfl) ?_
  refine lv_aload_n C.x C.b dX8_begin_1 rfl (lv_at hl 1 rfl) ?_
  refine cp_X8_6 (v := (some k0)) C hP hS cw_687 dX8_begin_2 (fun H locs hP hS => ?_)
  have svz1 : SV ad κ.2.2.2.2 (κ.2.1 0) (some k0) (κ.2.2.2.1 6) (κ.2.2.2.1 7) (κ.2.2.2.1 8) (κ.2.2.2.1 13) (κ.2.2.2.1 15) (κ.2.2.2.1 17) (κ.1 1).toInt := hSV.root (nt_s ht0)
  refine lv_aload_n C.x C.b dX8_begin_5 rfl (lv_at hl 0 rfl) ?_
  refine lv_iconst (v := 0) C.x C.b dX8_begin_6 (by decide +kernel) ?_
  refine cp_X8_7 (v := 0) C hP hS cw_694 dX8_begin_7 (fun H locs hP hS => ?_)
  have hP : CH D cy ad A (tR (tI κ 9 (0 : Int32)) 1 (some k0)) H := CH.cong hP rfl rfl rfl rfl rfl rfl rfl rfl rfl rfl rfl rfl rfl rfl rfl rfl rfl rfl rfl rfl rfl rfl rfl rfl rfl rfl rfl
  exact c_retv C hsz hsl ⟨(0 : Int32), (some k0)⟩ svz1 hP hS ⟨(Nat.le_of_ble_eq_true rfl), (Nat.le_of_ble_eq_true rfl)⟩ ⟨(Nat.le_of_ble_eq_true rfl), (Nat.le_of_ble_eq_true rfl)⟩ dX8_begin_10

-- init@2 @2
theorem vX8_variable_1   : 0 ≤ (0 : Int32).toInt ∧ (0 : Int32).toInt ≤ 12 := by
  have q0 : (0 : Int32).toInt = 0 := by decide +kernel
  refine ⟨?_, ?_⟩ <;> first | assumption | omega | (subst_vars; omega) | trivial
-- dead@25 @51
theorem vX8_variable_2 (κ : KS) (y1 : Int32) (hi2_0 : 0 ≤ y1.toInt) (hi2_1 : y1.toInt ≤ 12) (c2 : y1.toInt < (κ.1 8).toInt) (c4 : y1.toInt < 12) (c6 : 12 ≤ y1.toInt) : False := by
  first | assumption | omega | (subst_vars; omega) | trivial
-- in@33 @33
theorem vX8_variable_3 (κ : KS) (y1 : Int32) (hpre_0 : 0 ≤ (κ.1 8).toInt) (hpre_1 : (κ.1 8).toInt ≤ 12) (hi2_0 : 0 ≤ y1.toInt) (hi2_1 : y1.toInt ≤ 12) (c2 : y1.toInt < (κ.1 8).toInt) (c4 : y1.toInt < 12) (c6 : y1.toInt < 12) : vp_in y1 12 := by
  exact vp_in_iff.mpr ⟨by omega, by omega⟩
-- nw@45 @45
theorem vX8_variable_4 (κ : KS) (k0 : Int32) (y1 : Int32) (x7 : Int32) (x9 : Int32) (hpre_0 : 0 ≤ (κ.1 8).toInt) (hpre_1 : (κ.1 8).toInt ≤ 12) (hi2_0 : 0 ≤ y1.toInt) (hi2_1 : y1.toInt ≤ 12) (c2 : y1.toInt < (κ.1 8).toInt) (c4 : y1.toInt < 12) (c6 : y1.toInt < 12) (ex7 : x7 = (κ.2.2.1 16) y1.toNatClampNeg) (c8 : ¬ x7.toInt = k0.toInt) (ex9 : x9 = y1 + (1 : Int32)) : x9.toInt = y1.toInt + 1 := by
  have q1 : (1 : Int32).toInt = 1 := by decide +kernel
  have z9 : (1 : Int32).toInt = 1 := by decide +kernel
  rw [ex9, z_add (by omega) (by omega)]; first | done | omega
-- inv@2 @2
theorem vX8_variable_5 (κ : KS) (k0 : Int32) (y1 : Int32) (x7 : Int32) (x9 : Int32) (hpre_0 : 0 ≤ (κ.1 8).toInt) (hpre_1 : (κ.1 8).toInt ≤ 12) (hi2_0 : 0 ≤ y1.toInt) (hi2_1 : y1.toInt ≤ 12) (c2 : y1.toInt < (κ.1 8).toInt) (c4 : y1.toInt < 12) (c6 : y1.toInt < 12) (ex7 : x7 = (κ.2.2.1 16) y1.toNatClampNeg) (c8 : ¬ x7.toInt = k0.toInt) (ex9 : x9 = y1 + (1 : Int32)) (tx9 : x9.toInt = y1.toInt + 1) : 0 ≤ x9.toInt ∧ x9.toInt ≤ 12 := by
  have q1 : (1 : Int32).toInt = 1 := by decide +kernel
  refine ⟨?_, ?_⟩ <;> first | assumption | omega | (subst_vars; omega) | trivial
-- meas@2 @2
theorem vX8_variable_6 (κ : KS) (k0 : Int32) (y1 : Int32) (x7 : Int32) (x9 : Int32) (hpre_0 : 0 ≤ (κ.1 8).toInt) (hpre_1 : (κ.1 8).toInt ≤ 12) (hi2_0 : 0 ≤ y1.toInt) (hi2_1 : y1.toInt ≤ 12) (c2 : y1.toInt < (κ.1 8).toInt) (c4 : y1.toInt < 12) (c6 : y1.toInt < 12) (ex7 : x7 = (κ.2.2.1 16) y1.toNatClampNeg) (c8 : ¬ x7.toInt = k0.toInt) (ex9 : x9 = y1 + (1 : Int32)) (tx9 : x9.toInt = y1.toInt + 1) : (12 - x9.toInt).toNat < (12 - y1.toInt).toNat := by
  have q1 : (1 : Int32).toInt = 1 := by decide +kernel
  first | assumption | omega | (subst_vars; omega) | trivial
-- in@43 @43
theorem vX8_variable_7 (κ : KS) (k0 : Int32) (y1 : Int32) (x7 : Int32) (hpre_0 : 0 ≤ (κ.1 8).toInt) (hpre_1 : (κ.1 8).toInt ≤ 12) (hi2_0 : 0 ≤ y1.toInt) (hi2_1 : y1.toInt ≤ 12) (c2 : y1.toInt < (κ.1 8).toInt) (c4 : y1.toInt < 12) (c6 : y1.toInt < 12) (ex7 : x7 = (κ.2.2.1 16) y1.toNatClampNeg) (c8 : x7.toInt = k0.toInt) : vp_in y1 12 := by
  exact vp_in_iff.mpr ⟨by omega, by omega⟩
set_option maxHeartbeats 4000000 in
set_option maxRecDepth 100000 in
theorem NX8_variable (l : Launch) (D : va_G) (cy : Nat → ClassId) (ad : Nat → Nat) (A : Nat → Prop) (sz0 : Nat) (sa : Nat → Nat)  (κ : KS) (sz sl : Nat) (hAF : ∀ q, A q → Fr sz0 q) (hAn : ∀ q : Nat, sz ≤ q → A q) (k0 : Int32) (hPV : PV sa κ.2.2.2.2) (hSV : SV ad κ.2.2.2.2 (κ.2.1 0) (κ.2.1 1) (κ.2.2.2.1 6) (κ.2.2.2.1 7) (κ.2.2.2.1 8) (κ.2.2.2.1 13) (κ.2.2.2.1 15) (κ.2.2.2.1 17) (κ.1 1).toInt) (hpre : 0 ≤ (κ.1 8).toInt ∧ (κ.1 8).toInt ≤ 12) : Met l yX8_variable (Cond.code yX8_variable cX8_variable 3 (some (.object "PhraseDesk$Value")) :: GWc) ({ frames := 0, cells := 0, slots := 0, locals := 0 }) (PcC D cy ad A sz0 sa [.ref (ad 3), .int k0] κ sz sl) (va_Qq (fun (r : Option Nat) (u : Unit) => (NT κ.2.2.2.2 1 r)) (fun (u : Unit) (t : State) => Bx D cy ad A sz sl κ (0) (0) t) A) (0) (0) A := by
  refine CM_of (loc0 := [(0, .ref (ad 3)), (1, .int k0)]) (own := RX8) (nm := "variable") (by decide) rfl rfl rfl (Nat.le_of_ble_eq_true rfl) hAF hAn ?_
  intro p e s m below meth c ls hsz hsl C hP hS hl
  obtain ⟨hpre_0, hpre_1⟩ := hpre
  refine lv_iconst (v := 0) C.x C.b dX8_variable_0 (by decide +kernel) ?_
  refine lv_istore_n (lv' := [(2, .int 0), (0, .ref (ad 3)), (1, .int k0)]) C.x C.b dX8_variable_1 rfl hl (by decide) rfl (fun ls hl => ?_)
  have lp2 : ∀ (n : Nat) (y1 : Int32) (H : Heap) (locs : List Loc) (ls : Array Slot), (12 - y1.toInt).toNat < n → (0 ≤ y1.toInt ∧ y1.toInt ≤ 12) → CH D cy ad A κ H → va_S A s.heap H locs → lv_has ls 3 [(2, .int y1), (0, .ref (ad 3)), (1, .int k0)] → W p l e (headSpec (Cond.code yX8_variable cX8_variable 3 (some (.object "PhraseDesk$Value")) :: GWc) ({ frames := 0, cells := 0, slots := 0, locals := 0 })).room s m #[.ref (ad 3), .int k0] below meth c H locs (0) (0) (MQ below (va_Qq (fun (r : Option Nat) (u : Unit) => (NT κ.2.2.2.2 1 r)) (fun (u : Unit) (t : State) => Bx D cy ad A sz sl κ (0) (0) t) A) #[.ref (ad 3), .int k0] s (0) (0) A) (F0 m 2 ls []) := by
    intro n
    induction n with
    | zero => intro y1 H locs ls hn; exact absurd hn (Nat.not_lt_zero _)
    | succ n2 ih2 =>
      intro y1 H locs ls hn2  hi2 hP hS hl
      obtain ⟨hi2_0, hi2_1⟩ := hi2
      refine lv_iload_n C.x C.b dX8_variable_2 rfl (lv_at hl 0 rfl) ?_
      refine lv_aload_n C.x C.b dX8_variable_3 rfl (lv_at hl 1 rfl) ?_
      refine cg_X8_5 (v := (κ.1 8)) C hP rfl cw_710 dX8_variable_4 ?_
      refine lv_icmp_ge (tgt := 51) C.x C.b dX8_variable_7 (by decide) (fun c2 => ?_) (fun c2 => ?_)
      · have c2 : (κ.1 8).toInt ≤ y1.toInt := by have h := z_le c2; exact h
        refine lv_aload_n C.x C.b dX8_variable_51 rfl (lv_at hl 1 rfl) ?_
        refine cg_X8_0 C hP cw_677 dX8_variable_52 ?_
        exact c_retq (v := (some (ad 20))) (Or.inl ⟨_, rfl⟩) C hsz hsl () (nt_s hSV.a20) hP hS ⟨(Nat.le_of_ble_eq_true rfl), (Nat.le_of_ble_eq_true rfl)⟩ ⟨(Nat.le_of_ble_eq_true rfl), (Nat.le_of_ble_eq_true rfl)⟩ dX8_variable_55
      · have c2 : y1.toInt < (κ.1 8).toInt := by have h := z_nle c2; exact h
        refine lv_iload_n C.x C.b dX8_variable_10 rfl (lv_at hl 0 rfl) ?_
        refine lv_aload_n C.x C.b dX8_variable_11 rfl (lv_at hl 1 rfl) ?_
        refine cg_X8_3 C hP cw_684 dX8_variable_12 ?_
        refine cl_16 C hP dX8_variable_15 ?_
        refine lv_icmp_ge (tgt := 51) C.x C.b dX8_variable_16 (by decide) (fun c4 => ?_) (fun c4 => ?_)
        · have c4 : 12 ≤ y1.toInt := by have h := z_le c4; rw [show (12 : Int32).toInt = 12 from by decide +kernel] at h; exact h
          refine lv_aload_n C.x C.b dX8_variable_51 rfl (lv_at hl 1 rfl) ?_
          refine cg_X8_0 C hP cw_677 dX8_variable_52 ?_
          exact c_retq (v := (some (ad 20))) (Or.inl ⟨_, rfl⟩) C hsz hsl () (nt_s hSV.a20) hP hS ⟨(Nat.le_of_ble_eq_true rfl), (Nat.le_of_ble_eq_true rfl)⟩ ⟨(Nat.le_of_ble_eq_true rfl), (Nat.le_of_ble_eq_true rfl)⟩ dX8_variable_55
        · have c4 : y1.toInt < 12 := by have h := z_nle c4; rw [show (12 : Int32).toInt = 12 from by decide +kernel] at h; exact h
          refine lv_iload_n C.x C.b dX8_variable_19 rfl (lv_at hl 0 rfl) ?_
          refine lv_aload_n C.x C.b dX8_variable_20 rfl (lv_at hl 1 rfl) ?_
          refine cg_X8_4 C hP cw_686 dX8_variable_21 ?_
          refine cl_17 C hP dX8_variable_24 ?_
          refine lv_icmp_ge (tgt := 51) C.x C.b dX8_variable_25 (by decide) (fun c6 => ?_) (fun c6 => ?_)
          · have c6 : 12 ≤ y1.toInt := by have h := z_le c6; rw [show (12 : Int32).toInt = 12 from by decide +kernel] at h; exact h
            exact absurd (vX8_variable_2 κ y1 hi2_0 hi2_1 c2 c4 c6) id
          · have c6 : y1.toInt < 12 := by have h := z_nle c6; rw [show (12 : Int32).toInt = 12 from by decide +kernel] at h; exact h
            refine lv_aload_n C.x C.b dX8_variable_28 rfl (lv_at hl 1 rfl) ?_
            refine cg_X8_3 C hP cw_684 dX8_variable_29 ?_
            refine lv_iload_n C.x C.b dX8_variable_32 rfl (lv_at hl 0 rfl) ?_
            refine ca_16 (f := (κ.2.2.1 16)) C hP rfl (vX8_variable_3 κ y1 hpre_0 hpre_1 hi2_0 hi2_1 c2 c4 c6) dX8_variable_33 (fun x7 ex7 => ?_)
            refine lv_iload_n C.x C.b dX8_variable_34 rfl (lv_at hl 2 rfl) ?_
            refine lv_icmp_ne (tgt := 45) C.x C.b dX8_variable_35 (by decide) (fun c8 => ?_) (fun c8 => ?_)
            · have c8 : ¬ x7.toInt = k0.toInt := by have h := z_ne c8; exact h
              obtain ⟨x9, ex9⟩ : ∃ y : Int32, y = y1 + (1 : Int32) := ⟨_, rfl⟩
              have tx9 : x9.toInt = y1.toInt + 1 := (vX8_variable_4 κ k0 y1 x7 x9 hpre_0 hpre_1 hi2_0 hi2_1 c2 c4 c6 ex7 c8 ex9)
              refine lv_iinc (v := x9) (lv' := [(2, .int x9), (0, .ref (ad 3)), (1, .int k0)]) C.x C.b dX8_variable_45 hl (k := 0) rfl (by rw [ex9]; rfl) (by decide) rfl (fun ls hl => ?_)
              refine lv_goto (tgt := 2) C.x C.b dX8_variable_48 (by decide) ?_
              refine W.widen (k := 0) (n := 0) (Nat.le_of_ble_eq_true rfl) (Nat.le_of_ble_eq_true rfl) ?_
              exact ih2 x9 _ _ _ (Nat.lt_of_lt_of_le (vX8_variable_6 κ k0 y1 x7 x9 hpre_0 hpre_1 hi2_0 hi2_1 c2 c4 c6 ex7 c8 ex9 tx9) (Nat.le_of_lt_succ hn2))  (vX8_variable_5 κ k0 y1 x7 x9 hpre_0 hpre_1 hi2_0 hi2_1 c2 c4 c6 ex7 c8 ex9 tx9) hP hS (lv_sub hl [0, 1, 2] rfl)
            · have c8 : x7.toInt = k0.toInt := by have h := z_eq c8; exact h
              refine lv_aload_n C.x C.b dX8_variable_38 rfl (lv_at hl 1 rfl) ?_
              refine cg_X8_4 C hP cw_686 dX8_variable_39 ?_
              refine lv_iload_n C.x C.b dX8_variable_42 rfl (lv_at hl 0 rfl) ?_
              refine ca_17 (f := (κ.2.2.2.1 17)) C hP rfl (vX8_variable_7 κ k0 y1 x7 hpre_0 hpre_1 hi2_0 hi2_1 c2 c4 c6 ex7 c8) dX8_variable_43 (fun x10 ex10 => ?_)
              have tx10 : NT κ.2.2.2.2 1 x10 := by rw [ex10]; exact hSV.n17 _
              exact c_retq (v := x10) (Or.inl ⟨_, rfl⟩) C hsz hsl () tx10 hP hS ⟨(Nat.le_of_ble_eq_true rfl), (Nat.le_of_ble_eq_true rfl)⟩ ⟨(Nat.le_of_ble_eq_true rfl), (Nat.le_of_ble_eq_true rfl)⟩ dX8_variable_44
  refine W.widen (k := 0) (n := 0) (Nat.le_of_ble_eq_true rfl) (Nat.le_of_ble_eq_true rfl) ?_
  exact lp2 ((12 - (0 : Int32).toInt).toNat + 1) (0 : Int32) _ _ _ (Nat.lt_succ_self _)  (vX8_variable_1  ) hP hS (lv_sub hl [0, 1, 2] rfl)

-- init@2 @2
theorem vX8_setVariable_1   : 0 ≤ (0 : Int32).toInt ∧ (0 : Int32).toInt ≤ 12 := by
  have q0 : (0 : Int32).toInt = 0 := by decide +kernel
  refine ⟨?_, ?_⟩ <;> first | assumption | omega | (subst_vars; omega) | trivial
-- retz @54
theorem vX8_setVariable_2   : 0 ≤ (0 : Int32).toInt ∧ (0 : Int32).toInt ≤ 1 := by
  have q0 : (0 : Int32).toInt = 0 := by decide +kernel
  refine ⟨?_, ?_⟩ <;> first | assumption | omega | (subst_vars; omega) | trivial
-- post @54
theorem vX8_setVariable_3 (κ : KS) (y1 : Int32) (hpre_0 : 0 ≤ (κ.1 8).toInt) (hpre_1 : (κ.1 8).toInt ≤ 12) (hi2_0 : 0 ≤ y1.toInt) (hi2_1 : y1.toInt ≤ 12) (c2 : (κ.1 8).toInt ≤ y1.toInt) (c4 : 12 ≤ y1.toInt) : 0 ≤ (κ.1 8).toInt ∧ (κ.1 8).toInt ≤ 12 := by
  refine ⟨?_, ?_⟩ <;> first | assumption | omega | (subst_vars; omega) | trivial
-- in@61 @61
theorem vX8_setVariable_4 (κ : KS) (y1 : Int32) (hpre_0 : 0 ≤ (κ.1 8).toInt) (hpre_1 : (κ.1 8).toInt ≤ 12) (hi2_0 : 0 ≤ y1.toInt) (hi2_1 : y1.toInt ≤ 12) (c2 : (κ.1 8).toInt ≤ y1.toInt) (c4 : y1.toInt < 12) (c6 : y1.toInt < 12) : vp_in y1 12 := by
  exact vp_in_iff.mpr ⟨by omega, by omega⟩
-- retz @88
theorem vX8_setVariable_5   : 0 ≤ (1 : Int32).toInt ∧ (1 : Int32).toInt ≤ 1 := by
  have q1 : (1 : Int32).toInt = 1 := by decide +kernel
  refine ⟨?_, ?_⟩ <;> first | assumption | omega | (subst_vars; omega) | trivial
-- post @88
theorem vX8_setVariable_6 (κ : KS) (y1 : Int32) (hpre_0 : 0 ≤ (κ.1 8).toInt) (hpre_1 : (κ.1 8).toInt ≤ 12) (hi2_0 : 0 ≤ y1.toInt) (hi2_1 : y1.toInt ≤ 12) (c2 : (κ.1 8).toInt ≤ y1.toInt) (c4 : y1.toInt < 12) (c6 : y1.toInt < 12) (c8 : ¬ y1.toInt = (κ.1 8).toInt) : 0 ≤ (κ.1 8).toInt ∧ (κ.1 8).toInt ≤ 12 := by
  refine ⟨?_, ?_⟩ <;> first | assumption | omega | (subst_vars; omega) | trivial
-- nw@83 @83
theorem vX8_setVariable_7 (κ : KS) (y1 : Int32) (x9 : Int32) (hpre_0 : 0 ≤ (κ.1 8).toInt) (hpre_1 : (κ.1 8).toInt ≤ 12) (hi2_0 : 0 ≤ y1.toInt) (hi2_1 : y1.toInt ≤ 12) (c2 : (κ.1 8).toInt ≤ y1.toInt) (c4 : y1.toInt < 12) (c6 : y1.toInt < 12) (c8 : y1.toInt = (κ.1 8).toInt) (ex9 : x9 = (κ.1 8) + (1 : Int32)) : x9.toInt = (κ.1 8).toInt + 1 := by
  have q1 : (1 : Int32).toInt = 1 := by decide +kernel
  have w1 : (1 : Int32).toInt = 1 := by decide +kernel
  rw [ex9, z_add (by omega) (by omega)]; first | done | omega
-- post @88
theorem vX8_setVariable_8 (κ : KS) (y1 : Int32) (x9 : Int32) (hpre_0 : 0 ≤ (κ.1 8).toInt) (hpre_1 : (κ.1 8).toInt ≤ 12) (hi2_0 : 0 ≤ y1.toInt) (hi2_1 : y1.toInt ≤ 12) (c2 : (κ.1 8).toInt ≤ y1.toInt) (c4 : y1.toInt < 12) (c6 : y1.toInt < 12) (c8 : y1.toInt = (κ.1 8).toInt) (ex9 : x9 = (κ.1 8) + (1 : Int32)) (tx9 : x9.toInt = (κ.1 8).toInt + 1) : 0 ≤ x9.toInt ∧ x9.toInt ≤ 12 := by
  have q1 : (1 : Int32).toInt = 1 := by decide +kernel
  refine ⟨?_, ?_⟩ <;> first | assumption | omega | (subst_vars; omega) | trivial
-- dead@50 @53
theorem vX8_setVariable_9 (κ : KS) (y1 : Int32) (hi2_0 : 0 ≤ y1.toInt) (hi2_1 : y1.toInt ≤ 12) (c2 : (κ.1 8).toInt ≤ y1.toInt) (c4 : y1.toInt < 12) (c6 : 12 ≤ y1.toInt) : False := by
  first | assumption | omega | (subst_vars; omega) | trivial
-- post @54
theorem vX8_setVariable_10 (κ : KS) (y1 : Int32) (hpre_0 : 0 ≤ (κ.1 8).toInt) (hpre_1 : (κ.1 8).toInt ≤ 12) (hi2_0 : 0 ≤ y1.toInt) (hi2_1 : y1.toInt ≤ 12) (c2 : y1.toInt < (κ.1 8).toInt) (c11 : 12 ≤ y1.toInt) (c13 : 12 ≤ y1.toInt) : 0 ≤ (κ.1 8).toInt ∧ (κ.1 8).toInt ≤ 12 := by
  refine ⟨?_, ?_⟩ <;> first | assumption | omega | (subst_vars; omega) | trivial
-- dead@41 @44
theorem vX8_setVariable_11 (κ : KS) (y1 : Int32) (hi2_0 : 0 ≤ y1.toInt) (hi2_1 : y1.toInt ≤ 12) (c2 : y1.toInt < (κ.1 8).toInt) (c11 : 12 ≤ y1.toInt) (c13 : y1.toInt < 12) : False := by
  first | assumption | omega | (subst_vars; omega) | trivial
-- in@24 @24
theorem vX8_setVariable_12 (κ : KS) (y1 : Int32) (hpre_0 : 0 ≤ (κ.1 8).toInt) (hpre_1 : (κ.1 8).toInt ≤ 12) (hi2_0 : 0 ≤ y1.toInt) (hi2_1 : y1.toInt ≤ 12) (c2 : y1.toInt < (κ.1 8).toInt) (c11 : y1.toInt < 12) : vp_in y1 12 := by
  exact vp_in_iff.mpr ⟨by omega, by omega⟩
-- dead@41 @53
theorem vX8_setVariable_13 (κ : KS) (y1 : Int32) (x14 : Int32) (hi2_0 : 0 ≤ y1.toInt) (hi2_1 : y1.toInt ≤ 12) (c2 : y1.toInt < (κ.1 8).toInt) (c11 : y1.toInt < 12) (ex14 : x14 = (κ.2.2.1 16) y1.toNatClampNeg) (c17 : 12 ≤ y1.toInt) : False := by
  first | assumption | omega | (subst_vars; omega) | trivial
-- in@61 @61
theorem vX8_setVariable_14 (κ : KS) (k0 : Int32) (y1 : Int32) (x14 : Int32) (hpre_0 : 0 ≤ (κ.1 8).toInt) (hpre_1 : (κ.1 8).toInt ≤ 12) (hi2_0 : 0 ≤ y1.toInt) (hi2_1 : y1.toInt ≤ 12) (c2 : y1.toInt < (κ.1 8).toInt) (c11 : y1.toInt < 12) (ex14 : x14 = (κ.2.2.1 16) y1.toNatClampNeg) (c15 : x14.toInt = k0.toInt) (c17 : y1.toInt < 12) (c19 : y1.toInt < 12) : vp_in y1 12 := by
  exact vp_in_iff.mpr ⟨by omega, by omega⟩
-- post @88
theorem vX8_setVariable_15 (κ : KS) (k0 : Int32) (y1 : Int32) (x14 : Int32) (hpre_0 : 0 ≤ (κ.1 8).toInt) (hpre_1 : (κ.1 8).toInt ≤ 12) (hi2_0 : 0 ≤ y1.toInt) (hi2_1 : y1.toInt ≤ 12) (c2 : y1.toInt < (κ.1 8).toInt) (c11 : y1.toInt < 12) (ex14 : x14 = (κ.2.2.1 16) y1.toNatClampNeg) (c15 : x14.toInt = k0.toInt) (c17 : y1.toInt < 12) (c19 : y1.toInt < 12) (c21 : ¬ y1.toInt = (κ.1 8).toInt) : 0 ≤ (κ.1 8).toInt ∧ (κ.1 8).toInt ≤ 12 := by
  refine ⟨?_, ?_⟩ <;> first | assumption | omega | (subst_vars; omega) | trivial
-- nw@83 @83
theorem vX8_setVariable_16 (κ : KS) (k0 : Int32) (y1 : Int32) (x14 : Int32) (x22 : Int32) (hpre_0 : 0 ≤ (κ.1 8).toInt) (hpre_1 : (κ.1 8).toInt ≤ 12) (hi2_0 : 0 ≤ y1.toInt) (hi2_1 : y1.toInt ≤ 12) (c2 : y1.toInt < (κ.1 8).toInt) (c11 : y1.toInt < 12) (ex14 : x14 = (κ.2.2.1 16) y1.toNatClampNeg) (c15 : x14.toInt = k0.toInt) (c17 : y1.toInt < 12) (c19 : y1.toInt < 12) (c21 : y1.toInt = (κ.1 8).toInt) (ex22 : x22 = (κ.1 8) + (1 : Int32)) : x22.toInt = (κ.1 8).toInt + 1 := by
  have q1 : (1 : Int32).toInt = 1 := by decide +kernel
  have w1 : (1 : Int32).toInt = 1 := by decide +kernel
  rw [ex22, z_add (by omega) (by omega)]; first | done | omega
-- post @88
theorem vX8_setVariable_17 (κ : KS) (k0 : Int32) (y1 : Int32) (x14 : Int32) (x22 : Int32) (hpre_0 : 0 ≤ (κ.1 8).toInt) (hpre_1 : (κ.1 8).toInt ≤ 12) (hi2_0 : 0 ≤ y1.toInt) (hi2_1 : y1.toInt ≤ 12) (c2 : y1.toInt < (κ.1 8).toInt) (c11 : y1.toInt < 12) (ex14 : x14 = (κ.2.2.1 16) y1.toNatClampNeg) (c15 : x14.toInt = k0.toInt) (c17 : y1.toInt < 12) (c19 : y1.toInt < 12) (c21 : y1.toInt = (κ.1 8).toInt) (ex22 : x22 = (κ.1 8) + (1 : Int32)) (tx22 : x22.toInt = (κ.1 8).toInt + 1) : 0 ≤ x22.toInt ∧ x22.toInt ≤ 12 := by
  have q1 : (1 : Int32).toInt = 1 := by decide +kernel
  refine ⟨?_, ?_⟩ <;> first | assumption | omega | (subst_vars; omega) | trivial
-- dead@50 @53
theorem vX8_setVariable_18 (κ : KS) (y1 : Int32) (x14 : Int32) (hi2_0 : 0 ≤ y1.toInt) (hi2_1 : y1.toInt ≤ 12) (c2 : y1.toInt < (κ.1 8).toInt) (c11 : y1.toInt < 12) (ex14 : x14 = (κ.2.2.1 16) y1.toNatClampNeg) (c17 : y1.toInt < 12) (c19 : 12 ≤ y1.toInt) : False := by
  first | assumption | omega | (subst_vars; omega) | trivial
-- nw@29 @29
theorem vX8_setVariable_19 (κ : KS) (k0 : Int32) (y1 : Int32) (x14 : Int32) (x23 : Int32) (hpre_0 : 0 ≤ (κ.1 8).toInt) (hpre_1 : (κ.1 8).toInt ≤ 12) (hi2_0 : 0 ≤ y1.toInt) (hi2_1 : y1.toInt ≤ 12) (c2 : y1.toInt < (κ.1 8).toInt) (c11 : y1.toInt < 12) (ex14 : x14 = (κ.2.2.1 16) y1.toNatClampNeg) (c15 : ¬ x14.toInt = k0.toInt) (ex23 : x23 = y1 + (1 : Int32)) : x23.toInt = y1.toInt + 1 := by
  have q1 : (1 : Int32).toInt = 1 := by decide +kernel
  have z9 : (1 : Int32).toInt = 1 := by decide +kernel
  rw [ex23, z_add (by omega) (by omega)]; first | done | omega
-- inv@2 @2
theorem vX8_setVariable_20 (κ : KS) (k0 : Int32) (y1 : Int32) (x14 : Int32) (x23 : Int32) (hpre_0 : 0 ≤ (κ.1 8).toInt) (hpre_1 : (κ.1 8).toInt ≤ 12) (hi2_0 : 0 ≤ y1.toInt) (hi2_1 : y1.toInt ≤ 12) (c2 : y1.toInt < (κ.1 8).toInt) (c11 : y1.toInt < 12) (ex14 : x14 = (κ.2.2.1 16) y1.toNatClampNeg) (c15 : ¬ x14.toInt = k0.toInt) (ex23 : x23 = y1 + (1 : Int32)) (tx23 : x23.toInt = y1.toInt + 1) : 0 ≤ x23.toInt ∧ x23.toInt ≤ 12 := by
  have q1 : (1 : Int32).toInt = 1 := by decide +kernel
  refine ⟨?_, ?_⟩ <;> first | assumption | omega | (subst_vars; omega) | trivial
-- meas@2 @2
theorem vX8_setVariable_21 (κ : KS) (k0 : Int32) (y1 : Int32) (x14 : Int32) (x23 : Int32) (hpre_0 : 0 ≤ (κ.1 8).toInt) (hpre_1 : (κ.1 8).toInt ≤ 12) (hi2_0 : 0 ≤ y1.toInt) (hi2_1 : y1.toInt ≤ 12) (c2 : y1.toInt < (κ.1 8).toInt) (c11 : y1.toInt < 12) (ex14 : x14 = (κ.2.2.1 16) y1.toNatClampNeg) (c15 : ¬ x14.toInt = k0.toInt) (ex23 : x23 = y1 + (1 : Int32)) (tx23 : x23.toInt = y1.toInt + 1) : (12 - x23.toInt).toNat < (12 - y1.toInt).toNat := by
  have q1 : (1 : Int32).toInt = 1 := by decide +kernel
  first | assumption | omega | (subst_vars; omega) | trivial
set_option maxHeartbeats 4000000 in
set_option maxRecDepth 100000 in
theorem NX8_setVariable (l : Launch) (D : va_G) (cy : Nat → ClassId) (ad : Nat → Nat) (A : Nat → Prop) (sz0 : Nat) (sa : Nat → Nat)  (κ : KS) (sz sl : Nat) (hAF : ∀ q, A q → Fr sz0 q) (hAn : ∀ q : Nat, sz ≤ q → A q) (k0 : Int32) (k1 : Nat) (ht1 : oT κ.2.2.2.2 k1 = 1) (hPV : PV sa κ.2.2.2.2) (hSV : SV ad κ.2.2.2.2 (κ.2.1 0) (κ.2.1 1) (κ.2.2.2.1 6) (κ.2.2.2.1 7) (κ.2.2.2.1 8) (κ.2.2.2.1 13) (κ.2.2.2.1 15) (κ.2.2.2.1 17) (κ.1 1).toInt) (hpre : 0 ≤ (κ.1 8).toInt ∧ (κ.1 8).toInt ≤ 12) : Met l yX8_setVariable (Cond.code yX8_setVariable cX8_setVariable 4 (some .boolean) :: GWc) ({ frames := 0, cells := 0, slots := 0, locals := 0 }) (PcC D cy ad A sz0 sa [.ref (ad 3), .int k0, .ref k1] κ sz sl) (va_Qi (fun (r : Int32) (u : Int32 × (Nat → Int32) × (Nat → Option Nat)) => (SV ad κ.2.2.2.2 (κ.2.1 0) (κ.2.1 1) (κ.2.2.2.1 6) (κ.2.2.2.1 7) (κ.2.2.2.1 8) (κ.2.2.2.1 13) (κ.2.2.2.1 15) u.2.2 (κ.1 1).toInt) ∧ (0 ≤ r.toInt ∧ r.toInt ≤ 1) ∧ (0 ≤ u.1.toInt ∧ u.1.toInt ≤ 12)) (fun (u : Int32 × (Nat → Int32) × (Nat → Option Nat)) (t : State) => Bx D cy ad A sz sl (tQ (tA (tI κ 8 u.1) 16 u.2.1) 17 u.2.2) (0) (0) t) A) (0) (0) A := by
  refine CM_of (loc0 := [(0, .ref (ad 3)), (1, .int k0), (2, .ref k1)]) (own := RX8) (nm := "setVariable") (by decide) rfl rfl rfl (Nat.le_of_ble_eq_true rfl) hAF hAn ?_
  intro p e s m below meth c ls hsz hsl C hP hS hl
  obtain ⟨hpre_0, hpre_1⟩ := hpre
  refine lv_iconst (v := 0) C.x C.b dX8_setVariable_0 (by decide +kernel) ?_
  refine lv_istore_n (lv' := [(3, .int 0), (0, .ref (ad 3)), (1, .int k0), (2, .ref k1)]) C.x C.b dX8_setVariable_1 rfl hl (by decide) rfl (fun ls hl => ?_)
  have lp2 : ∀ (n : Nat) (y1 : Int32) (H : Heap) (locs : List Loc) (ls : Array Slot), (12 - y1.toInt).toNat < n → (0 ≤ y1.toInt ∧ y1.toInt ≤ 12) → CH D cy ad A κ H → va_S A s.heap H locs → lv_has ls 4 [(3, .int y1), (0, .ref (ad 3)), (1, .int k0), (2, .ref k1)] → W p l e (headSpec (Cond.code yX8_setVariable cX8_setVariable 4 (some .boolean) :: GWc) ({ frames := 0, cells := 0, slots := 0, locals := 0 })).room s m #[.ref (ad 3), .int k0, .ref k1] below meth c H locs (0) (0) (MQ below (va_Qi (fun (r : Int32) (u : Int32 × (Nat → Int32) × (Nat → Option Nat)) => (SV ad κ.2.2.2.2 (κ.2.1 0) (κ.2.1 1) (κ.2.2.2.1 6) (κ.2.2.2.1 7) (κ.2.2.2.1 8) (κ.2.2.2.1 13) (κ.2.2.2.1 15) u.2.2 (κ.1 1).toInt) ∧ (0 ≤ r.toInt ∧ r.toInt ≤ 1) ∧ (0 ≤ u.1.toInt ∧ u.1.toInt ≤ 12)) (fun (u : Int32 × (Nat → Int32) × (Nat → Option Nat)) (t : State) => Bx D cy ad A sz sl (tQ (tA (tI κ 8 u.1) 16 u.2.1) 17 u.2.2) (0) (0) t) A) #[.ref (ad 3), .int k0, .ref k1] s (0) (0) A) (F0 m 2 ls []) := by
    intro n
    induction n with
    | zero => intro y1 H locs ls hn; exact absurd hn (Nat.not_lt_zero _)
    | succ n2 ih2 =>
      intro y1 H locs ls hn2  hi2 hP hS hl
      obtain ⟨hi2_0, hi2_1⟩ := hi2
      refine lv_iload_n C.x C.b dX8_setVariable_2 rfl (lv_at hl 0 rfl) ?_
      refine lv_aload_n C.x C.b dX8_setVariable_3 rfl (lv_at hl 1 rfl) ?_
      refine cg_X8_5 (v := (κ.1 8)) C hP rfl cw_710 dX8_setVariable_4 ?_
      refine lv_icmp_ge (tgt := 35) C.x C.b dX8_setVariable_7 (by decide) (fun c2 => ?_) (fun c2 => ?_)
      · have c2 : (κ.1 8).toInt ≤ y1.toInt := by have h := z_le c2; exact h
        refine lv_iload_n C.x C.b dX8_setVariable_35 rfl (lv_at hl 0 rfl) ?_
        refine lv_aload_n C.x C.b dX8_setVariable_36 rfl (lv_at hl 1 rfl) ?_
        refine cg_X8_3 C hP cw_684 dX8_setVariable_37 ?_
        refine cl_16 C hP dX8_setVariable_40 ?_
        refine lv_icmp_ge (tgt := 53) C.x C.b dX8_setVariable_41 (by decide) (fun c4 => ?_) (fun c4 => ?_)
        · have c4 : 12 ≤ y1.toInt := by have h := z_le c4; rw [show (12 : Int32).toInt = 12 from by decide +kernel] at h; exact h
          refine lv_iconst (v := 0) C.x C.b dX8_setVariable_53 (by decide +kernel) ?_
          have hP : CH D cy ad A (tQ (tA (tI κ 8 (κ.1 8)) 16 (κ.2.2.1 16)) 17 (κ.2.2.2.1 17)) H := CH.cong hP rfl rfl rfl rfl rfl rfl rfl rfl rfl rfl rfl rfl rfl rfl rfl rfl rfl rfl rfl rfl rfl rfl rfl rfl rfl rfl rfl
          exact c_retz (ty := .boolean) (hv := rfl) C hsz hsl ⟨(κ.1 8), (κ.2.2.1 16), (κ.2.2.2.1 17)⟩ ⟨hSV, (vX8_setVariable_2  ), (vX8_setVariable_3 κ y1 hpre_0 hpre_1 hi2_0 hi2_1 c2 c4)⟩ hP hS ⟨(Nat.le_of_ble_eq_true rfl), (Nat.le_of_ble_eq_true rfl)⟩ ⟨(Nat.le_of_ble_eq_true rfl), (Nat.le_of_ble_eq_true rfl)⟩ dX8_setVariable_54
        · have c4 : y1.toInt < 12 := by have h := z_nle c4; rw [show (12 : Int32).toInt = 12 from by decide +kernel] at h; exact h
          refine lv_iload_n C.x C.b dX8_setVariable_44 rfl (lv_at hl 0 rfl) ?_
          refine lv_aload_n C.x C.b dX8_setVariable_45 rfl (lv_at hl 1 rfl) ?_
          refine cg_X8_4 C hP cw_686 dX8_setVariable_46 ?_
          refine cl_17 C hP dX8_setVariable_49 ?_
          refine lv_icmp_lt (tgt := 55) C.x C.b dX8_setVariable_50 (by decide) (fun c6 => ?_) (fun c6 => ?_)
          · have c6 : y1.toInt < 12 := by have h := z_lt c6; rw [show (12 : Int32).toInt = 12 from by decide +kernel] at h; exact h
            refine lv_aload_n C.x C.b dX8_setVariable_55 rfl (lv_at hl 1 rfl) ?_
            refine cg_X8_3 C hP cw_684 dX8_setVariable_56 ?_
            refine lv_iload_n C.x C.b dX8_setVariable_59 rfl (lv_at hl 0 rfl) ?_
            refine lv_iload_n C.x C.b dX8_setVariable_60 rfl (lv_at hl 2 rfl) ?_
            refine cw_st16 (f := (κ.2.2.1 16)) C hP hS rfl (vX8_setVariable_4 κ y1 hpre_0 hpre_1 hi2_0 hi2_1 c2 c4 c6) dX8_setVariable_61 (fun H locs hP hS => ?_)
            refine lv_aload_n C.x C.b dX8_setVariable_62 rfl (lv_at hl 1 rfl) ?_
            refine cg_X8_4 C hP cw_686 dX8_setVariable_63 ?_
            refine lv_iload_n C.x C.b dX8_setVariable_66 rfl (lv_at hl 0 rfl) ?_
            refine lv_aload_n C.x C.b dX8_setVariable_67 rfl (lv_at hl 3 rfl) ?_
            refine cw_st17 (f := (κ.2.2.2.1 17)) C hP hS rfl (t20 (a := k1) (t := 1) ht1) (vX8_setVariable_4 κ y1 hpre_0 hpre_1 hi2_0 hi2_1 c2 c4 c6) dX8_setVariable_68 (fun H locs hP hS => ?_)
            have svz7 : SV ad κ.2.2.2.2 (κ.2.1 0) (κ.2.1 1) (κ.2.2.2.1 6) (κ.2.2.2.1 7) (κ.2.2.2.1 8) (κ.2.2.2.1 13) (κ.2.2.2.1 15) (va_up (κ.2.2.2.1 17) y1.toNatClampNeg (some k1)) (κ.1 1).toInt := hSV.s17 (nt_s ht1)
            refine lv_iload_n C.x C.b dX8_setVariable_69 rfl (lv_at hl 0 rfl) ?_
            refine lv_aload_n C.x C.b dX8_setVariable_70 rfl (lv_at hl 1 rfl) ?_
            refine cg_X8_5 (v := (κ.1 8)) C hP rfl cw_710 dX8_setVariable_71 ?_
            refine lv_icmp_ne (tgt := 87) C.x C.b dX8_setVariable_74 (by decide) (fun c8 => ?_) (fun c8 => ?_)
            · have c8 : ¬ y1.toInt = (κ.1 8).toInt := by have h := z_ne c8; exact h
              refine lv_iconst (v := 1) C.x C.b dX8_setVariable_87 (by decide +kernel) ?_
              have hP : CH D cy ad A (tQ (tA (tI κ 8 (κ.1 8)) 16 (upd (κ.2.2.1 16) y1.toNatClampNeg k0)) 17 (va_up (κ.2.2.2.1 17) y1.toNatClampNeg (some k1))) H := CH.cong hP rfl rfl rfl rfl rfl rfl rfl rfl rfl rfl rfl rfl rfl rfl rfl rfl rfl rfl rfl rfl rfl rfl rfl rfl rfl rfl rfl
              exact c_retz (ty := .boolean) (hv := rfl) C hsz hsl ⟨(κ.1 8), (upd (κ.2.2.1 16) y1.toNatClampNeg k0), (va_up (κ.2.2.2.1 17) y1.toNatClampNeg (some k1))⟩ ⟨svz7, (vX8_setVariable_5  ), (vX8_setVariable_6 κ y1 hpre_0 hpre_1 hi2_0 hi2_1 c2 c4 c6 c8)⟩ hP hS ⟨(Nat.le_of_ble_eq_true rfl), (Nat.le_of_ble_eq_true rfl)⟩ ⟨(Nat.le_of_ble_eq_true rfl), (Nat.le_of_ble_eq_true rfl)⟩ dX8_setVariable_88
            · have c8 : y1.toInt = (κ.1 8).toInt := by have h := z_eq c8; exact h
              refine lv_aload_n C.x C.b dX8_setVariable_77 rfl (lv_at hl 1 rfl) ?_
              refine lv_dup C.x C.b dX8_setVariable_78 rfl ?_
              refine cg_X8_5 (v := (κ.1 8)) C hP rfl cw_710 dX8_setVariable_79 ?_
              refine lv_iconst (v := 1) C.x C.b dX8_setVariable_82 (by decide +kernel) ?_
              refine lv_iadd C.x C.b dX8_setVariable_83 ?_
              refine lv_topi (fun x9 ex9 => ?_)
              have tx9 : x9.toInt = (κ.1 8).toInt + 1 := (vX8_setVariable_7 κ y1 x9 hpre_0 hpre_1 hi2_0 hi2_1 c2 c4 c6 c8 ex9)
              refine cp_X8_5 (v := x9) C hP hS cw_710 dX8_setVariable_84 (fun H locs hP hS => ?_)
              refine lv_iconst (v := 1) C.x C.b dX8_setVariable_87 (by decide +kernel) ?_
              have hP : CH D cy ad A (tQ (tA (tI κ 8 x9) 16 (upd (κ.2.2.1 16) y1.toNatClampNeg k0)) 17 (va_up (κ.2.2.2.1 17) y1.toNatClampNeg (some k1))) H := CH.cong hP rfl rfl rfl rfl rfl rfl rfl rfl rfl rfl rfl rfl rfl rfl rfl rfl rfl rfl rfl rfl rfl rfl rfl rfl rfl rfl rfl
              exact c_retz (ty := .boolean) (hv := rfl) C hsz hsl ⟨x9, (upd (κ.2.2.1 16) y1.toNatClampNeg k0), (va_up (κ.2.2.2.1 17) y1.toNatClampNeg (some k1))⟩ ⟨svz7, (vX8_setVariable_5  ), (vX8_setVariable_8 κ y1 x9 hpre_0 hpre_1 hi2_0 hi2_1 c2 c4 c6 c8 ex9 tx9)⟩ hP hS ⟨(Nat.le_of_ble_eq_true rfl), (Nat.le_of_ble_eq_true rfl)⟩ ⟨(Nat.le_of_ble_eq_true rfl), (Nat.le_of_ble_eq_true rfl)⟩ dX8_setVariable_88
          · have c6 : 12 ≤ y1.toInt := by have h := z_nlt c6; rw [show (12 : Int32).toInt = 12 from by decide +kernel] at h; exact h
            exact absurd (vX8_setVariable_9 κ y1 hi2_0 hi2_1 c2 c4 c6) id
      · have c2 : y1.toInt < (κ.1 8).toInt := by have h := z_nle c2; exact h
        refine lv_iload_n C.x C.b dX8_setVariable_10 rfl (lv_at hl 0 rfl) ?_
        refine lv_aload_n C.x C.b dX8_setVariable_11 rfl (lv_at hl 1 rfl) ?_
        refine cg_X8_3 C hP cw_684 dX8_setVariable_12 ?_
        refine cl_16 C hP dX8_setVariable_15 ?_
        refine lv_icmp_ge (tgt := 35) C.x C.b dX8_setVariable_16 (by decide) (fun c11 => ?_) (fun c11 => ?_)
        · have c11 : 12 ≤ y1.toInt := by have h := z_le c11; rw [show (12 : Int32).toInt = 12 from by decide +kernel] at h; exact h
          refine lv_iload_n C.x C.b dX8_setVariable_35 rfl (lv_at hl 0 rfl) ?_
          refine lv_aload_n C.x C.b dX8_setVariable_36 rfl (lv_at hl 1 rfl) ?_
          refine cg_X8_3 C hP cw_684 dX8_setVariable_37 ?_
          refine cl_16 C hP dX8_setVariable_40 ?_
          refine lv_icmp_ge (tgt := 53) C.x C.b dX8_setVariable_41 (by decide) (fun c13 => ?_) (fun c13 => ?_)
          · have c13 : 12 ≤ y1.toInt := by have h := z_le c13; rw [show (12 : Int32).toInt = 12 from by decide +kernel] at h; exact h
            refine lv_iconst (v := 0) C.x C.b dX8_setVariable_53 (by decide +kernel) ?_
            have hP : CH D cy ad A (tQ (tA (tI κ 8 (κ.1 8)) 16 (κ.2.2.1 16)) 17 (κ.2.2.2.1 17)) H := CH.cong hP rfl rfl rfl rfl rfl rfl rfl rfl rfl rfl rfl rfl rfl rfl rfl rfl rfl rfl rfl rfl rfl rfl rfl rfl rfl rfl rfl
            exact c_retz (ty := .boolean) (hv := rfl) C hsz hsl ⟨(κ.1 8), (κ.2.2.1 16), (κ.2.2.2.1 17)⟩ ⟨hSV, (vX8_setVariable_2  ), (vX8_setVariable_10 κ y1 hpre_0 hpre_1 hi2_0 hi2_1 c2 c11 c13)⟩ hP hS ⟨(Nat.le_of_ble_eq_true rfl), (Nat.le_of_ble_eq_true rfl)⟩ ⟨(Nat.le_of_ble_eq_true rfl), (Nat.le_of_ble_eq_true rfl)⟩ dX8_setVariable_54
          · have c13 : y1.toInt < 12 := by have h := z_nle c13; rw [show (12 : Int32).toInt = 12 from by decide +kernel] at h; exact h
            exact absurd (vX8_setVariable_11 κ y1 hi2_0 hi2_1 c2 c11 c13) id
        · have c11 : y1.toInt < 12 := by have h := z_nle c11; rw [show (12 : Int32).toInt = 12 from by decide +kernel] at h; exact h
          refine lv_aload_n C.x C.b dX8_setVariable_19 rfl (lv_at hl 1 rfl) ?_
          refine cg_X8_3 C hP cw_684 dX8_setVariable_20 ?_
          refine lv_iload_n C.x C.b dX8_setVariable_23 rfl (lv_at hl 0 rfl) ?_
          refine ca_16 (f := (κ.2.2.1 16)) C hP rfl (vX8_setVariable_12 κ y1 hpre_0 hpre_1 hi2_0 hi2_1 c2 c11) dX8_setVariable_24 (fun x14 ex14 => ?_)
          refine lv_iload_n C.x C.b dX8_setVariable_25 rfl (lv_at hl 2 rfl) ?_
          refine lv_icmp_eq (tgt := 35) C.x C.b dX8_setVariable_26 (by decide) (fun c15 => ?_) (fun c15 => ?_)
          · have c15 : x14.toInt = k0.toInt := by have h := z_eq c15; exact h
            refine lv_iload_n C.x C.b dX8_setVariable_35 rfl (lv_at hl 0 rfl) ?_
            refine lv_aload_n C.x C.b dX8_setVariable_36 rfl (lv_at hl 1 rfl) ?_
            refine cg_X8_3 C hP cw_684 dX8_setVariable_37 ?_
            refine cl_16 C hP dX8_setVariable_40 ?_
            refine lv_icmp_ge (tgt := 53) C.x C.b dX8_setVariable_41 (by decide) (fun c17 => ?_) (fun c17 => ?_)
            · have c17 : 12 ≤ y1.toInt := by have h := z_le c17; rw [show (12 : Int32).toInt = 12 from by decide +kernel] at h; exact h
              exact absurd (vX8_setVariable_13 κ y1 x14 hi2_0 hi2_1 c2 c11 ex14 c17) id
            · have c17 : y1.toInt < 12 := by have h := z_nle c17; rw [show (12 : Int32).toInt = 12 from by decide +kernel] at h; exact h
              refine lv_iload_n C.x C.b dX8_setVariable_44 rfl (lv_at hl 0 rfl) ?_
              refine lv_aload_n C.x C.b dX8_setVariable_45 rfl (lv_at hl 1 rfl) ?_
              refine cg_X8_4 C hP cw_686 dX8_setVariable_46 ?_
              refine cl_17 C hP dX8_setVariable_49 ?_
              refine lv_icmp_lt (tgt := 55) C.x C.b dX8_setVariable_50 (by decide) (fun c19 => ?_) (fun c19 => ?_)
              · have c19 : y1.toInt < 12 := by have h := z_lt c19; rw [show (12 : Int32).toInt = 12 from by decide +kernel] at h; exact h
                refine lv_aload_n C.x C.b dX8_setVariable_55 rfl (lv_at hl 1 rfl) ?_
                refine cg_X8_3 C hP cw_684 dX8_setVariable_56 ?_
                refine lv_iload_n C.x C.b dX8_setVariable_59 rfl (lv_at hl 0 rfl) ?_
                refine lv_iload_n C.x C.b dX8_setVariable_60 rfl (lv_at hl 2 rfl) ?_
                refine cw_st16 (f := (κ.2.2.1 16)) C hP hS rfl (vX8_setVariable_14 κ k0 y1 x14 hpre_0 hpre_1 hi2_0 hi2_1 c2 c11 ex14 c15 c17 c19) dX8_setVariable_61 (fun H locs hP hS => ?_)
                refine lv_aload_n C.x C.b dX8_setVariable_62 rfl (lv_at hl 1 rfl) ?_
                refine cg_X8_4 C hP cw_686 dX8_setVariable_63 ?_
                refine lv_iload_n C.x C.b dX8_setVariable_66 rfl (lv_at hl 0 rfl) ?_
                refine lv_aload_n C.x C.b dX8_setVariable_67 rfl (lv_at hl 3 rfl) ?_
                refine cw_st17 (f := (κ.2.2.2.1 17)) C hP hS rfl (t20 (a := k1) (t := 1) ht1) (vX8_setVariable_14 κ k0 y1 x14 hpre_0 hpre_1 hi2_0 hi2_1 c2 c11 ex14 c15 c17 c19) dX8_setVariable_68 (fun H locs hP hS => ?_)
                have svz20 : SV ad κ.2.2.2.2 (κ.2.1 0) (κ.2.1 1) (κ.2.2.2.1 6) (κ.2.2.2.1 7) (κ.2.2.2.1 8) (κ.2.2.2.1 13) (κ.2.2.2.1 15) (va_up (κ.2.2.2.1 17) y1.toNatClampNeg (some k1)) (κ.1 1).toInt := hSV.s17 (nt_s ht1)
                refine lv_iload_n C.x C.b dX8_setVariable_69 rfl (lv_at hl 0 rfl) ?_
                refine lv_aload_n C.x C.b dX8_setVariable_70 rfl (lv_at hl 1 rfl) ?_
                refine cg_X8_5 (v := (κ.1 8)) C hP rfl cw_710 dX8_setVariable_71 ?_
                refine lv_icmp_ne (tgt := 87) C.x C.b dX8_setVariable_74 (by decide) (fun c21 => ?_) (fun c21 => ?_)
                · have c21 : ¬ y1.toInt = (κ.1 8).toInt := by have h := z_ne c21; exact h
                  refine lv_iconst (v := 1) C.x C.b dX8_setVariable_87 (by decide +kernel) ?_
                  have hP : CH D cy ad A (tQ (tA (tI κ 8 (κ.1 8)) 16 (upd (κ.2.2.1 16) y1.toNatClampNeg k0)) 17 (va_up (κ.2.2.2.1 17) y1.toNatClampNeg (some k1))) H := CH.cong hP rfl rfl rfl rfl rfl rfl rfl rfl rfl rfl rfl rfl rfl rfl rfl rfl rfl rfl rfl rfl rfl rfl rfl rfl rfl rfl rfl
                  exact c_retz (ty := .boolean) (hv := rfl) C hsz hsl ⟨(κ.1 8), (upd (κ.2.2.1 16) y1.toNatClampNeg k0), (va_up (κ.2.2.2.1 17) y1.toNatClampNeg (some k1))⟩ ⟨svz20, (vX8_setVariable_5  ), (vX8_setVariable_15 κ k0 y1 x14 hpre_0 hpre_1 hi2_0 hi2_1 c2 c11 ex14 c15 c17 c19 c21)⟩ hP hS ⟨(Nat.le_of_ble_eq_true rfl), (Nat.le_of_ble_eq_true rfl)⟩ ⟨(Nat.le_of_ble_eq_true rfl), (Nat.le_of_ble_eq_true rfl)⟩ dX8_setVariable_88
                · have c21 : y1.toInt = (κ.1 8).toInt := by have h := z_eq c21; exact h
                  refine lv_aload_n C.x C.b dX8_setVariable_77 rfl (lv_at hl 1 rfl) ?_
                  refine lv_dup C.x C.b dX8_setVariable_78 rfl ?_
                  refine cg_X8_5 (v := (κ.1 8)) C hP rfl cw_710 dX8_setVariable_79 ?_
                  refine lv_iconst (v := 1) C.x C.b dX8_setVariable_82 (by decide +kernel) ?_
                  refine lv_iadd C.x C.b dX8_setVariable_83 ?_
                  refine lv_topi (fun x22 ex22 => ?_)
                  have tx22 : x22.toInt = (κ.1 8).toInt + 1 := (vX8_setVariable_16 κ k0 y1 x14 x22 hpre_0 hpre_1 hi2_0 hi2_1 c2 c11 ex14 c15 c17 c19 c21 ex22)
                  refine cp_X8_5 (v := x22) C hP hS cw_710 dX8_setVariable_84 (fun H locs hP hS => ?_)
                  refine lv_iconst (v := 1) C.x C.b dX8_setVariable_87 (by decide +kernel) ?_
                  have hP : CH D cy ad A (tQ (tA (tI κ 8 x22) 16 (upd (κ.2.2.1 16) y1.toNatClampNeg k0)) 17 (va_up (κ.2.2.2.1 17) y1.toNatClampNeg (some k1))) H := CH.cong hP rfl rfl rfl rfl rfl rfl rfl rfl rfl rfl rfl rfl rfl rfl rfl rfl rfl rfl rfl rfl rfl rfl rfl rfl rfl rfl rfl
                  exact c_retz (ty := .boolean) (hv := rfl) C hsz hsl ⟨x22, (upd (κ.2.2.1 16) y1.toNatClampNeg k0), (va_up (κ.2.2.2.1 17) y1.toNatClampNeg (some k1))⟩ ⟨svz20, (vX8_setVariable_5  ), (vX8_setVariable_17 κ k0 y1 x14 x22 hpre_0 hpre_1 hi2_0 hi2_1 c2 c11 ex14 c15 c17 c19 c21 ex22 tx22)⟩ hP hS ⟨(Nat.le_of_ble_eq_true rfl), (Nat.le_of_ble_eq_true rfl)⟩ ⟨(Nat.le_of_ble_eq_true rfl), (Nat.le_of_ble_eq_true rfl)⟩ dX8_setVariable_88
              · have c19 : 12 ≤ y1.toInt := by have h := z_nlt c19; rw [show (12 : Int32).toInt = 12 from by decide +kernel] at h; exact h
                exact absurd (vX8_setVariable_18 κ y1 x14 hi2_0 hi2_1 c2 c11 ex14 c17 c19) id
          · have c15 : ¬ x14.toInt = k0.toInt := by have h := z_ne c15; exact h
            obtain ⟨x23, ex23⟩ : ∃ y : Int32, y = y1 + (1 : Int32) := ⟨_, rfl⟩
            have tx23 : x23.toInt = y1.toInt + 1 := (vX8_setVariable_19 κ k0 y1 x14 x23 hpre_0 hpre_1 hi2_0 hi2_1 c2 c11 ex14 c15 ex23)
            refine lv_iinc (v := x23) (lv' := [(3, .int x23), (0, .ref (ad 3)), (1, .int k0), (2, .ref k1)]) C.x C.b dX8_setVariable_29 hl (k := 0) rfl (by rw [ex23]; rfl) (by decide) rfl (fun ls hl => ?_)
            refine lv_goto (tgt := 2) C.x C.b dX8_setVariable_32 (by decide) ?_
            refine W.widen (k := 0) (n := 0) (Nat.le_of_ble_eq_true rfl) (Nat.le_of_ble_eq_true rfl) ?_
            exact ih2 x23 _ _ _ (Nat.lt_of_lt_of_le (vX8_setVariable_21 κ k0 y1 x14 x23 hpre_0 hpre_1 hi2_0 hi2_1 c2 c11 ex14 c15 ex23 tx23) (Nat.le_of_lt_succ hn2))  (vX8_setVariable_20 κ k0 y1 x14 x23 hpre_0 hpre_1 hi2_0 hi2_1 c2 c11 ex14 c15 ex23 tx23) hP hS (lv_sub hl [0, 1, 2, 3] rfl)
  refine W.widen (k := 0) (n := 0) (Nat.le_of_ble_eq_true rfl) (Nat.le_of_ble_eq_true rfl) ?_
  exact lp2 ((12 - (0 : Int32).toInt).toNat + 1) (0 : Int32) _ _ _ (Nat.lt_succ_self _)  (vX8_setVariable_1  ) hP hS (lv_sub hl [0, 1, 2, 3] rfl)

set_option maxHeartbeats 4000000 in
set_option maxRecDepth 100000 in
theorem NX8_property (l : Launch) (D : va_G) (cy : Nat → ClassId) (ad : Nat → Nat) (A : Nat → Prop) (sz0 : Nat) (sa : Nat → Nat)  (κ : KS) (sz sl : Nat) (hAF : ∀ q, A q → Fr sz0 q) (hAn : ∀ q : Nat, sz ≤ q → A q) (k0 : Option Nat) (k1 : Int32) (k2 : Int32) (ht0 : NT κ.2.2.2.2 1 k0) (hPV : PV sa κ.2.2.2.2) (hSV : SV ad κ.2.2.2.2 (κ.2.1 0) (κ.2.1 1) (κ.2.2.2.1 6) (κ.2.2.2.1 7) (κ.2.2.2.1 8) (κ.2.2.2.1 13) (κ.2.2.2.1 15) (κ.2.2.2.1 17) (κ.1 1).toInt) : Met l yX8_property (Cond.code yX8_property cX8_property 5 (some (.object "PhraseDesk$Value")) :: GWc) ({ frames := 3, cells := 1, slots := 5, locals := 68 }) (PcC D cy ad A sz0 sa [.ref (ad 3), va_rf k0, .int k1, .int k2] κ sz sl) (va_Qq (fun (r : Option Nat) (u : Int32 × PL) => (EX κ.2.2.2.2 u.2) ∧ (PV sa u.2) ∧ (SV ad u.2 (κ.2.1 0) (κ.2.1 1) (κ.2.2.2.1 6) (κ.2.2.2.1 7) (κ.2.2.2.1 8) (κ.2.2.2.1 13) (κ.2.2.2.1 15) (κ.2.2.2.1 17) (κ.1 1).toInt) ∧ (NT u.2 1 r)) (fun (u : Int32 × PL) (t : State) => Bx D cy ad A sz sl (tP (tI κ 9 u.1) u.2) (1) (5) t) A) (1) (5) A := by
  refine CM_of (loc0 := [(0, .ref (ad 3)), (1, va_rf k0), (2, .int k1), (3, .int k2)]) (own := RX8) (nm := "property") (by decide) rfl rfl (by cases k0 <;> rfl) (by cases k0 <;> exact Nat.le_of_ble_eq_true rfl) hAF hAn ?_
  intro p e s m below meth c ls hsz hsl C hP hS hl
  refine lq_aload_n C.x C.b dX8_property_0 rfl (lv_at hl 1 rfl) ?_
  cases k0 with
  | none =>
    refine lv_ifnonnullN C.x C.b dX8_property_1 ?_
    refine lv_null C.x C.b dX8_property_4 ?_
    have hP : CH D cy ad A (tP (tI κ 9 (κ.1 9)) κ.2.2.2.2) s.heap := CH.cong hP rfl rfl rfl rfl rfl rfl rfl rfl rfl rfl rfl rfl rfl rfl rfl rfl rfl rfl rfl rfl rfl rfl rfl rfl rfl rfl rfl
    exact c_retq (v := none) (Or.inl ⟨_, rfl⟩) C hsz hsl ⟨(κ.1 9), κ.2.2.2.2⟩ ⟨EX.rf, hPV, hSV, nt_n⟩ hP hS ⟨(Nat.le_of_ble_eq_true rfl), (Nat.le_of_ble_eq_true rfl)⟩ ⟨(Nat.le_of_ble_eq_true rfl), (Nat.le_of_ble_eq_true rfl)⟩ dX8_property_5
  | some b1 =>
    have hb1 : oT κ.2.2.2.2 b1 = 1 := ht0 b1 rfl
    refine lv_ifnonnull (tgt := 6) C.x C.b dX8_property_1 (by decide) ?_
    refine lv_aload_n C.x C.b dX8_property_6 rfl (lv_at hl 1 rfl) ?_
    obtain ⟨x2, ex2⟩ : ∃ z, oI κ.2.2.2.2 0 b1 = z := ⟨_, rfl⟩
    refine pg_X10_0 (v := x2) C hP (t20 (a := b1) (t := 1) hb1) ex2 cw_718 dX8_property_7 ?_
    refine lv_if_ne (tgt := 30) C.x C.b dX8_property_10 (by decide) (fun c3 => ?_) (fun c3 => ?_)
    · have c3 : ¬ x2.toInt = 0 := by have h := z_ne c3; rw [show (0 : Int32).toInt = 0 from by decide +kernel] at h; exact h
      refine lv_aload_n C.x C.b dX8_property_30 rfl (lv_at hl 1 rfl) ?_
      refine pg_X10_0 (v := x2) C hP (t20 (a := b1) (t := 1) hb1) ex2 cw_718 dX8_property_31 ?_
      refine lv_iconst (v := 4) C.x C.b dX8_property_34 (by decide +kernel) ?_
      refine lv_icmp_ne (tgt := 56) C.x C.b dX8_property_35 (by decide) (fun c4 => ?_) (fun c4 => ?_)
      · have c4 : ¬ x2.toInt = 4 := by have h := z_ne c4; rw [show (4 : Int32).toInt = 4 from by decide +kernel] at h; exact h
        refine lv_aload_n C.x C.b dX8_property_56 rfl (lv_at hl 1 rfl) ?_
        obtain ⟨x5, ex5⟩ : ∃ z, oR κ.2.2.2.2 1 b1 = z := ⟨_, rfl⟩
        refine pg_X10_4 (v := x5) C hP (t20 (a := b1) (t := 1) hb1) ex5 cw_720 dX8_property_57 ?_
        have tx5 : NT κ.2.2.2.2 6 x5 := by rw [← ex5]; exact (hPV.t1 hb1).2.1
        cases x5 with
        | none =>
          refine lv_ifnonnullN C.x C.b dX8_property_60 ?_
          refine lv_null C.x C.b dX8_property_63 ?_
          refine lv_goto (tgt := 75) C.x C.b dX8_property_64 (by decide) ?_
          refine lv_astoreN (lv' := [(4, .null), (0, .ref (ad 3)), (1, .ref b1), (2, .int k1), (3, .int k2)]) C.x C.b dX8_property_75 hl (by decide) rfl (fun ls hl => ?_)
          refine lv_aloadN C.x C.b dX8_property_77 (lv_at hl 0 rfl) ?_
          refine lv_ifnonnullN C.x C.b dX8_property_79 ?_
          refine lv_aload_n C.x C.b dX8_property_82 rfl (lv_at hl 1 rfl) ?_
          refine lv_iconst (v := 5) C.x C.b dX8_property_83 (by decide +kernel) ?_
          refine c_callVq (n := 1) (As := [.int 5]) (rest := []) C hP hS hl.1 (NX8_fail l D cy ad A sz0 sa κ s.heap.size (SLT s.heap) C.f (fun q h => C.a q (Nat.le_trans hS.1 h)) (5 : Int32) ) ⟨cw_702, cw_695, by decide +kernel⟩ ⟨cw_703, cw_704, cw_705⟩ rfl (hP.recvS (k := 3) (ci := 10) C.K rfl rfl) rfl rfl (lv_room (Nat.le_of_ble_eq_true rfl)) ⟨Nat.le_of_ble_eq_true rfl, Nat.le_of_ble_eq_true rfl⟩ ⟨(Nat.le_of_ble_eq_true rfl), (Nat.le_of_ble_eq_true rfl)⟩ dX8_property_84 (fun r7 u H locs hr7 hP hS => ?_)
          obtain ⟨n8, rfl⟩ : ∃ z, z = u := ⟨_, rfl⟩
          have hP : CH D cy ad A (tI κ 9 n8) H := hP
          have hr7 : (NT κ.2.2.2.2 1 r7) := hr7
          refine lv_goto (tgt := 92) C.x C.b dX8_property_87 (by decide) ?_
          have hP : CH D cy ad A (tP (tI κ 9 n8) κ.2.2.2.2) H := CH.cong hP rfl rfl rfl rfl rfl rfl rfl rfl rfl rfl rfl rfl rfl rfl rfl rfl rfl rfl rfl rfl rfl rfl rfl rfl rfl rfl rfl
          exact c_retq (v := r7) (Or.inl ⟨_, rfl⟩) C hsz hsl ⟨n8, κ.2.2.2.2⟩ ⟨EX.rf, hPV, hSV, hr7⟩ hP hS ⟨(Nat.le_of_ble_eq_true rfl), (Nat.le_of_ble_eq_true rfl)⟩ ⟨(Nat.le_of_ble_eq_true rfl), (Nat.le_of_ble_eq_true rfl)⟩ dX8_property_92
        | some b6 =>
          have hb6 : oT κ.2.2.2.2 b6 = 6 := tx5 b6 rfl
          refine lv_ifnonnull (tgt := 67) C.x C.b dX8_property_60 (by decide) ?_
          refine lv_aload_n C.x C.b dX8_property_67 rfl (lv_at hl 1 rfl) ?_
          refine pg_X10_4 (v := (some b6)) C hP (t20 (a := b1) (t := 1) hb1) ex5 cw_720 dX8_property_68 ?_
          refine lv_iload_n C.x C.b dX8_property_71 rfl (lv_at hl 2 rfl) ?_
          refine c_callVq (n := 1) (As := [.int k1]) (rest := []) C hP hS hl.1 (NX9_valueOf l D cy ad A sz0 sa κ s.heap.size (SLT s.heap) C.f (fun q h => C.a q (Nat.le_trans hS.1 h)) b6 k1 hb6 hPV) ⟨cw_723, cw_727, by decide +kernel⟩ ⟨cw_724, cw_725, cw_726⟩ rfl (hP.recvP (t := 6) (ci := 11) C.K (t20 (a := b6) (t := 6) hb6) (by decide) rfl rfl) rfl rfl (lv_room (Nat.le_of_ble_eq_true rfl)) ⟨Nat.le_of_ble_eq_true rfl, Nat.le_of_ble_eq_true rfl⟩ ⟨(Nat.le_of_ble_eq_true rfl), (Nat.le_of_ble_eq_true rfl)⟩ dX8_property_72 (fun r9 u H locs hr9 hP hS => ?_)
          have hr9 : (NT κ.2.2.2.2 1 r9) := hr9
          refine lq_astore (lv' := [(4, va_rf r9), (0, .ref (ad 3)), (1, .ref b1), (2, .int k1), (3, .int k2)]) C.x C.b dX8_property_75 hl (by decide) (by cases r9 <;> rfl) (fun ls hl => ?_)
          refine lq_aload C.x C.b dX8_property_77 (lv_at hl 0 rfl) ?_
          cases r9 with
          | none =>
            refine lv_ifnonnullN C.x C.b dX8_property_79 ?_
            refine lv_aload_n C.x C.b dX8_property_82 rfl (lv_at hl 1 rfl) ?_
            refine lv_iconst (v := 5) C.x C.b dX8_property_83 (by decide +kernel) ?_
            refine c_callVq (n := 1) (As := [.int 5]) (rest := []) C hP hS hl.1 (NX8_fail l D cy ad A sz0 sa κ H.size (SLT H) C.f (fun q h => C.a q (Nat.le_trans hS.1 h)) (5 : Int32) ) ⟨cw_702, cw_695, by decide +kernel⟩ ⟨cw_703, cw_704, cw_705⟩ rfl (hP.recvS (k := 3) (ci := 10) C.K rfl rfl) rfl rfl (lv_room (Nat.le_of_ble_eq_true rfl)) ⟨Nat.le_of_ble_eq_true rfl, Nat.le_of_ble_eq_true rfl⟩ ⟨(Nat.le_of_ble_eq_true rfl), (Nat.le_of_ble_eq_true rfl)⟩ dX8_property_84 (fun r11 u H locs hr11 hP hS => ?_)
            obtain ⟨n12, rfl⟩ : ∃ z, z = u := ⟨_, rfl⟩
            have hP : CH D cy ad A (tI κ 9 n12) H := hP
            have hr11 : (NT κ.2.2.2.2 1 r11) := hr11
            refine lv_goto (tgt := 92) C.x C.b dX8_property_87 (by decide) ?_
            have hP : CH D cy ad A (tP (tI κ 9 n12) κ.2.2.2.2) H := CH.cong hP rfl rfl rfl rfl rfl rfl rfl rfl rfl rfl rfl rfl rfl rfl rfl rfl rfl rfl rfl rfl rfl rfl rfl rfl rfl rfl rfl
            exact c_retq (v := r11) (Or.inl ⟨_, rfl⟩) C hsz hsl ⟨n12, κ.2.2.2.2⟩ ⟨EX.rf, hPV, hSV, hr11⟩ hP hS ⟨(Nat.le_of_ble_eq_true rfl), (Nat.le_of_ble_eq_true rfl)⟩ ⟨(Nat.le_of_ble_eq_true rfl), (Nat.le_of_ble_eq_true rfl)⟩ dX8_property_92
          | some b10 =>
            have hb10 : oT κ.2.2.2.2 b10 = 1 := hr9 b10 rfl
            refine lv_ifnonnull (tgt := 90) C.x C.b dX8_property_79 (by decide) ?_
            refine lv_aload C.x C.b dX8_property_90 (lv_at hl 0 rfl) ?_
            have hP : CH D cy ad A (tP (tI κ 9 (κ.1 9)) κ.2.2.2.2) H := CH.cong hP rfl rfl rfl rfl rfl rfl rfl rfl rfl rfl rfl rfl rfl rfl rfl rfl rfl rfl rfl rfl rfl rfl rfl rfl rfl rfl rfl
            exact c_retq (v := (some b10)) (Or.inl ⟨_, rfl⟩) C hsz hsl ⟨(κ.1 9), κ.2.2.2.2⟩ ⟨EX.rf, hPV, hSV, (nt_s hb10)⟩ hP hS ⟨(Nat.le_of_ble_eq_true rfl), (Nat.le_of_ble_eq_true rfl)⟩ ⟨(Nat.le_of_ble_eq_true rfl), (Nat.le_of_ble_eq_true rfl)⟩ dX8_property_92
      · have c4 : x2.toInt = 4 := by have h := z_eq c4; rw [show (4 : Int32).toInt = 4 from by decide +kernel] at h; exact h
        refine lv_iload_n C.x C.b dX8_property_38 rfl (lv_at hl 2 rfl) ?_
        refine lv_sipush (v := 8897) C.x C.b dX8_property_39 (by decide +kernel) ?_
        refine lv_icmp_ne (tgt := 56) C.x C.b dX8_property_42 (by decide) (fun c13 => ?_) (fun c13 => ?_)
        · have c13 : ¬ k1.toInt = 8897 := by have h := z_ne c13; rw [show (8897 : Int32).toInt = 8897 from by decide +kernel] at h; exact h
          refine lv_aload_n C.x C.b dX8_property_56 rfl (lv_at hl 1 rfl) ?_
          obtain ⟨x14, ex14⟩ : ∃ z, oR κ.2.2.2.2 1 b1 = z := ⟨_, rfl⟩
          refine pg_X10_4 (v := x14) C hP (t20 (a := b1) (t := 1) hb1) ex14 cw_720 dX8_property_57 ?_
          have tx14 : NT κ.2.2.2.2 6 x14 := by rw [← ex14]; exact (hPV.t1 hb1).2.1
          cases x14 with
          | none =>
            refine lv_ifnonnullN C.x C.b dX8_property_60 ?_
            refine lv_null C.x C.b dX8_property_63 ?_
            refine lv_goto (tgt := 75) C.x C.b dX8_property_64 (by decide) ?_
            refine lv_astoreN (lv' := [(4, .null), (0, .ref (ad 3)), (1, .ref b1), (2, .int k1), (3, .int k2)]) C.x C.b dX8_property_75 hl (by decide) rfl (fun ls hl => ?_)
            refine lv_aloadN C.x C.b dX8_property_77 (lv_at hl 0 rfl) ?_
            refine lv_ifnonnullN C.x C.b dX8_property_79 ?_
            refine lv_aload_n C.x C.b dX8_property_82 rfl (lv_at hl 1 rfl) ?_
            refine lv_iconst (v := 5) C.x C.b dX8_property_83 (by decide +kernel) ?_
            refine c_callVq (n := 1) (As := [.int 5]) (rest := []) C hP hS hl.1 (NX8_fail l D cy ad A sz0 sa κ s.heap.size (SLT s.heap) C.f (fun q h => C.a q (Nat.le_trans hS.1 h)) (5 : Int32) ) ⟨cw_702, cw_695, by decide +kernel⟩ ⟨cw_703, cw_704, cw_705⟩ rfl (hP.recvS (k := 3) (ci := 10) C.K rfl rfl) rfl rfl (lv_room (Nat.le_of_ble_eq_true rfl)) ⟨Nat.le_of_ble_eq_true rfl, Nat.le_of_ble_eq_true rfl⟩ ⟨(Nat.le_of_ble_eq_true rfl), (Nat.le_of_ble_eq_true rfl)⟩ dX8_property_84 (fun r16 u H locs hr16 hP hS => ?_)
            obtain ⟨n17, rfl⟩ : ∃ z, z = u := ⟨_, rfl⟩
            have hP : CH D cy ad A (tI κ 9 n17) H := hP
            have hr16 : (NT κ.2.2.2.2 1 r16) := hr16
            refine lv_goto (tgt := 92) C.x C.b dX8_property_87 (by decide) ?_
            have hP : CH D cy ad A (tP (tI κ 9 n17) κ.2.2.2.2) H := CH.cong hP rfl rfl rfl rfl rfl rfl rfl rfl rfl rfl rfl rfl rfl rfl rfl rfl rfl rfl rfl rfl rfl rfl rfl rfl rfl rfl rfl
            exact c_retq (v := r16) (Or.inl ⟨_, rfl⟩) C hsz hsl ⟨n17, κ.2.2.2.2⟩ ⟨EX.rf, hPV, hSV, hr16⟩ hP hS ⟨(Nat.le_of_ble_eq_true rfl), (Nat.le_of_ble_eq_true rfl)⟩ ⟨(Nat.le_of_ble_eq_true rfl), (Nat.le_of_ble_eq_true rfl)⟩ dX8_property_92
          | some b15 =>
            have hb15 : oT κ.2.2.2.2 b15 = 6 := tx14 b15 rfl
            refine lv_ifnonnull (tgt := 67) C.x C.b dX8_property_60 (by decide) ?_
            refine lv_aload_n C.x C.b dX8_property_67 rfl (lv_at hl 1 rfl) ?_
            refine pg_X10_4 (v := (some b15)) C hP (t20 (a := b1) (t := 1) hb1) ex14 cw_720 dX8_property_68 ?_
            refine lv_iload_n C.x C.b dX8_property_71 rfl (lv_at hl 2 rfl) ?_
            refine c_callVq (n := 1) (As := [.int k1]) (rest := []) C hP hS hl.1 (NX9_valueOf l D cy ad A sz0 sa κ s.heap.size (SLT s.heap) C.f (fun q h => C.a q (Nat.le_trans hS.1 h)) b15 k1 hb15 hPV) ⟨cw_723, cw_727, by decide +kernel⟩ ⟨cw_724, cw_725, cw_726⟩ rfl (hP.recvP (t := 6) (ci := 11) C.K (t20 (a := b15) (t := 6) hb15) (by decide) rfl rfl) rfl rfl (lv_room (Nat.le_of_ble_eq_true rfl)) ⟨Nat.le_of_ble_eq_true rfl, Nat.le_of_ble_eq_true rfl⟩ ⟨(Nat.le_of_ble_eq_true rfl), (Nat.le_of_ble_eq_true rfl)⟩ dX8_property_72 (fun r18 u H locs hr18 hP hS => ?_)
            have hr18 : (NT κ.2.2.2.2 1 r18) := hr18
            refine lq_astore (lv' := [(4, va_rf r18), (0, .ref (ad 3)), (1, .ref b1), (2, .int k1), (3, .int k2)]) C.x C.b dX8_property_75 hl (by decide) (by cases r18 <;> rfl) (fun ls hl => ?_)
            refine lq_aload C.x C.b dX8_property_77 (lv_at hl 0 rfl) ?_
            cases r18 with
            | none =>
              refine lv_ifnonnullN C.x C.b dX8_property_79 ?_
              refine lv_aload_n C.x C.b dX8_property_82 rfl (lv_at hl 1 rfl) ?_
              refine lv_iconst (v := 5) C.x C.b dX8_property_83 (by decide +kernel) ?_
              refine c_callVq (n := 1) (As := [.int 5]) (rest := []) C hP hS hl.1 (NX8_fail l D cy ad A sz0 sa κ H.size (SLT H) C.f (fun q h => C.a q (Nat.le_trans hS.1 h)) (5 : Int32) ) ⟨cw_702, cw_695, by decide +kernel⟩ ⟨cw_703, cw_704, cw_705⟩ rfl (hP.recvS (k := 3) (ci := 10) C.K rfl rfl) rfl rfl (lv_room (Nat.le_of_ble_eq_true rfl)) ⟨Nat.le_of_ble_eq_true rfl, Nat.le_of_ble_eq_true rfl⟩ ⟨(Nat.le_of_ble_eq_true rfl), (Nat.le_of_ble_eq_true rfl)⟩ dX8_property_84 (fun r20 u H locs hr20 hP hS => ?_)
              obtain ⟨n21, rfl⟩ : ∃ z, z = u := ⟨_, rfl⟩
              have hP : CH D cy ad A (tI κ 9 n21) H := hP
              have hr20 : (NT κ.2.2.2.2 1 r20) := hr20
              refine lv_goto (tgt := 92) C.x C.b dX8_property_87 (by decide) ?_
              have hP : CH D cy ad A (tP (tI κ 9 n21) κ.2.2.2.2) H := CH.cong hP rfl rfl rfl rfl rfl rfl rfl rfl rfl rfl rfl rfl rfl rfl rfl rfl rfl rfl rfl rfl rfl rfl rfl rfl rfl rfl rfl
              exact c_retq (v := r20) (Or.inl ⟨_, rfl⟩) C hsz hsl ⟨n21, κ.2.2.2.2⟩ ⟨EX.rf, hPV, hSV, hr20⟩ hP hS ⟨(Nat.le_of_ble_eq_true rfl), (Nat.le_of_ble_eq_true rfl)⟩ ⟨(Nat.le_of_ble_eq_true rfl), (Nat.le_of_ble_eq_true rfl)⟩ dX8_property_92
            | some b19 =>
              have hb19 : oT κ.2.2.2.2 b19 = 1 := hr18 b19 rfl
              refine lv_ifnonnull (tgt := 90) C.x C.b dX8_property_79 (by decide) ?_
              refine lv_aload C.x C.b dX8_property_90 (lv_at hl 0 rfl) ?_
              have hP : CH D cy ad A (tP (tI κ 9 (κ.1 9)) κ.2.2.2.2) H := CH.cong hP rfl rfl rfl rfl rfl rfl rfl rfl rfl rfl rfl rfl rfl rfl rfl rfl rfl rfl rfl rfl rfl rfl rfl rfl rfl rfl rfl
              exact c_retq (v := (some b19)) (Or.inl ⟨_, rfl⟩) C hsz hsl ⟨(κ.1 9), κ.2.2.2.2⟩ ⟨EX.rf, hPV, hSV, (nt_s hb19)⟩ hP hS ⟨(Nat.le_of_ble_eq_true rfl), (Nat.le_of_ble_eq_true rfl)⟩ ⟨(Nat.le_of_ble_eq_true rfl), (Nat.le_of_ble_eq_true rfl)⟩ dX8_property_92
        · have c13 : k1.toInt = 8897 := by have h := z_eq c13; rw [show (8897 : Int32).toInt = 8897 from by decide +kernel] at h; exact h
          refine lv_aload_n C.x C.b dX8_property_45 rfl (lv_at hl 1 rfl) ?_
          obtain ⟨x22, ex22, hx22⟩ := (hPV.t1 hb1).1
          refine pg_X10_3 (v := some x22) C hP (t20 (a := b1) (t := 1) hb1) ex22 cw_719 dX8_property_46 ?_
          obtain ⟨n23, sln23, len23⟩ := hx22.sl hPV C
          refine c_callVi (n := 0) (As := []) (rest := []) C hP hS hl.1 (NJ0_length_8abf5 l D cy ad A sz0 sa κ s.heap.size (SLT s.heap) C.f (fun q h => C.a q (Nat.le_trans hS.1 h)) x22 n23 sln23 hPV) ⟨cw_721, cw_101, by decide +kernel⟩ ⟨cw_99, cw_100, cw_70⟩ rfl (c_srecv C hP hS hx22) rfl rfl (lv_room (Nat.le_of_ble_eq_true rfl)) ⟨Nat.le_of_ble_eq_true rfl, Nat.le_of_ble_eq_true rfl⟩ ⟨(Nat.le_of_ble_eq_true rfl), (Nat.le_of_ble_eq_true rfl)⟩ dX8_property_49 (fun r24 u H locs hr24 hP hS => ?_)
          have hr24 : (r24.toInt = ((n23 : Nat) : Int)) := hr24
          refine c_callSq (C2 := "") (b := 0) (n := 1) (As := [.int r24]) (rest := []) C hP hS hl.1 (NX10_ofInt l D cy ad A sz0 sa κ H.size (SLT H) C.f (fun q h => C.a q (Nat.le_trans hS.1 h)) r24 hPV) ⟨cw_722, cw_97, by decide +kernel⟩ ⟨cw_96, cw_40⟩ rfl rfl (lv_room (Nat.le_of_ble_eq_true rfl)) ⟨Nat.le_of_ble_eq_true rfl, Nat.le_of_ble_eq_true rfl⟩ ⟨(Nat.le_of_ble_eq_true rfl), (Nat.le_of_ble_eq_true rfl)⟩ dX8_property_52 (fun r25 u H locs hr25 hP hS => ?_)
          obtain ⟨P26, rfl⟩ : ∃ z, z = u := ⟨_, rfl⟩
          have hP : CH D cy ad A (tP κ P26) H := hP
          have hr25 : (EX κ.2.2.2.2 P26) ∧ (PV sa P26) ∧ (NN P26 1 r25) := hr25
          obtain ⟨hr25_0, hr25_1, hr25_2⟩ := hr25
          obtain ⟨b27, rfl, tb27⟩ := hr25_2
          have svz28 : SV ad P26 (κ.2.1 0) (κ.2.1 1) (κ.2.2.2.1 6) (κ.2.2.2.1 7) (κ.2.2.2.1 8) (κ.2.2.2.1 13) (κ.2.2.2.1 15) (κ.2.2.2.1 17) (κ.1 1).toInt := hSV.ex hr25_0
          have hP : CH D cy ad A (tP (tI κ 9 (κ.1 9)) P26) H := CH.cong hP rfl rfl rfl rfl rfl rfl rfl rfl rfl rfl rfl rfl rfl rfl rfl rfl rfl rfl rfl rfl rfl rfl rfl rfl rfl rfl rfl
          exact c_retq (v := (some b27)) (Or.inl ⟨_, rfl⟩) C hsz hsl ⟨(κ.1 9), P26⟩ ⟨hr25_0, hr25_1, svz28, (nt_s tb27)⟩ hP hS ⟨(Nat.le_of_ble_eq_true rfl), (Nat.le_of_ble_eq_true rfl)⟩ ⟨(Nat.le_of_ble_eq_true rfl), (Nat.le_of_ble_eq_true rfl)⟩ dX8_property_55
    · have c3 : x2.toInt = 0 := by have h := z_eq c3; rw [show (0 : Int32).toInt = 0 from by decide +kernel] at h; exact h
      refine lv_iload_n C.x C.b dX8_property_13 rfl (lv_at hl 3 rfl) ?_
      refine lv_if_eq (tgt := 24) C.x C.b dX8_property_14 (by decide) (fun c29 => ?_) (fun c29 => ?_)
      · have c29 : k2.toInt = 0 := by have h := z_eq c29; rw [show (0 : Int32).toInt = 0 from by decide +kernel] at h; exact h
        refine lv_aload_n C.x C.b dX8_property_24 rfl (lv_at hl 0 rfl) ?_
        refine lv_iconst (v := 4) C.x C.b dX8_property_25 (by decide +kernel) ?_
        refine c_callVq (n := 1) (As := [.int 4]) (rest := []) C hP hS hl.1 (NX8_fail l D cy ad A sz0 sa κ s.heap.size (SLT s.heap) C.f (fun q h => C.a q (Nat.le_trans hS.1 h)) (4 : Int32) ) ⟨cw_702, cw_695, by decide +kernel⟩ ⟨cw_703, cw_704, cw_705⟩ rfl (hP.recvS (k := 3) (ci := 10) C.K rfl rfl) rfl rfl (lv_room (Nat.le_of_ble_eq_true rfl)) ⟨Nat.le_of_ble_eq_true rfl, Nat.le_of_ble_eq_true rfl⟩ ⟨(Nat.le_of_ble_eq_true rfl), (Nat.le_of_ble_eq_true rfl)⟩ dX8_property_26 (fun r30 u H locs hr30 hP hS => ?_)
        obtain ⟨n31, rfl⟩ : ∃ z, z = u := ⟨_, rfl⟩
        have hP : CH D cy ad A (tI κ 9 n31) H := hP
        have hr30 : (NT κ.2.2.2.2 1 r30) := hr30
        have hP : CH D cy ad A (tP (tI κ 9 n31) κ.2.2.2.2) H := CH.cong hP rfl rfl rfl rfl rfl rfl rfl rfl rfl rfl rfl rfl rfl rfl rfl rfl rfl rfl rfl rfl rfl rfl rfl rfl rfl rfl rfl
        exact c_retq (v := r30) (Or.inl ⟨_, rfl⟩) C hsz hsl ⟨n31, κ.2.2.2.2⟩ ⟨EX.rf, hPV, hSV, hr30⟩ hP hS ⟨(Nat.le_of_ble_eq_true rfl), (Nat.le_of_ble_eq_true rfl)⟩ ⟨(Nat.le_of_ble_eq_true rfl), (Nat.le_of_ble_eq_true rfl)⟩ dX8_property_29
      · have c29 : ¬ k2.toInt = 0 := by have h := z_ne c29; rw [show (0 : Int32).toInt = 0 from by decide +kernel] at h; exact h
        refine lv_aload_n C.x C.b dX8_property_17 rfl (lv_at hl 0 rfl) ?_
        refine cg_X8_0 C hP cw_677 dX8_property_18 ?_
        refine lv_goto (tgt := 29) C.x C.b dX8_property_21 (by decide) ?_
        have hP : CH D cy ad A (tP (tI κ 9 (κ.1 9)) κ.2.2.2.2) s.heap := CH.cong hP rfl rfl rfl rfl rfl rfl rfl rfl rfl rfl rfl rfl rfl rfl rfl rfl rfl rfl rfl rfl rfl rfl rfl rfl rfl rfl rfl
        exact c_retq (v := (some (ad 20))) (Or.inl ⟨_, rfl⟩) C hsz hsl ⟨(κ.1 9), κ.2.2.2.2⟩ ⟨EX.rf, hPV, hSV, (nt_s hSV.a20)⟩ hP hS ⟨(Nat.le_of_ble_eq_true rfl), (Nat.le_of_ble_eq_true rfl)⟩ ⟨(Nat.le_of_ble_eq_true rfl), (Nat.le_of_ble_eq_true rfl)⟩ dX8_property_29

set_option maxHeartbeats 4000000 in
set_option maxRecDepth 100000 in
theorem NX8_fit (l : Launch) (D : va_G) (cy : Nat → ClassId) (ad : Nat → Nat) (A : Nat → Prop) (sz0 : Nat) (sa : Nat → Nat)  (κ : KS) (sz sl : Nat) (hAF : ∀ q, A q → Fr sz0 q) (hAn : ∀ q : Nat, sz ≤ q → A q) (k0 : Nat) (k1 : Int32) (ht0 : oT κ.2.2.2.2 k0 = 1) (hPV : PV sa κ.2.2.2.2) (hSV : SV ad κ.2.2.2.2 (κ.2.1 0) (κ.2.1 1) (κ.2.2.2.1 6) (κ.2.2.2.1 7) (κ.2.2.2.1 8) (κ.2.2.2.1 13) (κ.2.2.2.1 15) (κ.2.2.2.1 17) (κ.1 1).toInt) : Met l yX8_fit (Cond.code yX8_fit cX8_fit 4 (some (.object "PhraseDesk$Value")) :: GWc) ({ frames := 8, cells := 3, slots := 21, locals := 195 }) (PcC D cy ad A sz0 sa [.ref (ad 3), .ref k0, .int k1] κ sz sl) (va_Qq (fun (r : Option Nat) (u : Int32 × PL) => (EX κ.2.2.2.2 u.2) ∧ (PV sa u.2) ∧ (SV ad u.2 (κ.2.1 0) (κ.2.1 1) (κ.2.2.2.1 6) (κ.2.2.2.1 7) (κ.2.2.2.1 8) (κ.2.2.2.1 13) (κ.2.2.2.1 15) (κ.2.2.2.1 17) (κ.1 1).toInt) ∧ (NT u.2 1 r)) (fun (u : Int32 × PL) (t : State) => Bx D cy ad A sz sl (tP (tI κ 9 u.1) u.2) (3) (21) t) A) (3) (21) A := by
  refine CM_of (loc0 := [(0, .ref (ad 3)), (1, .ref k0), (2, .int k1)]) (own := RX8) (nm := "fit") (by decide) rfl rfl rfl (Nat.le_of_ble_eq_true rfl) hAF hAn ?_
  intro p e s m below meth c ls hsz hsl C hP hS hl
  refine lv_aload_n C.x C.b dX8_fit_0 rfl (lv_at hl 1 rfl) ?_
  refine lv_iload_n C.x C.b dX8_fit_1 rfl (lv_at hl 2 rfl) ?_
  refine c_callVi (n := 1) (As := [.int k1]) (rest := []) C hP hS hl.1 (NX10_fits l D cy ad A sz0 sa κ s.heap.size (SLT s.heap) C.f (fun q h => C.a q (Nat.le_trans hS.1 h)) k0 k1 ht0 hPV) ⟨cw_782, cw_41, by decide +kernel⟩ ⟨cw_38, cw_39, cw_40⟩ rfl (hP.recvP (t := 1) (ci := 12) C.K (t20 (a := k0) (t := 1) ht0) (by decide) rfl rfl) rfl rfl (lv_room (Nat.le_of_ble_eq_true rfl)) ⟨Nat.le_of_ble_eq_true rfl, Nat.le_of_ble_eq_true rfl⟩ ⟨(Nat.le_of_ble_eq_true rfl), (Nat.le_of_ble_eq_true rfl)⟩ dX8_fit_2 (fun r1 u H locs hr1 hP hS => ?_)
  have hr1 : (0 ≤ r1.toInt ∧ r1.toInt ≤ 1) := hr1
  obtain ⟨hr1_0, hr1_1⟩ := hr1
  refine lv_if_eq (tgt := 10) C.x C.b dX8_fit_5 (by decide) (fun c2 => ?_) (fun c2 => ?_)
  · have c2 : r1.toInt = 0 := by have h := z_eq c2; rw [show (0 : Int32).toInt = 0 from by decide +kernel] at h; exact h
    refine lv_aload_n C.x C.b dX8_fit_10 rfl (lv_at hl 0 rfl) ?_
    refine cg_X8_1 C hP cw_680 dX8_fit_11 ?_
    refine lv_aload_n C.x C.b dX8_fit_14 rfl (lv_at hl 1 rfl) ?_
    refine lv_iload_n C.x C.b dX8_fit_15 rfl (lv_at hl 2 rfl) ?_
    refine c_callVi (n := 2) (As := [.ref k0, .int k1]) (rest := []) C hP hS hl.1 (NX0_reach l D cy ad A sz0 sa κ H.size (SLT H) C.f (fun q h => C.a q (Nat.le_trans hS.1 h)) k0 k1 ht0 hPV) ⟨cw_783, cw_54, by decide +kernel⟩ ⟨cw_52, cw_53, cw_34⟩ rfl (hP.recvS (k := 4) (ci := 2) C.K rfl rfl) rfl rfl (lv_room (Nat.le_of_ble_eq_true rfl)) ⟨Nat.le_of_ble_eq_true rfl, Nat.le_of_ble_eq_true rfl⟩ ⟨(Nat.le_of_ble_eq_true rfl), (Nat.le_of_ble_eq_true rfl)⟩ dX8_fit_16 (fun r3 u H locs hr3 hP hS => ?_)
    have hr3 : (0 ≤ r3.toInt ∧ r3.toInt ≤ 1) := hr3
    obtain ⟨hr3_0, hr3_1⟩ := hr3
    refine lv_if_ne (tgt := 29) C.x C.b dX8_fit_19 (by decide) (fun c4 => ?_) (fun c4 => ?_)
    · have c4 : ¬ r3.toInt = 0 := by have h := z_ne c4; rw [show (0 : Int32).toInt = 0 from by decide +kernel] at h; exact h
      refine lv_aload_n C.x C.b dX8_fit_29 rfl (lv_at hl 0 rfl) ?_
      refine cg_X8_1 C hP cw_680 dX8_fit_30 ?_
      refine lv_aload_n C.x C.b dX8_fit_33 rfl (lv_at hl 1 rfl) ?_
      refine lv_iload_n C.x C.b dX8_fit_34 rfl (lv_at hl 2 rfl) ?_
      refine c_callVq (n := 2) (As := [.ref k0, .int k1]) (rest := []) C hP hS hl.1 (NX0_convert l D cy ad A sz0 sa κ H.size (SLT H) C.f (fun q h => C.a q (Nat.le_trans hS.1 h)) k0 k1 ht0 hPV hSV.a19) ⟨cw_784, cw_60, by decide +kernel⟩ ⟨cw_785, cw_786, cw_34⟩ rfl (hP.recvS (k := 4) (ci := 2) C.K rfl rfl) rfl rfl (lv_room (Nat.le_of_ble_eq_true rfl)) ⟨Nat.le_of_ble_eq_true rfl, Nat.le_of_ble_eq_true rfl⟩ ⟨(Nat.le_of_ble_eq_true rfl), (Nat.le_of_ble_eq_true rfl)⟩ dX8_fit_35 (fun r5 u H locs hr5 hP hS => ?_)
      obtain ⟨P6, rfl⟩ : ∃ z, z = u := ⟨_, rfl⟩
      have hP : CH D cy ad A (tP κ P6) H := hP
      have hr5 : (EX κ.2.2.2.2 P6) ∧ (PV sa P6) ∧ (NT P6 1 r5) := hr5
      obtain ⟨hr5_0, hr5_1, hr5_2⟩ := hr5
      have svz7 : SV ad P6 (κ.2.1 0) (κ.2.1 1) (κ.2.2.2.1 6) (κ.2.2.2.1 7) (κ.2.2.2.1 8) (κ.2.2.2.1 13) (κ.2.2.2.1 15) (κ.2.2.2.1 17) (κ.1 1).toInt := hSV.ex hr5_0
      refine lq_astore_n (lv' := [(3, va_rf r5), (0, .ref (ad 3)), (1, .ref k0), (2, .int k1)]) C.x C.b dX8_fit_38 rfl hl (by decide) (by cases r5 <;> rfl) (fun ls hl => ?_)
      refine lq_aload_n C.x C.b dX8_fit_39 rfl (lv_at hl 0 rfl) ?_
      cases r5 with
      | none =>
        refine lv_ifnonnullN C.x C.b dX8_fit_40 ?_
        refine lv_aload_n C.x C.b dX8_fit_43 rfl (lv_at hl 1 rfl) ?_
        refine lv_bipush (v := 10) C.x C.b dX8_fit_44 (by decide +kernel) ?_
        refine c_callVq (n := 1) (As := [.int 10]) (rest := []) C hP hS hl.1 (NX8_fail l D cy ad A sz0 sa (tP κ P6) H.size (SLT H) C.f (fun q h => C.a q (Nat.le_trans hS.1 h)) (10 : Int32) ) ⟨cw_702, cw_695, by decide +kernel⟩ ⟨cw_703, cw_704, cw_705⟩ rfl (hP.recvS (k := 3) (ci := 10) C.K rfl rfl) rfl rfl (lv_room (Nat.le_of_ble_eq_true rfl)) ⟨Nat.le_of_ble_eq_true rfl, Nat.le_of_ble_eq_true rfl⟩ ⟨(Nat.le_of_ble_eq_true rfl), (Nat.le_of_ble_eq_true rfl)⟩ dX8_fit_46 (fun r9 u H locs hr9 hP hS => ?_)
        obtain ⟨n10, rfl⟩ : ∃ z, z = u := ⟨_, rfl⟩
        have hP : CH D cy ad A (tI (tP κ P6) 9 n10) H := hP
        have hr9 : (NT P6 1 r9) := hr9
        refine lv_goto (tgt := 53) C.x C.b dX8_fit_49 (by decide) ?_
        have hP : CH D cy ad A (tP (tI κ 9 n10) P6) H := CH.cong hP rfl rfl rfl rfl rfl rfl rfl rfl rfl rfl rfl rfl rfl rfl rfl rfl rfl rfl rfl rfl rfl rfl rfl rfl rfl rfl rfl
        exact c_retq (v := r9) (Or.inl ⟨_, rfl⟩) C hsz hsl ⟨n10, P6⟩ ⟨hr5_0, hr5_1, svz7, hr9⟩ hP hS ⟨(Nat.le_of_ble_eq_true rfl), (Nat.le_of_ble_eq_true rfl)⟩ ⟨(Nat.le_of_ble_eq_true rfl), (Nat.le_of_ble_eq_true rfl)⟩ dX8_fit_53
      | some b8 =>
        have hb8 : oT P6 b8 = 1 := hr5_2 b8 rfl
        refine lv_ifnonnull (tgt := 52) C.x C.b dX8_fit_40 (by decide) ?_
        refine lv_aload_n C.x C.b dX8_fit_52 rfl (lv_at hl 0 rfl) ?_
        have hP : CH D cy ad A (tP (tI κ 9 (κ.1 9)) P6) H := CH.cong hP rfl rfl rfl rfl rfl rfl rfl rfl rfl rfl rfl rfl rfl rfl rfl rfl rfl rfl rfl rfl rfl rfl rfl rfl rfl rfl rfl
        exact c_retq (v := (some b8)) (Or.inl ⟨_, rfl⟩) C hsz hsl ⟨(κ.1 9), P6⟩ ⟨hr5_0, hr5_1, svz7, (nt_s hb8)⟩ hP hS ⟨(Nat.le_of_ble_eq_true rfl), (Nat.le_of_ble_eq_true rfl)⟩ ⟨(Nat.le_of_ble_eq_true rfl), (Nat.le_of_ble_eq_true rfl)⟩ dX8_fit_53
    · have c4 : r3.toInt = 0 := by have h := z_eq c4; rw [show (0 : Int32).toInt = 0 from by decide +kernel] at h; exact h
      refine lv_aload_n C.x C.b dX8_fit_22 rfl (lv_at hl 0 rfl) ?_
      refine lv_bipush (v := 6) C.x C.b dX8_fit_23 (by decide +kernel) ?_
      refine c_callVq (n := 1) (As := [.int 6]) (rest := []) C hP hS hl.1 (NX8_fail l D cy ad A sz0 sa κ H.size (SLT H) C.f (fun q h => C.a q (Nat.le_trans hS.1 h)) (6 : Int32) ) ⟨cw_702, cw_695, by decide +kernel⟩ ⟨cw_703, cw_704, cw_705⟩ rfl (hP.recvS (k := 3) (ci := 10) C.K rfl rfl) rfl rfl (lv_room (Nat.le_of_ble_eq_true rfl)) ⟨Nat.le_of_ble_eq_true rfl, Nat.le_of_ble_eq_true rfl⟩ ⟨(Nat.le_of_ble_eq_true rfl), (Nat.le_of_ble_eq_true rfl)⟩ dX8_fit_25 (fun r11 u H locs hr11 hP hS => ?_)
      obtain ⟨n12, rfl⟩ : ∃ z, z = u := ⟨_, rfl⟩
      have hP : CH D cy ad A (tI κ 9 n12) H := hP
      have hr11 : (NT κ.2.2.2.2 1 r11) := hr11
      have hP : CH D cy ad A (tP (tI κ 9 n12) κ.2.2.2.2) H := CH.cong hP rfl rfl rfl rfl rfl rfl rfl rfl rfl rfl rfl rfl rfl rfl rfl rfl rfl rfl rfl rfl rfl rfl rfl rfl rfl rfl rfl
      exact c_retq (v := r11) (Or.inl ⟨_, rfl⟩) C hsz hsl ⟨n12, κ.2.2.2.2⟩ ⟨EX.rf, hPV, hSV, hr11⟩ hP hS ⟨(Nat.le_of_ble_eq_true rfl), (Nat.le_of_ble_eq_true rfl)⟩ ⟨(Nat.le_of_ble_eq_true rfl), (Nat.le_of_ble_eq_true rfl)⟩ dX8_fit_28
  · have c2 : ¬ r1.toInt = 0 := by have h := z_ne c2; rw [show (0 : Int32).toInt = 0 from by decide +kernel] at h; exact h
    refine lv_aload_n C.x C.b dX8_fit_8 rfl (lv_at hl 1 rfl) ?_
    have hP : CH D cy ad A (tP (tI κ 9 (κ.1 9)) κ.2.2.2.2) H := CH.cong hP rfl rfl rfl rfl rfl rfl rfl rfl rfl rfl rfl rfl rfl rfl rfl rfl rfl rfl rfl rfl rfl rfl rfl rfl rfl rfl rfl
    exact c_retq (v := (some k0)) (Or.inl ⟨_, rfl⟩) C hsz hsl ⟨(κ.1 9), κ.2.2.2.2⟩ ⟨EX.rf, hPV, hSV, (nt_s ht0)⟩ hP hS ⟨(Nat.le_of_ble_eq_true rfl), (Nat.le_of_ble_eq_true rfl)⟩ ⟨(Nat.le_of_ble_eq_true rfl), (Nat.le_of_ble_eq_true rfl)⟩ dX8_fit_9

-- div@94 @94
theorem vX8_ofInts_1 (k2 : Int32) (c12 : ¬ k2.toInt = 0) : ¬ k2 = 0 := by
  intro h
  subst h; first | omega | simp_all
-- div@94 @94
theorem vX8_ofInts_2 (k2 : Int32) (c25 : ¬ k2.toInt = 0) : ¬ k2 = 0 := by
  intro h
  subst h; first | omega | simp_all
-- div@75 @75
theorem vX8_ofInts_3 (k2 : Int32) (c33 : ¬ k2.toInt = 0) : ¬ k2 = 0 := by
  intro h
  subst h; first | omega | simp_all
-- div@94 @94
theorem vX8_ofInts_4 (k2 : Int32) (c41 : ¬ k2.toInt = 0) : ¬ k2 = 0 := by
  intro h
  subst h; first | omega | simp_all
set_option maxHeartbeats 4000000 in
set_option maxRecDepth 100000 in
theorem NX8_ofInts (l : Launch) (D : va_G) (cy : Nat → ClassId) (ad : Nat → Nat) (A : Nat → Prop) (sz0 : Nat) (sa : Nat → Nat)  (κ : KS) (sz sl : Nat) (hAF : ∀ q, A q → Fr sz0 q) (hAn : ∀ q : Nat, sz ≤ q → A q) (k0 : Int32) (k1 : Int32) (k2 : Int32) (hPV : PV sa κ.2.2.2.2) (hSV : SV ad κ.2.2.2.2 (κ.2.1 0) (κ.2.1 1) (κ.2.2.2.1 6) (κ.2.2.2.1 7) (κ.2.2.2.1 8) (κ.2.2.2.1 13) (κ.2.2.2.1 15) (κ.2.2.2.1 17) (κ.1 1).toInt) : Met l yX8_ofInts (Cond.code yX8_ofInts cX8_ofInts 4 (some (.object "PhraseDesk$Value")) :: GWc) ({ frames := 3, cells := 1, slots := 5, locals := 66 }) (PcC D cy ad A sz0 sa [.ref (ad 3), .int k0, .int k1, .int k2] κ sz sl) (va_Qq (fun (r : Option Nat) (u : Int32 × PL) => (EX κ.2.2.2.2 u.2) ∧ (PV sa u.2) ∧ (SV ad u.2 (κ.2.1 0) (κ.2.1 1) (κ.2.2.2.1 6) (κ.2.2.2.1 7) (κ.2.2.2.1 8) (κ.2.2.2.1 13) (κ.2.2.2.1 15) (κ.2.2.2.1 17) (κ.1 1).toInt) ∧ (NT u.2 1 r)) (fun (u : Int32 × PL) (t : State) => Bx D cy ad A sz sl (tP (tI κ 9 u.1) u.2) (1) (5) t) A) (1) (5) A := by
  refine CM_of (loc0 := [(0, .ref (ad 3)), (1, .int k0), (2, .int k1), (3, .int k2)]) (own := RX8) (nm := "ofInts") (by decide) rfl rfl rfl (Nat.le_of_ble_eq_true rfl) hAF hAn ?_
  intro p e s m below meth c ls hsz hsl C hP hS hl
  refine lv_iload_n C.x C.b dX8_ofInts_0 rfl (lv_at hl 1 rfl) ?_
  by_cases c1_42 : k0.toInt = 42
  · refine lv_tableIn (off := 53) (tgt := 54) C.x C.b dX8_ofInts_1 (by rw [c1_42]; decide +kernel) (by rw [c1_42]; decide +kernel) (by rw [c1_42]; decide +kernel) (by decide) ?_
    refine lv_iload_n C.x C.b dX8_ofInts_54 rfl (lv_at hl 2 rfl) ?_
    refine lv_iload_n C.x C.b dX8_ofInts_55 rfl (lv_at hl 3 rfl) ?_
    refine lv_imul C.x C.b dX8_ofInts_56 ?_
    refine lv_topi (fun x2 ex2 => ?_)
    refine c_callSq (C2 := "") (b := 0) (n := 1) (As := [.int x2]) (rest := []) C hP hS hl.1 (NX10_ofInt l D cy ad A sz0 sa κ s.heap.size (SLT s.heap) C.f (fun q h => C.a q (Nat.le_trans hS.1 h)) x2 hPV) ⟨cw_722, cw_97, by decide +kernel⟩ ⟨cw_96, cw_40⟩ rfl rfl (lv_room (Nat.le_of_ble_eq_true rfl)) ⟨Nat.le_of_ble_eq_true rfl, Nat.le_of_ble_eq_true rfl⟩ ⟨(Nat.le_of_ble_eq_true rfl), (Nat.le_of_ble_eq_true rfl)⟩ dX8_ofInts_57 (fun r3 u H locs hr3 hP hS => ?_)
    obtain ⟨P4, rfl⟩ : ∃ z, z = u := ⟨_, rfl⟩
    have hP : CH D cy ad A (tP κ P4) H := hP
    have hr3 : (EX κ.2.2.2.2 P4) ∧ (PV sa P4) ∧ (NN P4 1 r3) := hr3
    obtain ⟨hr3_0, hr3_1, hr3_2⟩ := hr3
    obtain ⟨b5, rfl, tb5⟩ := hr3_2
    have svz6 : SV ad P4 (κ.2.1 0) (κ.2.1 1) (κ.2.2.2.1 6) (κ.2.2.2.1 7) (κ.2.2.2.1 8) (κ.2.2.2.1 13) (κ.2.2.2.1 15) (κ.2.2.2.1 17) (κ.1 1).toInt := hSV.ex hr3_0
    have hP : CH D cy ad A (tP (tI κ 9 (κ.1 9)) P4) H := CH.cong hP rfl rfl rfl rfl rfl rfl rfl rfl rfl rfl rfl rfl rfl rfl rfl rfl rfl rfl rfl rfl rfl rfl rfl rfl rfl rfl rfl
    exact c_retq (v := (some b5)) (Or.inl ⟨_, rfl⟩) C hsz hsl ⟨(κ.1 9), P4⟩ ⟨hr3_0, hr3_1, svz6, (nt_s tb5)⟩ hP hS ⟨(Nat.le_of_ble_eq_true rfl), (Nat.le_of_ble_eq_true rfl)⟩ ⟨(Nat.le_of_ble_eq_true rfl), (Nat.le_of_ble_eq_true rfl)⟩ dX8_ofInts_60
  · by_cases c1_43 : k0.toInt = 43
    · refine lv_tableIn (off := 39) (tgt := 40) C.x C.b dX8_ofInts_1 (by rw [c1_43]; decide +kernel) (by rw [c1_43]; decide +kernel) (by rw [c1_43]; decide +kernel) (by decide) ?_
      refine lv_iload_n C.x C.b dX8_ofInts_40 rfl (lv_at hl 2 rfl) ?_
      refine lv_iload_n C.x C.b dX8_ofInts_41 rfl (lv_at hl 3 rfl) ?_
      refine lv_iadd C.x C.b dX8_ofInts_42 ?_
      refine lv_topi (fun x7 ex7 => ?_)
      refine c_callSq (C2 := "") (b := 0) (n := 1) (As := [.int x7]) (rest := []) C hP hS hl.1 (NX10_ofInt l D cy ad A sz0 sa κ s.heap.size (SLT s.heap) C.f (fun q h => C.a q (Nat.le_trans hS.1 h)) x7 hPV) ⟨cw_722, cw_97, by decide +kernel⟩ ⟨cw_96, cw_40⟩ rfl rfl (lv_room (Nat.le_of_ble_eq_true rfl)) ⟨Nat.le_of_ble_eq_true rfl, Nat.le_of_ble_eq_true rfl⟩ ⟨(Nat.le_of_ble_eq_true rfl), (Nat.le_of_ble_eq_true rfl)⟩ dX8_ofInts_43 (fun r8 u H locs hr8 hP hS => ?_)
      obtain ⟨P9, rfl⟩ : ∃ z, z = u := ⟨_, rfl⟩
      have hP : CH D cy ad A (tP κ P9) H := hP
      have hr8 : (EX κ.2.2.2.2 P9) ∧ (PV sa P9) ∧ (NN P9 1 r8) := hr8
      obtain ⟨hr8_0, hr8_1, hr8_2⟩ := hr8
      obtain ⟨b10, rfl, tb10⟩ := hr8_2
      have svz11 : SV ad P9 (κ.2.1 0) (κ.2.1 1) (κ.2.2.2.1 6) (κ.2.2.2.1 7) (κ.2.2.2.1 8) (κ.2.2.2.1 13) (κ.2.2.2.1 15) (κ.2.2.2.1 17) (κ.1 1).toInt := hSV.ex hr8_0
      have hP : CH D cy ad A (tP (tI κ 9 (κ.1 9)) P9) H := CH.cong hP rfl rfl rfl rfl rfl rfl rfl rfl rfl rfl rfl rfl rfl rfl rfl rfl rfl rfl rfl rfl rfl rfl rfl rfl rfl rfl rfl
      exact c_retq (v := (some b10)) (Or.inl ⟨_, rfl⟩) C hsz hsl ⟨(κ.1 9), P9⟩ ⟨hr8_0, hr8_1, svz11, (nt_s tb10)⟩ hP hS ⟨(Nat.le_of_ble_eq_true rfl), (Nat.le_of_ble_eq_true rfl)⟩ ⟨(Nat.le_of_ble_eq_true rfl), (Nat.le_of_ble_eq_true rfl)⟩ dX8_ofInts_46
    · by_cases c1_44 : k0.toInt = 44
      · refine lv_tableIn (off := 79) (tgt := 80) C.x C.b dX8_ofInts_1 (by rw [c1_44]; decide +kernel) (by rw [c1_44]; decide +kernel) (by rw [c1_44]; decide +kernel) (by decide) ?_
        refine lv_iload_n C.x C.b dX8_ofInts_80 rfl (lv_at hl 3 rfl) ?_
        refine lv_if_ne (tgt := 92) C.x C.b dX8_ofInts_81 (by decide) (fun c12 => ?_) (fun c12 => ?_)
        · have c12 : ¬ k2.toInt = 0 := by have h := z_ne c12; rw [show (0 : Int32).toInt = 0 from by decide +kernel] at h; exact h
          refine lv_iload_n C.x C.b dX8_ofInts_92 rfl (lv_at hl 2 rfl) ?_
          refine lv_iload_n C.x C.b dX8_ofInts_93 rfl (lv_at hl 3 rfl) ?_
          refine lv_irem C.x C.b dX8_ofInts_94 (vX8_ofInts_1 k2 c12) ?_
          refine lv_topi (fun x13 ex13 => ?_)
          refine c_callSq (C2 := "") (b := 0) (n := 1) (As := [.int x13]) (rest := []) C hP hS hl.1 (NX10_ofInt l D cy ad A sz0 sa κ s.heap.size (SLT s.heap) C.f (fun q h => C.a q (Nat.le_trans hS.1 h)) x13 hPV) ⟨cw_722, cw_97, by decide +kernel⟩ ⟨cw_96, cw_40⟩ rfl rfl (lv_room (Nat.le_of_ble_eq_true rfl)) ⟨Nat.le_of_ble_eq_true rfl, Nat.le_of_ble_eq_true rfl⟩ ⟨(Nat.le_of_ble_eq_true rfl), (Nat.le_of_ble_eq_true rfl)⟩ dX8_ofInts_95 (fun r14 u H locs hr14 hP hS => ?_)
          obtain ⟨P15, rfl⟩ : ∃ z, z = u := ⟨_, rfl⟩
          have hP : CH D cy ad A (tP κ P15) H := hP
          have hr14 : (EX κ.2.2.2.2 P15) ∧ (PV sa P15) ∧ (NN P15 1 r14) := hr14
          obtain ⟨hr14_0, hr14_1, hr14_2⟩ := hr14
          obtain ⟨b16, rfl, tb16⟩ := hr14_2
          have svz17 : SV ad P15 (κ.2.1 0) (κ.2.1 1) (κ.2.2.2.1 6) (κ.2.2.2.1 7) (κ.2.2.2.1 8) (κ.2.2.2.1 13) (κ.2.2.2.1 15) (κ.2.2.2.1 17) (κ.1 1).toInt := hSV.ex hr14_0
          have hP : CH D cy ad A (tP (tI κ 9 (κ.1 9)) P15) H := CH.cong hP rfl rfl rfl rfl rfl rfl rfl rfl rfl rfl rfl rfl rfl rfl rfl rfl rfl rfl rfl rfl rfl rfl rfl rfl rfl rfl rfl
          exact c_retq (v := (some b16)) (Or.inl ⟨_, rfl⟩) C hsz hsl ⟨(κ.1 9), P15⟩ ⟨hr14_0, hr14_1, svz17, (nt_s tb16)⟩ hP hS ⟨(Nat.le_of_ble_eq_true rfl), (Nat.le_of_ble_eq_true rfl)⟩ ⟨(Nat.le_of_ble_eq_true rfl), (Nat.le_of_ble_eq_true rfl)⟩ dX8_ofInts_98
        · have c12 : k2.toInt = 0 := by have h := z_eq c12; rw [show (0 : Int32).toInt = 0 from by decide +kernel] at h; exact h
          refine lv_aload_n C.x C.b dX8_ofInts_84 rfl (lv_at hl 0 rfl) ?_
          refine lv_iconst (v := 2) C.x C.b dX8_ofInts_85 (by decide +kernel) ?_
          refine c_callVq (n := 1) (As := [.int 2]) (rest := []) C hP hS hl.1 (NX8_fail l D cy ad A sz0 sa κ s.heap.size (SLT s.heap) C.f (fun q h => C.a q (Nat.le_trans hS.1 h)) (2 : Int32) ) ⟨cw_702, cw_695, by decide +kernel⟩ ⟨cw_703, cw_704, cw_705⟩ rfl (hP.recvS (k := 3) (ci := 10) C.K rfl rfl) rfl rfl (lv_room (Nat.le_of_ble_eq_true rfl)) ⟨Nat.le_of_ble_eq_true rfl, Nat.le_of_ble_eq_true rfl⟩ ⟨(Nat.le_of_ble_eq_true rfl), (Nat.le_of_ble_eq_true rfl)⟩ dX8_ofInts_86 (fun r18 u H locs hr18 hP hS => ?_)
          obtain ⟨n19, rfl⟩ : ∃ z, z = u := ⟨_, rfl⟩
          have hP : CH D cy ad A (tI κ 9 n19) H := hP
          have hr18 : (NT κ.2.2.2.2 1 r18) := hr18
          refine lv_goto (tgt := 98) C.x C.b dX8_ofInts_89 (by decide) ?_
          have hP : CH D cy ad A (tP (tI κ 9 n19) κ.2.2.2.2) H := CH.cong hP rfl rfl rfl rfl rfl rfl rfl rfl rfl rfl rfl rfl rfl rfl rfl rfl rfl rfl rfl rfl rfl rfl rfl rfl rfl rfl rfl
          exact c_retq (v := r18) (Or.inl ⟨_, rfl⟩) C hsz hsl ⟨n19, κ.2.2.2.2⟩ ⟨EX.rf, hPV, hSV, hr18⟩ hP hS ⟨(Nat.le_of_ble_eq_true rfl), (Nat.le_of_ble_eq_true rfl)⟩ ⟨(Nat.le_of_ble_eq_true rfl), (Nat.le_of_ble_eq_true rfl)⟩ dX8_ofInts_98
      · by_cases c1_45 : k0.toInt = 45
        · refine lv_tableIn (off := 46) (tgt := 47) C.x C.b dX8_ofInts_1 (by rw [c1_45]; decide +kernel) (by rw [c1_45]; decide +kernel) (by rw [c1_45]; decide +kernel) (by decide) ?_
          refine lv_iload_n C.x C.b dX8_ofInts_47 rfl (lv_at hl 2 rfl) ?_
          refine lv_iload_n C.x C.b dX8_ofInts_48 rfl (lv_at hl 3 rfl) ?_
          refine lv_isub C.x C.b dX8_ofInts_49 ?_
          refine lv_topi (fun x20 ex20 => ?_)
          refine c_callSq (C2 := "") (b := 0) (n := 1) (As := [.int x20]) (rest := []) C hP hS hl.1 (NX10_ofInt l D cy ad A sz0 sa κ s.heap.size (SLT s.heap) C.f (fun q h => C.a q (Nat.le_trans hS.1 h)) x20 hPV) ⟨cw_722, cw_97, by decide +kernel⟩ ⟨cw_96, cw_40⟩ rfl rfl (lv_room (Nat.le_of_ble_eq_true rfl)) ⟨Nat.le_of_ble_eq_true rfl, Nat.le_of_ble_eq_true rfl⟩ ⟨(Nat.le_of_ble_eq_true rfl), (Nat.le_of_ble_eq_true rfl)⟩ dX8_ofInts_50 (fun r21 u H locs hr21 hP hS => ?_)
          obtain ⟨P22, rfl⟩ : ∃ z, z = u := ⟨_, rfl⟩
          have hP : CH D cy ad A (tP κ P22) H := hP
          have hr21 : (EX κ.2.2.2.2 P22) ∧ (PV sa P22) ∧ (NN P22 1 r21) := hr21
          obtain ⟨hr21_0, hr21_1, hr21_2⟩ := hr21
          obtain ⟨b23, rfl, tb23⟩ := hr21_2
          have svz24 : SV ad P22 (κ.2.1 0) (κ.2.1 1) (κ.2.2.2.1 6) (κ.2.2.2.1 7) (κ.2.2.2.1 8) (κ.2.2.2.1 13) (κ.2.2.2.1 15) (κ.2.2.2.1 17) (κ.1 1).toInt := hSV.ex hr21_0
          have hP : CH D cy ad A (tP (tI κ 9 (κ.1 9)) P22) H := CH.cong hP rfl rfl rfl rfl rfl rfl rfl rfl rfl rfl rfl rfl rfl rfl rfl rfl rfl rfl rfl rfl rfl rfl rfl rfl rfl rfl rfl
          exact c_retq (v := (some b23)) (Or.inl ⟨_, rfl⟩) C hsz hsl ⟨(κ.1 9), P22⟩ ⟨hr21_0, hr21_1, svz24, (nt_s tb23)⟩ hP hS ⟨(Nat.le_of_ble_eq_true rfl), (Nat.le_of_ble_eq_true rfl)⟩ ⟨(Nat.le_of_ble_eq_true rfl), (Nat.le_of_ble_eq_true rfl)⟩ dX8_ofInts_53
        · by_cases c1_46 : k0.toInt = 46
          · refine lv_tableIn (off := 79) (tgt := 80) C.x C.b dX8_ofInts_1 (by rw [c1_46]; decide +kernel) (by rw [c1_46]; decide +kernel) (by rw [c1_46]; decide +kernel) (by decide) ?_
            refine lv_iload_n C.x C.b dX8_ofInts_80 rfl (lv_at hl 3 rfl) ?_
            refine lv_if_ne (tgt := 92) C.x C.b dX8_ofInts_81 (by decide) (fun c25 => ?_) (fun c25 => ?_)
            · have c25 : ¬ k2.toInt = 0 := by have h := z_ne c25; rw [show (0 : Int32).toInt = 0 from by decide +kernel] at h; exact h
              refine lv_iload_n C.x C.b dX8_ofInts_92 rfl (lv_at hl 2 rfl) ?_
              refine lv_iload_n C.x C.b dX8_ofInts_93 rfl (lv_at hl 3 rfl) ?_
              refine lv_irem C.x C.b dX8_ofInts_94 (vX8_ofInts_2 k2 c25) ?_
              refine lv_topi (fun x26 ex26 => ?_)
              refine c_callSq (C2 := "") (b := 0) (n := 1) (As := [.int x26]) (rest := []) C hP hS hl.1 (NX10_ofInt l D cy ad A sz0 sa κ s.heap.size (SLT s.heap) C.f (fun q h => C.a q (Nat.le_trans hS.1 h)) x26 hPV) ⟨cw_722, cw_97, by decide +kernel⟩ ⟨cw_96, cw_40⟩ rfl rfl (lv_room (Nat.le_of_ble_eq_true rfl)) ⟨Nat.le_of_ble_eq_true rfl, Nat.le_of_ble_eq_true rfl⟩ ⟨(Nat.le_of_ble_eq_true rfl), (Nat.le_of_ble_eq_true rfl)⟩ dX8_ofInts_95 (fun r27 u H locs hr27 hP hS => ?_)
              obtain ⟨P28, rfl⟩ : ∃ z, z = u := ⟨_, rfl⟩
              have hP : CH D cy ad A (tP κ P28) H := hP
              have hr27 : (EX κ.2.2.2.2 P28) ∧ (PV sa P28) ∧ (NN P28 1 r27) := hr27
              obtain ⟨hr27_0, hr27_1, hr27_2⟩ := hr27
              obtain ⟨b29, rfl, tb29⟩ := hr27_2
              have svz30 : SV ad P28 (κ.2.1 0) (κ.2.1 1) (κ.2.2.2.1 6) (κ.2.2.2.1 7) (κ.2.2.2.1 8) (κ.2.2.2.1 13) (κ.2.2.2.1 15) (κ.2.2.2.1 17) (κ.1 1).toInt := hSV.ex hr27_0
              have hP : CH D cy ad A (tP (tI κ 9 (κ.1 9)) P28) H := CH.cong hP rfl rfl rfl rfl rfl rfl rfl rfl rfl rfl rfl rfl rfl rfl rfl rfl rfl rfl rfl rfl rfl rfl rfl rfl rfl rfl rfl
              exact c_retq (v := (some b29)) (Or.inl ⟨_, rfl⟩) C hsz hsl ⟨(κ.1 9), P28⟩ ⟨hr27_0, hr27_1, svz30, (nt_s tb29)⟩ hP hS ⟨(Nat.le_of_ble_eq_true rfl), (Nat.le_of_ble_eq_true rfl)⟩ ⟨(Nat.le_of_ble_eq_true rfl), (Nat.le_of_ble_eq_true rfl)⟩ dX8_ofInts_98
            · have c25 : k2.toInt = 0 := by have h := z_eq c25; rw [show (0 : Int32).toInt = 0 from by decide +kernel] at h; exact h
              refine lv_aload_n C.x C.b dX8_ofInts_84 rfl (lv_at hl 0 rfl) ?_
              refine lv_iconst (v := 2) C.x C.b dX8_ofInts_85 (by decide +kernel) ?_
              refine c_callVq (n := 1) (As := [.int 2]) (rest := []) C hP hS hl.1 (NX8_fail l D cy ad A sz0 sa κ s.heap.size (SLT s.heap) C.f (fun q h => C.a q (Nat.le_trans hS.1 h)) (2 : Int32) ) ⟨cw_702, cw_695, by decide +kernel⟩ ⟨cw_703, cw_704, cw_705⟩ rfl (hP.recvS (k := 3) (ci := 10) C.K rfl rfl) rfl rfl (lv_room (Nat.le_of_ble_eq_true rfl)) ⟨Nat.le_of_ble_eq_true rfl, Nat.le_of_ble_eq_true rfl⟩ ⟨(Nat.le_of_ble_eq_true rfl), (Nat.le_of_ble_eq_true rfl)⟩ dX8_ofInts_86 (fun r31 u H locs hr31 hP hS => ?_)
              obtain ⟨n32, rfl⟩ : ∃ z, z = u := ⟨_, rfl⟩
              have hP : CH D cy ad A (tI κ 9 n32) H := hP
              have hr31 : (NT κ.2.2.2.2 1 r31) := hr31
              refine lv_goto (tgt := 98) C.x C.b dX8_ofInts_89 (by decide) ?_
              have hP : CH D cy ad A (tP (tI κ 9 n32) κ.2.2.2.2) H := CH.cong hP rfl rfl rfl rfl rfl rfl rfl rfl rfl rfl rfl rfl rfl rfl rfl rfl rfl rfl rfl rfl rfl rfl rfl rfl rfl rfl rfl
              exact c_retq (v := r31) (Or.inl ⟨_, rfl⟩) C hsz hsl ⟨n32, κ.2.2.2.2⟩ ⟨EX.rf, hPV, hSV, hr31⟩ hP hS ⟨(Nat.le_of_ble_eq_true rfl), (Nat.le_of_ble_eq_true rfl)⟩ ⟨(Nat.le_of_ble_eq_true rfl), (Nat.le_of_ble_eq_true rfl)⟩ dX8_ofInts_98
          · by_cases c1_47 : k0.toInt = 47
            · refine lv_tableIn (off := 60) (tgt := 61) C.x C.b dX8_ofInts_1 (by rw [c1_47]; decide +kernel) (by rw [c1_47]; decide +kernel) (by rw [c1_47]; decide +kernel) (by decide) ?_
              refine lv_iload_n C.x C.b dX8_ofInts_61 rfl (lv_at hl 3 rfl) ?_
              refine lv_if_ne (tgt := 73) C.x C.b dX8_ofInts_62 (by decide) (fun c33 => ?_) (fun c33 => ?_)
              · have c33 : ¬ k2.toInt = 0 := by have h := z_ne c33; rw [show (0 : Int32).toInt = 0 from by decide +kernel] at h; exact h
                refine lv_iload_n C.x C.b dX8_ofInts_73 rfl (lv_at hl 2 rfl) ?_
                refine lv_iload_n C.x C.b dX8_ofInts_74 rfl (lv_at hl 3 rfl) ?_
                refine lv_idiv C.x C.b dX8_ofInts_75 (vX8_ofInts_3 k2 c33) ?_
                refine lv_topi (fun x34 ex34 => ?_)
                refine c_callSq (C2 := "") (b := 0) (n := 1) (As := [.int x34]) (rest := []) C hP hS hl.1 (NX10_ofInt l D cy ad A sz0 sa κ s.heap.size (SLT s.heap) C.f (fun q h => C.a q (Nat.le_trans hS.1 h)) x34 hPV) ⟨cw_722, cw_97, by decide +kernel⟩ ⟨cw_96, cw_40⟩ rfl rfl (lv_room (Nat.le_of_ble_eq_true rfl)) ⟨Nat.le_of_ble_eq_true rfl, Nat.le_of_ble_eq_true rfl⟩ ⟨(Nat.le_of_ble_eq_true rfl), (Nat.le_of_ble_eq_true rfl)⟩ dX8_ofInts_76 (fun r35 u H locs hr35 hP hS => ?_)
                obtain ⟨P36, rfl⟩ : ∃ z, z = u := ⟨_, rfl⟩
                have hP : CH D cy ad A (tP κ P36) H := hP
                have hr35 : (EX κ.2.2.2.2 P36) ∧ (PV sa P36) ∧ (NN P36 1 r35) := hr35
                obtain ⟨hr35_0, hr35_1, hr35_2⟩ := hr35
                obtain ⟨b37, rfl, tb37⟩ := hr35_2
                have svz38 : SV ad P36 (κ.2.1 0) (κ.2.1 1) (κ.2.2.2.1 6) (κ.2.2.2.1 7) (κ.2.2.2.1 8) (κ.2.2.2.1 13) (κ.2.2.2.1 15) (κ.2.2.2.1 17) (κ.1 1).toInt := hSV.ex hr35_0
                have hP : CH D cy ad A (tP (tI κ 9 (κ.1 9)) P36) H := CH.cong hP rfl rfl rfl rfl rfl rfl rfl rfl rfl rfl rfl rfl rfl rfl rfl rfl rfl rfl rfl rfl rfl rfl rfl rfl rfl rfl rfl
                exact c_retq (v := (some b37)) (Or.inl ⟨_, rfl⟩) C hsz hsl ⟨(κ.1 9), P36⟩ ⟨hr35_0, hr35_1, svz38, (nt_s tb37)⟩ hP hS ⟨(Nat.le_of_ble_eq_true rfl), (Nat.le_of_ble_eq_true rfl)⟩ ⟨(Nat.le_of_ble_eq_true rfl), (Nat.le_of_ble_eq_true rfl)⟩ dX8_ofInts_79
              · have c33 : k2.toInt = 0 := by have h := z_eq c33; rw [show (0 : Int32).toInt = 0 from by decide +kernel] at h; exact h
                refine lv_aload_n C.x C.b dX8_ofInts_65 rfl (lv_at hl 0 rfl) ?_
                refine lv_iconst (v := 2) C.x C.b dX8_ofInts_66 (by decide +kernel) ?_
                refine c_callVq (n := 1) (As := [.int 2]) (rest := []) C hP hS hl.1 (NX8_fail l D cy ad A sz0 sa κ s.heap.size (SLT s.heap) C.f (fun q h => C.a q (Nat.le_trans hS.1 h)) (2 : Int32) ) ⟨cw_702, cw_695, by decide +kernel⟩ ⟨cw_703, cw_704, cw_705⟩ rfl (hP.recvS (k := 3) (ci := 10) C.K rfl rfl) rfl rfl (lv_room (Nat.le_of_ble_eq_true rfl)) ⟨Nat.le_of_ble_eq_true rfl, Nat.le_of_ble_eq_true rfl⟩ ⟨(Nat.le_of_ble_eq_true rfl), (Nat.le_of_ble_eq_true rfl)⟩ dX8_ofInts_67 (fun r39 u H locs hr39 hP hS => ?_)
                obtain ⟨n40, rfl⟩ : ∃ z, z = u := ⟨_, rfl⟩
                have hP : CH D cy ad A (tI κ 9 n40) H := hP
                have hr39 : (NT κ.2.2.2.2 1 r39) := hr39
                refine lv_goto (tgt := 79) C.x C.b dX8_ofInts_70 (by decide) ?_
                have hP : CH D cy ad A (tP (tI κ 9 n40) κ.2.2.2.2) H := CH.cong hP rfl rfl rfl rfl rfl rfl rfl rfl rfl rfl rfl rfl rfl rfl rfl rfl rfl rfl rfl rfl rfl rfl rfl rfl rfl rfl rfl
                exact c_retq (v := r39) (Or.inl ⟨_, rfl⟩) C hsz hsl ⟨n40, κ.2.2.2.2⟩ ⟨EX.rf, hPV, hSV, hr39⟩ hP hS ⟨(Nat.le_of_ble_eq_true rfl), (Nat.le_of_ble_eq_true rfl)⟩ ⟨(Nat.le_of_ble_eq_true rfl), (Nat.le_of_ble_eq_true rfl)⟩ dX8_ofInts_79
            · refine lv_tableOut (tgt := 80) C.x C.b dX8_ofInts_1 (by omega) (by decide) ?_
              refine lv_iload_n C.x C.b dX8_ofInts_80 rfl (lv_at hl 3 rfl) ?_
              refine lv_if_ne (tgt := 92) C.x C.b dX8_ofInts_81 (by decide) (fun c41 => ?_) (fun c41 => ?_)
              · have c41 : ¬ k2.toInt = 0 := by have h := z_ne c41; rw [show (0 : Int32).toInt = 0 from by decide +kernel] at h; exact h
                refine lv_iload_n C.x C.b dX8_ofInts_92 rfl (lv_at hl 2 rfl) ?_
                refine lv_iload_n C.x C.b dX8_ofInts_93 rfl (lv_at hl 3 rfl) ?_
                refine lv_irem C.x C.b dX8_ofInts_94 (vX8_ofInts_4 k2 c41) ?_
                refine lv_topi (fun x42 ex42 => ?_)
                refine c_callSq (C2 := "") (b := 0) (n := 1) (As := [.int x42]) (rest := []) C hP hS hl.1 (NX10_ofInt l D cy ad A sz0 sa κ s.heap.size (SLT s.heap) C.f (fun q h => C.a q (Nat.le_trans hS.1 h)) x42 hPV) ⟨cw_722, cw_97, by decide +kernel⟩ ⟨cw_96, cw_40⟩ rfl rfl (lv_room (Nat.le_of_ble_eq_true rfl)) ⟨Nat.le_of_ble_eq_true rfl, Nat.le_of_ble_eq_true rfl⟩ ⟨(Nat.le_of_ble_eq_true rfl), (Nat.le_of_ble_eq_true rfl)⟩ dX8_ofInts_95 (fun r43 u H locs hr43 hP hS => ?_)
                obtain ⟨P44, rfl⟩ : ∃ z, z = u := ⟨_, rfl⟩
                have hP : CH D cy ad A (tP κ P44) H := hP
                have hr43 : (EX κ.2.2.2.2 P44) ∧ (PV sa P44) ∧ (NN P44 1 r43) := hr43
                obtain ⟨hr43_0, hr43_1, hr43_2⟩ := hr43
                obtain ⟨b45, rfl, tb45⟩ := hr43_2
                have svz46 : SV ad P44 (κ.2.1 0) (κ.2.1 1) (κ.2.2.2.1 6) (κ.2.2.2.1 7) (κ.2.2.2.1 8) (κ.2.2.2.1 13) (κ.2.2.2.1 15) (κ.2.2.2.1 17) (κ.1 1).toInt := hSV.ex hr43_0
                have hP : CH D cy ad A (tP (tI κ 9 (κ.1 9)) P44) H := CH.cong hP rfl rfl rfl rfl rfl rfl rfl rfl rfl rfl rfl rfl rfl rfl rfl rfl rfl rfl rfl rfl rfl rfl rfl rfl rfl rfl rfl
                exact c_retq (v := (some b45)) (Or.inl ⟨_, rfl⟩) C hsz hsl ⟨(κ.1 9), P44⟩ ⟨hr43_0, hr43_1, svz46, (nt_s tb45)⟩ hP hS ⟨(Nat.le_of_ble_eq_true rfl), (Nat.le_of_ble_eq_true rfl)⟩ ⟨(Nat.le_of_ble_eq_true rfl), (Nat.le_of_ble_eq_true rfl)⟩ dX8_ofInts_98
              · have c41 : k2.toInt = 0 := by have h := z_eq c41; rw [show (0 : Int32).toInt = 0 from by decide +kernel] at h; exact h
                refine lv_aload_n C.x C.b dX8_ofInts_84 rfl (lv_at hl 0 rfl) ?_
                refine lv_iconst (v := 2) C.x C.b dX8_ofInts_85 (by decide +kernel) ?_
                refine c_callVq (n := 1) (As := [.int 2]) (rest := []) C hP hS hl.1 (NX8_fail l D cy ad A sz0 sa κ s.heap.size (SLT s.heap) C.f (fun q h => C.a q (Nat.le_trans hS.1 h)) (2 : Int32) ) ⟨cw_702, cw_695, by decide +kernel⟩ ⟨cw_703, cw_704, cw_705⟩ rfl (hP.recvS (k := 3) (ci := 10) C.K rfl rfl) rfl rfl (lv_room (Nat.le_of_ble_eq_true rfl)) ⟨Nat.le_of_ble_eq_true rfl, Nat.le_of_ble_eq_true rfl⟩ ⟨(Nat.le_of_ble_eq_true rfl), (Nat.le_of_ble_eq_true rfl)⟩ dX8_ofInts_86 (fun r47 u H locs hr47 hP hS => ?_)
                obtain ⟨n48, rfl⟩ : ∃ z, z = u := ⟨_, rfl⟩
                have hP : CH D cy ad A (tI κ 9 n48) H := hP
                have hr47 : (NT κ.2.2.2.2 1 r47) := hr47
                refine lv_goto (tgt := 98) C.x C.b dX8_ofInts_89 (by decide) ?_
                have hP : CH D cy ad A (tP (tI κ 9 n48) κ.2.2.2.2) H := CH.cong hP rfl rfl rfl rfl rfl rfl rfl rfl rfl rfl rfl rfl rfl rfl rfl rfl rfl rfl rfl rfl rfl rfl rfl rfl rfl rfl rfl
                exact c_retq (v := r47) (Or.inl ⟨_, rfl⟩) C hsz hsl ⟨n48, κ.2.2.2.2⟩ ⟨EX.rf, hPV, hSV, hr47⟩ hP hS ⟨(Nat.le_of_ble_eq_true rfl), (Nat.le_of_ble_eq_true rfl)⟩ ⟨(Nat.le_of_ble_eq_true rfl), (Nat.le_of_ble_eq_true rfl)⟩ dX8_ofInts_98

-- nan@61 @61
theorem vX8_ofReals_1 (k0 : Int32) (k1 : UInt64) (k2 : UInt64) (hpre_0 : k0.toInt = 42 ∨ k0.toInt = 43 ∨ k0.toInt = 45 ∨ k0.toInt = 47) (hpre_1 : FN k1) (hpre_2 : FN k2) (c1 : ¬ k0.toInt = 47) (c2 : ¬ k0.toInt = 43) (c3 : ¬ k0.toInt = 45) (c4 : ¬ k0.toInt = 42) : vf_n64 (FP.ddiv k1 k2) := by
  exfalso; omega
-- pre:X10_ofReal@92 @92
theorem vX8_ofReals_2 (k0 : Int32) (k1 : UInt64) (k2 : UInt64) (x5 : UInt64) (x6 : Int32) (x10 : Int32) (hpre_0 : k0.toInt = 42 ∨ k0.toInt = 43 ∨ k0.toInt = 45 ∨ k0.toInt = 47) (hpre_1 : FN k1) (hpre_2 : FN k2) (c1 : ¬ k0.toInt = 47) (c2 : ¬ k0.toInt = 43) (c3 : ¬ k0.toInt = 45) (c4 : ¬ k0.toInt = 42) (ex5 : x5 = FP.ddiv k1 k2) (ex6 : x6 = Op.cmpValue (FP.dcmp x5 (4786511204640096256 : UInt64)) .l) (c7 : x6.toInt ≤ 0) (ex10 : x10 = Op.cmpValue (FP.dcmp x5 (14009883241494872064 : UInt64)) .g) (c11 : 0 ≤ x10.toInt) : FN x5 := by
  exfalso; omega
-- nan@54 @54
theorem vX8_ofReals_3 (k0 : Int32) (k1 : UInt64) (k2 : UInt64) (hpre_0 : k0.toInt = 42 ∨ k0.toInt = 43 ∨ k0.toInt = 45 ∨ k0.toInt = 47) (hpre_1 : FN k1) (hpre_2 : FN k2) (c1 : ¬ k0.toInt = 47) (c2 : ¬ k0.toInt = 43) (c3 : ¬ k0.toInt = 45) (c4 : k0.toInt = 42) : vf_n64 (FP.dmul k1 k2) := by
  obtain ⟨d, g1, g2⟩ := fp_mul hpre_1 hpre_2
  exact fp_n g1 g2
-- pre:X10_ofReal@92 @92
theorem vX8_ofReals_4 (k0 : Int32) (k1 : UInt64) (k2 : UInt64) (x18 : UInt64) (x19 : Int32) (x23 : Int32) (hpre_0 : k0.toInt = 42 ∨ k0.toInt = 43 ∨ k0.toInt = 45 ∨ k0.toInt = 47) (hpre_1 : FN k1) (hpre_2 : FN k2) (c1 : ¬ k0.toInt = 47) (c2 : ¬ k0.toInt = 43) (c3 : ¬ k0.toInt = 45) (c4 : k0.toInt = 42) (ex18 : x18 = FP.dmul k1 k2) (ex19 : x19 = Op.cmpValue (FP.dcmp x18 (4786511204640096256 : UInt64)) .l) (c20 : x19.toInt ≤ 0) (ex23 : x23 = Op.cmpValue (FP.dcmp x18 (14009883241494872064 : UInt64)) .g) (c24 : 0 ≤ x23.toInt) : FN x18 := by
  obtain ⟨d, g1, g2⟩ := fp_mul hpre_1 hpre_2
  rcases fp_inf g1 (ex18.trans g2) with h | h | h
  · exact h
  · (exfalso; (try (have h_x19 := ex19; rw [h] at h_x19; have k_x19 : x19.toInt = 1 := by (rw [h_x19]; decide +kernel))); (try (have h_x23 := ex23; rw [h] at h_x23; have k_x23 : x23.toInt = 1 := by (rw [h_x23]; decide +kernel))); omega)
  · (exfalso; (try (have h_x19 := ex19; rw [h] at h_x19; have k_x19 : x19.toInt = -1 := by (rw [h_x19]; decide +kernel))); (try (have h_x23 := ex23; rw [h] at h_x23; have k_x23 : x23.toInt = -1 := by (rw [h_x23]; decide +kernel))); omega)
-- nan@41 @41
theorem vX8_ofReals_5 (k0 : Int32) (k1 : UInt64) (k2 : UInt64) (hpre_0 : k0.toInt = 42 ∨ k0.toInt = 43 ∨ k0.toInt = 45 ∨ k0.toInt = 47) (hpre_1 : FN k1) (hpre_2 : FN k2) (c1 : ¬ k0.toInt = 47) (c2 : ¬ k0.toInt = 43) (c3 : k0.toInt = 45) : vf_n64 (FP.dsub k1 k2) := by
  obtain ⟨d, g1, g2⟩ := fp_sub hpre_1 hpre_2
  exact fp_n g1 g2
-- pre:X10_ofReal@92 @92
theorem vX8_ofReals_6 (k0 : Int32) (k1 : UInt64) (k2 : UInt64) (x31 : UInt64) (x32 : Int32) (x36 : Int32) (hpre_0 : k0.toInt = 42 ∨ k0.toInt = 43 ∨ k0.toInt = 45 ∨ k0.toInt = 47) (hpre_1 : FN k1) (hpre_2 : FN k2) (c1 : ¬ k0.toInt = 47) (c2 : ¬ k0.toInt = 43) (c3 : k0.toInt = 45) (ex31 : x31 = FP.dsub k1 k2) (ex32 : x32 = Op.cmpValue (FP.dcmp x31 (4786511204640096256 : UInt64)) .l) (c33 : x32.toInt ≤ 0) (ex36 : x36 = Op.cmpValue (FP.dcmp x31 (14009883241494872064 : UInt64)) .g) (c37 : 0 ≤ x36.toInt) : FN x31 := by
  obtain ⟨d, g1, g2⟩ := fp_sub hpre_1 hpre_2
  rcases fp_inf g1 (ex31.trans g2) with h | h | h
  · exact h
  · (exfalso; (try (have h_x32 := ex32; rw [h] at h_x32; have k_x32 : x32.toInt = 1 := by (rw [h_x32]; decide +kernel))); (try (have h_x36 := ex36; rw [h] at h_x36; have k_x36 : x36.toInt = 1 := by (rw [h_x36]; decide +kernel))); omega)
  · (exfalso; (try (have h_x32 := ex32; rw [h] at h_x32; have k_x32 : x32.toInt = -1 := by (rw [h_x32]; decide +kernel))); (try (have h_x36 := ex36; rw [h] at h_x36; have k_x36 : x36.toInt = -1 := by (rw [h_x36]; decide +kernel))); omega)
-- nan@28 @28
theorem vX8_ofReals_7 (k0 : Int32) (k1 : UInt64) (k2 : UInt64) (hpre_0 : k0.toInt = 42 ∨ k0.toInt = 43 ∨ k0.toInt = 45 ∨ k0.toInt = 47) (hpre_1 : FN k1) (hpre_2 : FN k2) (c1 : ¬ k0.toInt = 47) (c2 : k0.toInt = 43) : vf_n64 (FP.dadd k1 k2) := by
  obtain ⟨d, g1, g2⟩ := fp_add hpre_1 hpre_2
  exact fp_n g1 g2
-- pre:X10_ofReal@92 @92
theorem vX8_ofReals_8 (k0 : Int32) (k1 : UInt64) (k2 : UInt64) (x44 : UInt64) (x45 : Int32) (x49 : Int32) (hpre_0 : k0.toInt = 42 ∨ k0.toInt = 43 ∨ k0.toInt = 45 ∨ k0.toInt = 47) (hpre_1 : FN k1) (hpre_2 : FN k2) (c1 : ¬ k0.toInt = 47) (c2 : k0.toInt = 43) (ex44 : x44 = FP.dadd k1 k2) (ex45 : x45 = Op.cmpValue (FP.dcmp x44 (4786511204640096256 : UInt64)) .l) (c46 : x45.toInt ≤ 0) (ex49 : x49 = Op.cmpValue (FP.dcmp x44 (14009883241494872064 : UInt64)) .g) (c50 : 0 ≤ x49.toInt) : FN x44 := by
  obtain ⟨d, g1, g2⟩ := fp_add hpre_1 hpre_2
  rcases fp_inf g1 (ex44.trans g2) with h | h | h
  · exact h
  · (exfalso; (try (have h_x45 := ex45; rw [h] at h_x45; have k_x45 : x45.toInt = 1 := by (rw [h_x45]; decide +kernel))); (try (have h_x49 := ex49; rw [h] at h_x49; have k_x49 : x49.toInt = 1 := by (rw [h_x49]; decide +kernel))); omega)
  · (exfalso; (try (have h_x45 := ex45; rw [h] at h_x45; have k_x45 : x45.toInt = -1 := by (rw [h_x45]; decide +kernel))); (try (have h_x49 := ex49; rw [h] at h_x49; have k_x49 : x49.toInt = -1 := by (rw [h_x49]; decide +kernel))); omega)
-- nan@61 @61
theorem vX8_ofReals_9 (k0 : Int32) (k1 : UInt64) (k2 : UInt64) (x57 : Int32) (hpre_0 : k0.toInt = 42 ∨ k0.toInt = 43 ∨ k0.toInt = 45 ∨ k0.toInt = 47) (hpre_1 : FN k1) (hpre_2 : FN k2) (c1 : k0.toInt = 47) (ex57 : x57 = Op.cmpValue (FP.dcmp k2 FP.dconst0) .l) (c58 : ¬ x57.toInt = 0) (c59 : ¬ k0.toInt = 43) (c60 : ¬ k0.toInt = 45) (c61 : ¬ k0.toInt = 42) : vf_n64 (FP.ddiv k1 k2) := by
  obtain ⟨d, g1, g2⟩ := fp_div0 hpre_1 hpre_2 (fp_ne0 ex57 (by omega))
  exact fp_n g1 g2
-- pre:X10_ofReal@92 @92
theorem vX8_ofReals_10 (k0 : Int32) (k1 : UInt64) (k2 : UInt64) (x57 : Int32) (x62 : UInt64) (x63 : Int32) (x67 : Int32) (hpre_0 : k0.toInt = 42 ∨ k0.toInt = 43 ∨ k0.toInt = 45 ∨ k0.toInt = 47) (hpre_1 : FN k1) (hpre_2 : FN k2) (c1 : k0.toInt = 47) (ex57 : x57 = Op.cmpValue (FP.dcmp k2 FP.dconst0) .l) (c58 : ¬ x57.toInt = 0) (c59 : ¬ k0.toInt = 43) (c60 : ¬ k0.toInt = 45) (c61 : ¬ k0.toInt = 42) (ex62 : x62 = FP.ddiv k1 k2) (ex63 : x63 = Op.cmpValue (FP.dcmp x62 (4786511204640096256 : UInt64)) .l) (c64 : x63.toInt ≤ 0) (ex67 : x67 = Op.cmpValue (FP.dcmp x62 (14009883241494872064 : UInt64)) .g) (c68 : 0 ≤ x67.toInt) : FN x62 := by
  obtain ⟨d, g1, g2⟩ := fp_div0 hpre_1 hpre_2 (fp_ne0 ex57 (by omega))
  rcases fp_inf g1 (ex62.trans g2) with h | h | h
  · exact h
  · (exfalso; (try (have h_x63 := ex63; rw [h] at h_x63; have k_x63 : x63.toInt = 1 := by (rw [h_x63]; decide +kernel))); (try (have h_x67 := ex67; rw [h] at h_x67; have k_x67 : x67.toInt = 1 := by (rw [h_x67]; decide +kernel))); omega)
  · (exfalso; (try (have h_x63 := ex63; rw [h] at h_x63; have k_x63 : x63.toInt = -1 := by (rw [h_x63]; decide +kernel))); (try (have h_x67 := ex67; rw [h] at h_x67; have k_x67 : x67.toInt = -1 := by (rw [h_x67]; decide +kernel))); omega)
-- dead@48 @51
theorem vX8_ofReals_11 (k0 : Int32) (hpre_0 : k0.toInt = 42 ∨ k0.toInt = 43 ∨ k0.toInt = 45 ∨ k0.toInt = 47) (c1 : k0.toInt = 47) (c59 : ¬ k0.toInt = 43) (c60 : ¬ k0.toInt = 45) (c61 : k0.toInt = 42) : False := by
  first | assumption | omega | (subst_vars; omega) | trivial
-- dead@35 @38
theorem vX8_ofReals_12 (k0 : Int32) (hpre_0 : k0.toInt = 42 ∨ k0.toInt = 43 ∨ k0.toInt = 45 ∨ k0.toInt = 47) (c1 : k0.toInt = 47) (c59 : ¬ k0.toInt = 43) (c60 : k0.toInt = 45) : False := by
  first | assumption | omega | (subst_vars; omega) | trivial
-- dead@22 @25
theorem vX8_ofReals_13 (k0 : Int32) (hpre_0 : k0.toInt = 42 ∨ k0.toInt = 43 ∨ k0.toInt = 45 ∨ k0.toInt = 47) (c1 : k0.toInt = 47) (c59 : k0.toInt = 43) : False := by
  first | assumption | omega | (subst_vars; omega) | trivial
set_option maxHeartbeats 4000000 in
set_option maxRecDepth 100000 in
theorem NX8_ofReals (l : Launch) (D : va_G) (cy : Nat → ClassId) (ad : Nat → Nat) (A : Nat → Prop) (sz0 : Nat) (sa : Nat → Nat)  (κ : KS) (sz sl : Nat) (hAF : ∀ q, A q → Fr sz0 q) (hAn : ∀ q : Nat, sz ≤ q → A q) (k0 : Int32) (k1 : UInt64) (k2 : UInt64) (hPV : PV sa κ.2.2.2.2) (hSV : SV ad κ.2.2.2.2 (κ.2.1 0) (κ.2.1 1) (κ.2.2.2.1 6) (κ.2.2.2.1 7) (κ.2.2.2.1 8) (κ.2.2.2.1 13) (κ.2.2.2.1 15) (κ.2.2.2.1 17) (κ.1 1).toInt) (hpre : (k0.toInt = 42 ∨ k0.toInt = 43 ∨ k0.toInt = 45 ∨ k0.toInt = 47) ∧ FN k1 ∧ FN k2) : Met l yX8_ofReals (Cond.code yX8_ofReals cX8_ofReals 8 (some (.object "PhraseDesk$Value")) :: GWc) ({ frames := 3, cells := 1, slots := 5, locals := 67 }) (PcC D cy ad A sz0 sa [.ref (ad 3), .int k0, .double k1, .double k2] κ sz sl) (va_Qq (fun (r : Option Nat) (u : Int32 × PL) => (EX κ.2.2.2.2 u.2) ∧ (PV sa u.2) ∧ (SV ad u.2 (κ.2.1 0) (κ.2.1 1) (κ.2.2.2.1 6) (κ.2.2.2.1 7) (κ.2.2.2.1 8) (κ.2.2.2.1 13) (κ.2.2.2.1 15) (κ.2.2.2.1 17) (κ.1 1).toInt) ∧ (NT u.2 1 r)) (fun (u : Int32 × PL) (t : State) => Bx D cy ad A sz sl (tP (tI κ 9 u.1) u.2) (1) (5) t) A) (1) (5) A := by
  refine CM_of (loc0 := [(0, .ref (ad 3)), (1, .int k0), (2, .double k1), (4, .double k2)]) (own := RX8) (nm := "ofReals") (by decide) rfl rfl rfl (Nat.le_of_ble_eq_true rfl) hAF hAn ?_
  intro p e s m below meth c ls hsz hsl C hP hS hl
  obtain ⟨hpre_0, hpre_1, hpre_2⟩ := hpre
  refine lv_iload_n C.x C.b dX8_ofReals_0 rfl (lv_at hl 1 rfl) ?_
  refine lv_bipush (v := 47) C.x C.b dX8_ofReals_1 (by decide +kernel) ?_
  refine lv_icmp_ne (tgt := 19) C.x C.b dX8_ofReals_3 (by decide) (fun c1 => ?_) (fun c1 => ?_)
  · have c1 : ¬ k0.toInt = 47 := by have h := z_ne c1; rw [show (47 : Int32).toInt = 47 from by decide +kernel] at h; exact h
    refine lv_iload_n C.x C.b dX8_ofReals_19 rfl (lv_at hl 1 rfl) ?_
    refine lv_bipush (v := 43) C.x C.b dX8_ofReals_20 (by decide +kernel) ?_
    refine lv_icmp_ne (tgt := 32) C.x C.b dX8_ofReals_22 (by decide) (fun c2 => ?_) (fun c2 => ?_)
    · have c2 : ¬ k0.toInt = 43 := by have h := z_ne c2; rw [show (43 : Int32).toInt = 43 from by decide +kernel] at h; exact h
      refine lv_iload_n C.x C.b dX8_ofReals_32 rfl (lv_at hl 1 rfl) ?_
      refine lv_bipush (v := 45) C.x C.b dX8_ofReals_33 (by decide +kernel) ?_
      refine lv_icmp_ne (tgt := 45) C.x C.b dX8_ofReals_35 (by decide) (fun c3 => ?_) (fun c3 => ?_)
      · have c3 : ¬ k0.toInt = 45 := by have h := z_ne c3; rw [show (45 : Int32).toInt = 45 from by decide +kernel] at h; exact h
        refine lv_iload_n C.x C.b dX8_ofReals_45 rfl (lv_at hl 1 rfl) ?_
        refine lv_bipush (v := 42) C.x C.b dX8_ofReals_46 (by decide +kernel) ?_
        refine lv_icmp_ne (tgt := 58) C.x C.b dX8_ofReals_48 (by decide) (fun c4 => ?_) (fun c4 => ?_)
        · have c4 : ¬ k0.toInt = 42 := by have h := z_ne c4; rw [show (42 : Int32).toInt = 42 from by decide +kernel] at h; exact h
          refine lv_dload_n C.x C.b dX8_ofReals_58 rfl (lv_at hl 2 rfl) ?_
          refine lv_dload C.x C.b dX8_ofReals_59 (lv_at hl 3 rfl) ?_
          refine lv_ddiv C.x C.b dX8_ofReals_61 (vX8_ofReals_1 k0 k1 k2 hpre_0 hpre_1 hpre_2 c1 c2 c3 c4) ?_
          refine lv_topd (fun x5 ex5 => ?_)
          refine lv_dstore (lv' := [(6, .double x5), (0, .ref (ad 3)), (1, .int k0), (2, .double k1), (4, .double k2)]) C.x C.b dX8_ofReals_62 hl (by decide) rfl (fun ls hl => ?_)
          refine lv_dload C.x C.b dX8_ofReals_64 (lv_at hl 0 rfl) ?_
          refine lv_ldc2d (v := 4786511204640096256) C.x C.b C.o (C.w _ cw_817) dX8_ofReals_66 ?_
          refine lv_dcmp C.x C.b dX8_ofReals_69 ?_
          refine lv_topi (fun x6 ex6 => ?_)
          refine lv_if_gt (tgt := 82) C.x C.b dX8_ofReals_70 (by decide) (fun c7 => ?_) (fun c7 => ?_)
          · have c7 : 0 < x6.toInt := by have h := z_lt c7; rw [show (0 : Int32).toInt = 0 from by decide +kernel] at h; exact h
            refine lv_aload_n C.x C.b dX8_ofReals_82 rfl (lv_at hl 1 rfl) ?_
            refine lv_iconst (v := 3) C.x C.b dX8_ofReals_83 (by decide +kernel) ?_
            refine c_callVq (n := 1) (As := [.int 3]) (rest := []) C hP hS hl.1 (NX8_fail l D cy ad A sz0 sa κ s.heap.size (SLT s.heap) C.f (fun q h => C.a q (Nat.le_trans hS.1 h)) (3 : Int32) ) ⟨cw_702, cw_695, by decide +kernel⟩ ⟨cw_703, cw_704, cw_705⟩ rfl (hP.recvS (k := 3) (ci := 10) C.K rfl rfl) rfl rfl (lv_room (Nat.le_of_ble_eq_true rfl)) ⟨Nat.le_of_ble_eq_true rfl, Nat.le_of_ble_eq_true rfl⟩ ⟨(Nat.le_of_ble_eq_true rfl), (Nat.le_of_ble_eq_true rfl)⟩ dX8_ofReals_84 (fun r8 u H locs hr8 hP hS => ?_)
            obtain ⟨n9, rfl⟩ : ∃ z, z = u := ⟨_, rfl⟩
            have hP : CH D cy ad A (tI κ 9 n9) H := hP
            have hr8 : (NT κ.2.2.2.2 1 r8) := hr8
            refine lv_goto (tgt := 95) C.x C.b dX8_ofReals_87 (by decide) ?_
            have hP : CH D cy ad A (tP (tI κ 9 n9) κ.2.2.2.2) H := CH.cong hP rfl rfl rfl rfl rfl rfl rfl rfl rfl rfl rfl rfl rfl rfl rfl rfl rfl rfl rfl rfl rfl rfl rfl rfl rfl rfl rfl
            exact c_retq (v := r8) (Or.inl ⟨_, rfl⟩) C hsz hsl ⟨n9, κ.2.2.2.2⟩ ⟨EX.rf, hPV, hSV, hr8⟩ hP hS ⟨(Nat.le_of_ble_eq_true rfl), (Nat.le_of_ble_eq_true rfl)⟩ ⟨(Nat.le_of_ble_eq_true rfl), (Nat.le_of_ble_eq_true rfl)⟩ dX8_ofReals_95
          · have c7 : x6.toInt ≤ 0 := by have h := z_nlt c7; rw [show (0 : Int32).toInt = 0 from by decide +kernel] at h; exact h
            refine lv_dload C.x C.b dX8_ofReals_73 (lv_at hl 0 rfl) ?_
            refine lv_ldc2d (v := 14009883241494872064) C.x C.b C.o (C.w _ cw_818) dX8_ofReals_75 ?_
            refine lv_dcmp C.x C.b dX8_ofReals_78 ?_
            refine lv_topi (fun x10 ex10 => ?_)
            refine lv_if_ge (tgt := 90) C.x C.b dX8_ofReals_79 (by decide) (fun c11 => ?_) (fun c11 => ?_)
            · have c11 : 0 ≤ x10.toInt := by have h := z_le c11; rw [show (0 : Int32).toInt = 0 from by decide +kernel] at h; exact h
              refine lv_dload C.x C.b dX8_ofReals_90 (lv_at hl 0 rfl) ?_
              refine c_callSq (C2 := "") (b := 0) (n := 1) (As := [.double x5]) (rest := []) C hP hS hl.1 (NX10_ofReal l D cy ad A sz0 sa κ s.heap.size (SLT s.heap) C.f (fun q h => C.a q (Nat.le_trans hS.1 h)) x5 hPV (vX8_ofReals_2 k0 k1 k2 x5 x6 x10 hpre_0 hpre_1 hpre_2 c1 c2 c3 c4 ex5 ex6 c7 ex10 c11)) ⟨cw_743, cw_143, by decide +kernel⟩ ⟨cw_142, cw_40⟩ rfl rfl (lv_room (Nat.le_of_ble_eq_true rfl)) ⟨Nat.le_of_ble_eq_true rfl, Nat.le_of_ble_eq_true rfl⟩ ⟨(Nat.le_of_ble_eq_true rfl), (Nat.le_of_ble_eq_true rfl)⟩ dX8_ofReals_92 (fun r12 u H locs hr12 hP hS => ?_)
              obtain ⟨P13, rfl⟩ : ∃ z, z = u := ⟨_, rfl⟩
              have hP : CH D cy ad A (tP κ P13) H := hP
              have hr12 : (EX κ.2.2.2.2 P13) ∧ (PV sa P13) ∧ (NN P13 1 r12) := hr12
              obtain ⟨hr12_0, hr12_1, hr12_2⟩ := hr12
              obtain ⟨b14, rfl, tb14⟩ := hr12_2
              have svz15 : SV ad P13 (κ.2.1 0) (κ.2.1 1) (κ.2.2.2.1 6) (κ.2.2.2.1 7) (κ.2.2.2.1 8) (κ.2.2.2.1 13) (κ.2.2.2.1 15) (κ.2.2.2.1 17) (κ.1 1).toInt := hSV.ex hr12_0
              have hP : CH D cy ad A (tP (tI κ 9 (κ.1 9)) P13) H := CH.cong hP rfl rfl rfl rfl rfl rfl rfl rfl rfl rfl rfl rfl rfl rfl rfl rfl rfl rfl rfl rfl rfl rfl rfl rfl rfl rfl rfl
              exact c_retq (v := (some b14)) (Or.inl ⟨_, rfl⟩) C hsz hsl ⟨(κ.1 9), P13⟩ ⟨hr12_0, hr12_1, svz15, (nt_s tb14)⟩ hP hS ⟨(Nat.le_of_ble_eq_true rfl), (Nat.le_of_ble_eq_true rfl)⟩ ⟨(Nat.le_of_ble_eq_true rfl), (Nat.le_of_ble_eq_true rfl)⟩ dX8_ofReals_95
            · have c11 : x10.toInt < 0 := by have h := z_nle c11; rw [show (0 : Int32).toInt = 0 from by decide +kernel] at h; exact h
              refine lv_aload_n C.x C.b dX8_ofReals_82 rfl (lv_at hl 1 rfl) ?_
              refine lv_iconst (v := 3) C.x C.b dX8_ofReals_83 (by decide +kernel) ?_
              refine c_callVq (n := 1) (As := [.int 3]) (rest := []) C hP hS hl.1 (NX8_fail l D cy ad A sz0 sa κ s.heap.size (SLT s.heap) C.f (fun q h => C.a q (Nat.le_trans hS.1 h)) (3 : Int32) ) ⟨cw_702, cw_695, by decide +kernel⟩ ⟨cw_703, cw_704, cw_705⟩ rfl (hP.recvS (k := 3) (ci := 10) C.K rfl rfl) rfl rfl (lv_room (Nat.le_of_ble_eq_true rfl)) ⟨Nat.le_of_ble_eq_true rfl, Nat.le_of_ble_eq_true rfl⟩ ⟨(Nat.le_of_ble_eq_true rfl), (Nat.le_of_ble_eq_true rfl)⟩ dX8_ofReals_84 (fun r16 u H locs hr16 hP hS => ?_)
              obtain ⟨n17, rfl⟩ : ∃ z, z = u := ⟨_, rfl⟩
              have hP : CH D cy ad A (tI κ 9 n17) H := hP
              have hr16 : (NT κ.2.2.2.2 1 r16) := hr16
              refine lv_goto (tgt := 95) C.x C.b dX8_ofReals_87 (by decide) ?_
              have hP : CH D cy ad A (tP (tI κ 9 n17) κ.2.2.2.2) H := CH.cong hP rfl rfl rfl rfl rfl rfl rfl rfl rfl rfl rfl rfl rfl rfl rfl rfl rfl rfl rfl rfl rfl rfl rfl rfl rfl rfl rfl
              exact c_retq (v := r16) (Or.inl ⟨_, rfl⟩) C hsz hsl ⟨n17, κ.2.2.2.2⟩ ⟨EX.rf, hPV, hSV, hr16⟩ hP hS ⟨(Nat.le_of_ble_eq_true rfl), (Nat.le_of_ble_eq_true rfl)⟩ ⟨(Nat.le_of_ble_eq_true rfl), (Nat.le_of_ble_eq_true rfl)⟩ dX8_ofReals_95
        · have c4 : k0.toInt = 42 := by have h := z_eq c4; rw [show (42 : Int32).toInt = 42 from by decide +kernel] at h; exact h
          refine lv_dload_n C.x C.b dX8_ofReals_51 rfl (lv_at hl 2 rfl) ?_
          refine lv_dload C.x C.b dX8_ofReals_52 (lv_at hl 3 rfl) ?_
          refine lv_dmul C.x C.b dX8_ofReals_54 (vX8_ofReals_3 k0 k1 k2 hpre_0 hpre_1 hpre_2 c1 c2 c3 c4) ?_
          refine lv_topd (fun x18 ex18 => ?_)
          refine lv_goto (tgt := 62) C.x C.b dX8_ofReals_55 (by decide) ?_
          refine lv_dstore (lv' := [(6, .double x18), (0, .ref (ad 3)), (1, .int k0), (2, .double k1), (4, .double k2)]) C.x C.b dX8_ofReals_62 hl (by decide) rfl (fun ls hl => ?_)
          refine lv_dload C.x C.b dX8_ofReals_64 (lv_at hl 0 rfl) ?_
          refine lv_ldc2d (v := 4786511204640096256) C.x C.b C.o (C.w _ cw_817) dX8_ofReals_66 ?_
          refine lv_dcmp C.x C.b dX8_ofReals_69 ?_
          refine lv_topi (fun x19 ex19 => ?_)
          refine lv_if_gt (tgt := 82) C.x C.b dX8_ofReals_70 (by decide) (fun c20 => ?_) (fun c20 => ?_)
          · have c20 : 0 < x19.toInt := by have h := z_lt c20; rw [show (0 : Int32).toInt = 0 from by decide +kernel] at h; exact h
            refine lv_aload_n C.x C.b dX8_ofReals_82 rfl (lv_at hl 1 rfl) ?_
            refine lv_iconst (v := 3) C.x C.b dX8_ofReals_83 (by decide +kernel) ?_
            refine c_callVq (n := 1) (As := [.int 3]) (rest := []) C hP hS hl.1 (NX8_fail l D cy ad A sz0 sa κ s.heap.size (SLT s.heap) C.f (fun q h => C.a q (Nat.le_trans hS.1 h)) (3 : Int32) ) ⟨cw_702, cw_695, by decide +kernel⟩ ⟨cw_703, cw_704, cw_705⟩ rfl (hP.recvS (k := 3) (ci := 10) C.K rfl rfl) rfl rfl (lv_room (Nat.le_of_ble_eq_true rfl)) ⟨Nat.le_of_ble_eq_true rfl, Nat.le_of_ble_eq_true rfl⟩ ⟨(Nat.le_of_ble_eq_true rfl), (Nat.le_of_ble_eq_true rfl)⟩ dX8_ofReals_84 (fun r21 u H locs hr21 hP hS => ?_)
            obtain ⟨n22, rfl⟩ : ∃ z, z = u := ⟨_, rfl⟩
            have hP : CH D cy ad A (tI κ 9 n22) H := hP
            have hr21 : (NT κ.2.2.2.2 1 r21) := hr21
            refine lv_goto (tgt := 95) C.x C.b dX8_ofReals_87 (by decide) ?_
            have hP : CH D cy ad A (tP (tI κ 9 n22) κ.2.2.2.2) H := CH.cong hP rfl rfl rfl rfl rfl rfl rfl rfl rfl rfl rfl rfl rfl rfl rfl rfl rfl rfl rfl rfl rfl rfl rfl rfl rfl rfl rfl
            exact c_retq (v := r21) (Or.inl ⟨_, rfl⟩) C hsz hsl ⟨n22, κ.2.2.2.2⟩ ⟨EX.rf, hPV, hSV, hr21⟩ hP hS ⟨(Nat.le_of_ble_eq_true rfl), (Nat.le_of_ble_eq_true rfl)⟩ ⟨(Nat.le_of_ble_eq_true rfl), (Nat.le_of_ble_eq_true rfl)⟩ dX8_ofReals_95
          · have c20 : x19.toInt ≤ 0 := by have h := z_nlt c20; rw [show (0 : Int32).toInt = 0 from by decide +kernel] at h; exact h
            refine lv_dload C.x C.b dX8_ofReals_73 (lv_at hl 0 rfl) ?_
            refine lv_ldc2d (v := 14009883241494872064) C.x C.b C.o (C.w _ cw_818) dX8_ofReals_75 ?_
            refine lv_dcmp C.x C.b dX8_ofReals_78 ?_
            refine lv_topi (fun x23 ex23 => ?_)
            refine lv_if_ge (tgt := 90) C.x C.b dX8_ofReals_79 (by decide) (fun c24 => ?_) (fun c24 => ?_)
            · have c24 : 0 ≤ x23.toInt := by have h := z_le c24; rw [show (0 : Int32).toInt = 0 from by decide +kernel] at h; exact h
              refine lv_dload C.x C.b dX8_ofReals_90 (lv_at hl 0 rfl) ?_
              refine c_callSq (C2 := "") (b := 0) (n := 1) (As := [.double x18]) (rest := []) C hP hS hl.1 (NX10_ofReal l D cy ad A sz0 sa κ s.heap.size (SLT s.heap) C.f (fun q h => C.a q (Nat.le_trans hS.1 h)) x18 hPV (vX8_ofReals_4 k0 k1 k2 x18 x19 x23 hpre_0 hpre_1 hpre_2 c1 c2 c3 c4 ex18 ex19 c20 ex23 c24)) ⟨cw_743, cw_143, by decide +kernel⟩ ⟨cw_142, cw_40⟩ rfl rfl (lv_room (Nat.le_of_ble_eq_true rfl)) ⟨Nat.le_of_ble_eq_true rfl, Nat.le_of_ble_eq_true rfl⟩ ⟨(Nat.le_of_ble_eq_true rfl), (Nat.le_of_ble_eq_true rfl)⟩ dX8_ofReals_92 (fun r25 u H locs hr25 hP hS => ?_)
              obtain ⟨P26, rfl⟩ : ∃ z, z = u := ⟨_, rfl⟩
              have hP : CH D cy ad A (tP κ P26) H := hP
              have hr25 : (EX κ.2.2.2.2 P26) ∧ (PV sa P26) ∧ (NN P26 1 r25) := hr25
              obtain ⟨hr25_0, hr25_1, hr25_2⟩ := hr25
              obtain ⟨b27, rfl, tb27⟩ := hr25_2
              have svz28 : SV ad P26 (κ.2.1 0) (κ.2.1 1) (κ.2.2.2.1 6) (κ.2.2.2.1 7) (κ.2.2.2.1 8) (κ.2.2.2.1 13) (κ.2.2.2.1 15) (κ.2.2.2.1 17) (κ.1 1).toInt := hSV.ex hr25_0
              have hP : CH D cy ad A (tP (tI κ 9 (κ.1 9)) P26) H := CH.cong hP rfl rfl rfl rfl rfl rfl rfl rfl rfl rfl rfl rfl rfl rfl rfl rfl rfl rfl rfl rfl rfl rfl rfl rfl rfl rfl rfl
              exact c_retq (v := (some b27)) (Or.inl ⟨_, rfl⟩) C hsz hsl ⟨(κ.1 9), P26⟩ ⟨hr25_0, hr25_1, svz28, (nt_s tb27)⟩ hP hS ⟨(Nat.le_of_ble_eq_true rfl), (Nat.le_of_ble_eq_true rfl)⟩ ⟨(Nat.le_of_ble_eq_true rfl), (Nat.le_of_ble_eq_true rfl)⟩ dX8_ofReals_95
            · have c24 : x23.toInt < 0 := by have h := z_nle c24; rw [show (0 : Int32).toInt = 0 from by decide +kernel] at h; exact h
              refine lv_aload_n C.x C.b dX8_ofReals_82 rfl (lv_at hl 1 rfl) ?_
              refine lv_iconst (v := 3) C.x C.b dX8_ofReals_83 (by decide +kernel) ?_
              refine c_callVq (n := 1) (As := [.int 3]) (rest := []) C hP hS hl.1 (NX8_fail l D cy ad A sz0 sa κ s.heap.size (SLT s.heap) C.f (fun q h => C.a q (Nat.le_trans hS.1 h)) (3 : Int32) ) ⟨cw_702, cw_695, by decide +kernel⟩ ⟨cw_703, cw_704, cw_705⟩ rfl (hP.recvS (k := 3) (ci := 10) C.K rfl rfl) rfl rfl (lv_room (Nat.le_of_ble_eq_true rfl)) ⟨Nat.le_of_ble_eq_true rfl, Nat.le_of_ble_eq_true rfl⟩ ⟨(Nat.le_of_ble_eq_true rfl), (Nat.le_of_ble_eq_true rfl)⟩ dX8_ofReals_84 (fun r29 u H locs hr29 hP hS => ?_)
              obtain ⟨n30, rfl⟩ : ∃ z, z = u := ⟨_, rfl⟩
              have hP : CH D cy ad A (tI κ 9 n30) H := hP
              have hr29 : (NT κ.2.2.2.2 1 r29) := hr29
              refine lv_goto (tgt := 95) C.x C.b dX8_ofReals_87 (by decide) ?_
              have hP : CH D cy ad A (tP (tI κ 9 n30) κ.2.2.2.2) H := CH.cong hP rfl rfl rfl rfl rfl rfl rfl rfl rfl rfl rfl rfl rfl rfl rfl rfl rfl rfl rfl rfl rfl rfl rfl rfl rfl rfl rfl
              exact c_retq (v := r29) (Or.inl ⟨_, rfl⟩) C hsz hsl ⟨n30, κ.2.2.2.2⟩ ⟨EX.rf, hPV, hSV, hr29⟩ hP hS ⟨(Nat.le_of_ble_eq_true rfl), (Nat.le_of_ble_eq_true rfl)⟩ ⟨(Nat.le_of_ble_eq_true rfl), (Nat.le_of_ble_eq_true rfl)⟩ dX8_ofReals_95
      · have c3 : k0.toInt = 45 := by have h := z_eq c3; rw [show (45 : Int32).toInt = 45 from by decide +kernel] at h; exact h
        refine lv_dload_n C.x C.b dX8_ofReals_38 rfl (lv_at hl 2 rfl) ?_
        refine lv_dload C.x C.b dX8_ofReals_39 (lv_at hl 3 rfl) ?_
        refine lv_dsub C.x C.b dX8_ofReals_41 (vX8_ofReals_5 k0 k1 k2 hpre_0 hpre_1 hpre_2 c1 c2 c3) ?_
        refine lv_topd (fun x31 ex31 => ?_)
        refine lv_goto (tgt := 62) C.x C.b dX8_ofReals_42 (by decide) ?_
        refine lv_dstore (lv' := [(6, .double x31), (0, .ref (ad 3)), (1, .int k0), (2, .double k1), (4, .double k2)]) C.x C.b dX8_ofReals_62 hl (by decide) rfl (fun ls hl => ?_)
        refine lv_dload C.x C.b dX8_ofReals_64 (lv_at hl 0 rfl) ?_
        refine lv_ldc2d (v := 4786511204640096256) C.x C.b C.o (C.w _ cw_817) dX8_ofReals_66 ?_
        refine lv_dcmp C.x C.b dX8_ofReals_69 ?_
        refine lv_topi (fun x32 ex32 => ?_)
        refine lv_if_gt (tgt := 82) C.x C.b dX8_ofReals_70 (by decide) (fun c33 => ?_) (fun c33 => ?_)
        · have c33 : 0 < x32.toInt := by have h := z_lt c33; rw [show (0 : Int32).toInt = 0 from by decide +kernel] at h; exact h
          refine lv_aload_n C.x C.b dX8_ofReals_82 rfl (lv_at hl 1 rfl) ?_
          refine lv_iconst (v := 3) C.x C.b dX8_ofReals_83 (by decide +kernel) ?_
          refine c_callVq (n := 1) (As := [.int 3]) (rest := []) C hP hS hl.1 (NX8_fail l D cy ad A sz0 sa κ s.heap.size (SLT s.heap) C.f (fun q h => C.a q (Nat.le_trans hS.1 h)) (3 : Int32) ) ⟨cw_702, cw_695, by decide +kernel⟩ ⟨cw_703, cw_704, cw_705⟩ rfl (hP.recvS (k := 3) (ci := 10) C.K rfl rfl) rfl rfl (lv_room (Nat.le_of_ble_eq_true rfl)) ⟨Nat.le_of_ble_eq_true rfl, Nat.le_of_ble_eq_true rfl⟩ ⟨(Nat.le_of_ble_eq_true rfl), (Nat.le_of_ble_eq_true rfl)⟩ dX8_ofReals_84 (fun r34 u H locs hr34 hP hS => ?_)
          obtain ⟨n35, rfl⟩ : ∃ z, z = u := ⟨_, rfl⟩
          have hP : CH D cy ad A (tI κ 9 n35) H := hP
          have hr34 : (NT κ.2.2.2.2 1 r34) := hr34
          refine lv_goto (tgt := 95) C.x C.b dX8_ofReals_87 (by decide) ?_
          have hP : CH D cy ad A (tP (tI κ 9 n35) κ.2.2.2.2) H := CH.cong hP rfl rfl rfl rfl rfl rfl rfl rfl rfl rfl rfl rfl rfl rfl rfl rfl rfl rfl rfl rfl rfl rfl rfl rfl rfl rfl rfl
          exact c_retq (v := r34) (Or.inl ⟨_, rfl⟩) C hsz hsl ⟨n35, κ.2.2.2.2⟩ ⟨EX.rf, hPV, hSV, hr34⟩ hP hS ⟨(Nat.le_of_ble_eq_true rfl), (Nat.le_of_ble_eq_true rfl)⟩ ⟨(Nat.le_of_ble_eq_true rfl), (Nat.le_of_ble_eq_true rfl)⟩ dX8_ofReals_95
        · have c33 : x32.toInt ≤ 0 := by have h := z_nlt c33; rw [show (0 : Int32).toInt = 0 from by decide +kernel] at h; exact h
          refine lv_dload C.x C.b dX8_ofReals_73 (lv_at hl 0 rfl) ?_
          refine lv_ldc2d (v := 14009883241494872064) C.x C.b C.o (C.w _ cw_818) dX8_ofReals_75 ?_
          refine lv_dcmp C.x C.b dX8_ofReals_78 ?_
          refine lv_topi (fun x36 ex36 => ?_)
          refine lv_if_ge (tgt := 90) C.x C.b dX8_ofReals_79 (by decide) (fun c37 => ?_) (fun c37 => ?_)
          · have c37 : 0 ≤ x36.toInt := by have h := z_le c37; rw [show (0 : Int32).toInt = 0 from by decide +kernel] at h; exact h
            refine lv_dload C.x C.b dX8_ofReals_90 (lv_at hl 0 rfl) ?_
            refine c_callSq (C2 := "") (b := 0) (n := 1) (As := [.double x31]) (rest := []) C hP hS hl.1 (NX10_ofReal l D cy ad A sz0 sa κ s.heap.size (SLT s.heap) C.f (fun q h => C.a q (Nat.le_trans hS.1 h)) x31 hPV (vX8_ofReals_6 k0 k1 k2 x31 x32 x36 hpre_0 hpre_1 hpre_2 c1 c2 c3 ex31 ex32 c33 ex36 c37)) ⟨cw_743, cw_143, by decide +kernel⟩ ⟨cw_142, cw_40⟩ rfl rfl (lv_room (Nat.le_of_ble_eq_true rfl)) ⟨Nat.le_of_ble_eq_true rfl, Nat.le_of_ble_eq_true rfl⟩ ⟨(Nat.le_of_ble_eq_true rfl), (Nat.le_of_ble_eq_true rfl)⟩ dX8_ofReals_92 (fun r38 u H locs hr38 hP hS => ?_)
            obtain ⟨P39, rfl⟩ : ∃ z, z = u := ⟨_, rfl⟩
            have hP : CH D cy ad A (tP κ P39) H := hP
            have hr38 : (EX κ.2.2.2.2 P39) ∧ (PV sa P39) ∧ (NN P39 1 r38) := hr38
            obtain ⟨hr38_0, hr38_1, hr38_2⟩ := hr38
            obtain ⟨b40, rfl, tb40⟩ := hr38_2
            have svz41 : SV ad P39 (κ.2.1 0) (κ.2.1 1) (κ.2.2.2.1 6) (κ.2.2.2.1 7) (κ.2.2.2.1 8) (κ.2.2.2.1 13) (κ.2.2.2.1 15) (κ.2.2.2.1 17) (κ.1 1).toInt := hSV.ex hr38_0
            have hP : CH D cy ad A (tP (tI κ 9 (κ.1 9)) P39) H := CH.cong hP rfl rfl rfl rfl rfl rfl rfl rfl rfl rfl rfl rfl rfl rfl rfl rfl rfl rfl rfl rfl rfl rfl rfl rfl rfl rfl rfl
            exact c_retq (v := (some b40)) (Or.inl ⟨_, rfl⟩) C hsz hsl ⟨(κ.1 9), P39⟩ ⟨hr38_0, hr38_1, svz41, (nt_s tb40)⟩ hP hS ⟨(Nat.le_of_ble_eq_true rfl), (Nat.le_of_ble_eq_true rfl)⟩ ⟨(Nat.le_of_ble_eq_true rfl), (Nat.le_of_ble_eq_true rfl)⟩ dX8_ofReals_95
          · have c37 : x36.toInt < 0 := by have h := z_nle c37; rw [show (0 : Int32).toInt = 0 from by decide +kernel] at h; exact h
            refine lv_aload_n C.x C.b dX8_ofReals_82 rfl (lv_at hl 1 rfl) ?_
            refine lv_iconst (v := 3) C.x C.b dX8_ofReals_83 (by decide +kernel) ?_
            refine c_callVq (n := 1) (As := [.int 3]) (rest := []) C hP hS hl.1 (NX8_fail l D cy ad A sz0 sa κ s.heap.size (SLT s.heap) C.f (fun q h => C.a q (Nat.le_trans hS.1 h)) (3 : Int32) ) ⟨cw_702, cw_695, by decide +kernel⟩ ⟨cw_703, cw_704, cw_705⟩ rfl (hP.recvS (k := 3) (ci := 10) C.K rfl rfl) rfl rfl (lv_room (Nat.le_of_ble_eq_true rfl)) ⟨Nat.le_of_ble_eq_true rfl, Nat.le_of_ble_eq_true rfl⟩ ⟨(Nat.le_of_ble_eq_true rfl), (Nat.le_of_ble_eq_true rfl)⟩ dX8_ofReals_84 (fun r42 u H locs hr42 hP hS => ?_)
            obtain ⟨n43, rfl⟩ : ∃ z, z = u := ⟨_, rfl⟩
            have hP : CH D cy ad A (tI κ 9 n43) H := hP
            have hr42 : (NT κ.2.2.2.2 1 r42) := hr42
            refine lv_goto (tgt := 95) C.x C.b dX8_ofReals_87 (by decide) ?_
            have hP : CH D cy ad A (tP (tI κ 9 n43) κ.2.2.2.2) H := CH.cong hP rfl rfl rfl rfl rfl rfl rfl rfl rfl rfl rfl rfl rfl rfl rfl rfl rfl rfl rfl rfl rfl rfl rfl rfl rfl rfl rfl
            exact c_retq (v := r42) (Or.inl ⟨_, rfl⟩) C hsz hsl ⟨n43, κ.2.2.2.2⟩ ⟨EX.rf, hPV, hSV, hr42⟩ hP hS ⟨(Nat.le_of_ble_eq_true rfl), (Nat.le_of_ble_eq_true rfl)⟩ ⟨(Nat.le_of_ble_eq_true rfl), (Nat.le_of_ble_eq_true rfl)⟩ dX8_ofReals_95
    · have c2 : k0.toInt = 43 := by have h := z_eq c2; rw [show (43 : Int32).toInt = 43 from by decide +kernel] at h; exact h
      refine lv_dload_n C.x C.b dX8_ofReals_25 rfl (lv_at hl 2 rfl) ?_
      refine lv_dload C.x C.b dX8_ofReals_26 (lv_at hl 3 rfl) ?_
      refine lv_dadd C.x C.b dX8_ofReals_28 (vX8_ofReals_7 k0 k1 k2 hpre_0 hpre_1 hpre_2 c1 c2) ?_
      refine lv_topd (fun x44 ex44 => ?_)
      refine lv_goto (tgt := 62) C.x C.b dX8_ofReals_29 (by decide) ?_
      refine lv_dstore (lv' := [(6, .double x44), (0, .ref (ad 3)), (1, .int k0), (2, .double k1), (4, .double k2)]) C.x C.b dX8_ofReals_62 hl (by decide) rfl (fun ls hl => ?_)
      refine lv_dload C.x C.b dX8_ofReals_64 (lv_at hl 0 rfl) ?_
      refine lv_ldc2d (v := 4786511204640096256) C.x C.b C.o (C.w _ cw_817) dX8_ofReals_66 ?_
      refine lv_dcmp C.x C.b dX8_ofReals_69 ?_
      refine lv_topi (fun x45 ex45 => ?_)
      refine lv_if_gt (tgt := 82) C.x C.b dX8_ofReals_70 (by decide) (fun c46 => ?_) (fun c46 => ?_)
      · have c46 : 0 < x45.toInt := by have h := z_lt c46; rw [show (0 : Int32).toInt = 0 from by decide +kernel] at h; exact h
        refine lv_aload_n C.x C.b dX8_ofReals_82 rfl (lv_at hl 1 rfl) ?_
        refine lv_iconst (v := 3) C.x C.b dX8_ofReals_83 (by decide +kernel) ?_
        refine c_callVq (n := 1) (As := [.int 3]) (rest := []) C hP hS hl.1 (NX8_fail l D cy ad A sz0 sa κ s.heap.size (SLT s.heap) C.f (fun q h => C.a q (Nat.le_trans hS.1 h)) (3 : Int32) ) ⟨cw_702, cw_695, by decide +kernel⟩ ⟨cw_703, cw_704, cw_705⟩ rfl (hP.recvS (k := 3) (ci := 10) C.K rfl rfl) rfl rfl (lv_room (Nat.le_of_ble_eq_true rfl)) ⟨Nat.le_of_ble_eq_true rfl, Nat.le_of_ble_eq_true rfl⟩ ⟨(Nat.le_of_ble_eq_true rfl), (Nat.le_of_ble_eq_true rfl)⟩ dX8_ofReals_84 (fun r47 u H locs hr47 hP hS => ?_)
        obtain ⟨n48, rfl⟩ : ∃ z, z = u := ⟨_, rfl⟩
        have hP : CH D cy ad A (tI κ 9 n48) H := hP
        have hr47 : (NT κ.2.2.2.2 1 r47) := hr47
        refine lv_goto (tgt := 95) C.x C.b dX8_ofReals_87 (by decide) ?_
        have hP : CH D cy ad A (tP (tI κ 9 n48) κ.2.2.2.2) H := CH.cong hP rfl rfl rfl rfl rfl rfl rfl rfl rfl rfl rfl rfl rfl rfl rfl rfl rfl rfl rfl rfl rfl rfl rfl rfl rfl rfl rfl
        exact c_retq (v := r47) (Or.inl ⟨_, rfl⟩) C hsz hsl ⟨n48, κ.2.2.2.2⟩ ⟨EX.rf, hPV, hSV, hr47⟩ hP hS ⟨(Nat.le_of_ble_eq_true rfl), (Nat.le_of_ble_eq_true rfl)⟩ ⟨(Nat.le_of_ble_eq_true rfl), (Nat.le_of_ble_eq_true rfl)⟩ dX8_ofReals_95
      · have c46 : x45.toInt ≤ 0 := by have h := z_nlt c46; rw [show (0 : Int32).toInt = 0 from by decide +kernel] at h; exact h
        refine lv_dload C.x C.b dX8_ofReals_73 (lv_at hl 0 rfl) ?_
        refine lv_ldc2d (v := 14009883241494872064) C.x C.b C.o (C.w _ cw_818) dX8_ofReals_75 ?_
        refine lv_dcmp C.x C.b dX8_ofReals_78 ?_
        refine lv_topi (fun x49 ex49 => ?_)
        refine lv_if_ge (tgt := 90) C.x C.b dX8_ofReals_79 (by decide) (fun c50 => ?_) (fun c50 => ?_)
        · have c50 : 0 ≤ x49.toInt := by have h := z_le c50; rw [show (0 : Int32).toInt = 0 from by decide +kernel] at h; exact h
          refine lv_dload C.x C.b dX8_ofReals_90 (lv_at hl 0 rfl) ?_
          refine c_callSq (C2 := "") (b := 0) (n := 1) (As := [.double x44]) (rest := []) C hP hS hl.1 (NX10_ofReal l D cy ad A sz0 sa κ s.heap.size (SLT s.heap) C.f (fun q h => C.a q (Nat.le_trans hS.1 h)) x44 hPV (vX8_ofReals_8 k0 k1 k2 x44 x45 x49 hpre_0 hpre_1 hpre_2 c1 c2 ex44 ex45 c46 ex49 c50)) ⟨cw_743, cw_143, by decide +kernel⟩ ⟨cw_142, cw_40⟩ rfl rfl (lv_room (Nat.le_of_ble_eq_true rfl)) ⟨Nat.le_of_ble_eq_true rfl, Nat.le_of_ble_eq_true rfl⟩ ⟨(Nat.le_of_ble_eq_true rfl), (Nat.le_of_ble_eq_true rfl)⟩ dX8_ofReals_92 (fun r51 u H locs hr51 hP hS => ?_)
          obtain ⟨P52, rfl⟩ : ∃ z, z = u := ⟨_, rfl⟩
          have hP : CH D cy ad A (tP κ P52) H := hP
          have hr51 : (EX κ.2.2.2.2 P52) ∧ (PV sa P52) ∧ (NN P52 1 r51) := hr51
          obtain ⟨hr51_0, hr51_1, hr51_2⟩ := hr51
          obtain ⟨b53, rfl, tb53⟩ := hr51_2
          have svz54 : SV ad P52 (κ.2.1 0) (κ.2.1 1) (κ.2.2.2.1 6) (κ.2.2.2.1 7) (κ.2.2.2.1 8) (κ.2.2.2.1 13) (κ.2.2.2.1 15) (κ.2.2.2.1 17) (κ.1 1).toInt := hSV.ex hr51_0
          have hP : CH D cy ad A (tP (tI κ 9 (κ.1 9)) P52) H := CH.cong hP rfl rfl rfl rfl rfl rfl rfl rfl rfl rfl rfl rfl rfl rfl rfl rfl rfl rfl rfl rfl rfl rfl rfl rfl rfl rfl rfl
          exact c_retq (v := (some b53)) (Or.inl ⟨_, rfl⟩) C hsz hsl ⟨(κ.1 9), P52⟩ ⟨hr51_0, hr51_1, svz54, (nt_s tb53)⟩ hP hS ⟨(Nat.le_of_ble_eq_true rfl), (Nat.le_of_ble_eq_true rfl)⟩ ⟨(Nat.le_of_ble_eq_true rfl), (Nat.le_of_ble_eq_true rfl)⟩ dX8_ofReals_95
        · have c50 : x49.toInt < 0 := by have h := z_nle c50; rw [show (0 : Int32).toInt = 0 from by decide +kernel] at h; exact h
          refine lv_aload_n C.x C.b dX8_ofReals_82 rfl (lv_at hl 1 rfl) ?_
          refine lv_iconst (v := 3) C.x C.b dX8_ofReals_83 (by decide +kernel) ?_
          refine c_callVq (n := 1) (As := [.int 3]) (rest := []) C hP hS hl.1 (NX8_fail l D cy ad A sz0 sa κ s.heap.size (SLT s.heap) C.f (fun q h => C.a q (Nat.le_trans hS.1 h)) (3 : Int32) ) ⟨cw_702, cw_695, by decide +kernel⟩ ⟨cw_703, cw_704, cw_705⟩ rfl (hP.recvS (k := 3) (ci := 10) C.K rfl rfl) rfl rfl (lv_room (Nat.le_of_ble_eq_true rfl)) ⟨Nat.le_of_ble_eq_true rfl, Nat.le_of_ble_eq_true rfl⟩ ⟨(Nat.le_of_ble_eq_true rfl), (Nat.le_of_ble_eq_true rfl)⟩ dX8_ofReals_84 (fun r55 u H locs hr55 hP hS => ?_)
          obtain ⟨n56, rfl⟩ : ∃ z, z = u := ⟨_, rfl⟩
          have hP : CH D cy ad A (tI κ 9 n56) H := hP
          have hr55 : (NT κ.2.2.2.2 1 r55) := hr55
          refine lv_goto (tgt := 95) C.x C.b dX8_ofReals_87 (by decide) ?_
          have hP : CH D cy ad A (tP (tI κ 9 n56) κ.2.2.2.2) H := CH.cong hP rfl rfl rfl rfl rfl rfl rfl rfl rfl rfl rfl rfl rfl rfl rfl rfl rfl rfl rfl rfl rfl rfl rfl rfl rfl rfl rfl
          exact c_retq (v := r55) (Or.inl ⟨_, rfl⟩) C hsz hsl ⟨n56, κ.2.2.2.2⟩ ⟨EX.rf, hPV, hSV, hr55⟩ hP hS ⟨(Nat.le_of_ble_eq_true rfl), (Nat.le_of_ble_eq_true rfl)⟩ ⟨(Nat.le_of_ble_eq_true rfl), (Nat.le_of_ble_eq_true rfl)⟩ dX8_ofReals_95
  · have c1 : k0.toInt = 47 := by have h := z_eq c1; rw [show (47 : Int32).toInt = 47 from by decide +kernel] at h; exact h
    refine lv_dload C.x C.b dX8_ofReals_6 (lv_at hl 3 rfl) ?_
    refine lv_dconst0 C.x C.b dX8_ofReals_8 ?_
    refine lv_dcmp C.x C.b dX8_ofReals_9 ?_
    refine lv_topi (fun x57 ex57 => ?_)
    refine lv_if_ne (tgt := 19) C.x C.b dX8_ofReals_10 (by decide) (fun c58 => ?_) (fun c58 => ?_)
    · have c58 : ¬ x57.toInt = 0 := by have h := z_ne c58; rw [show (0 : Int32).toInt = 0 from by decide +kernel] at h; exact h
      refine lv_iload_n C.x C.b dX8_ofReals_19 rfl (lv_at hl 1 rfl) ?_
      refine lv_bipush (v := 43) C.x C.b dX8_ofReals_20 (by decide +kernel) ?_
      refine lv_icmp_ne (tgt := 32) C.x C.b dX8_ofReals_22 (by decide) (fun c59 => ?_) (fun c59 => ?_)
      · have c59 : ¬ k0.toInt = 43 := by have h := z_ne c59; rw [show (43 : Int32).toInt = 43 from by decide +kernel] at h; exact h
        refine lv_iload_n C.x C.b dX8_ofReals_32 rfl (lv_at hl 1 rfl) ?_
        refine lv_bipush (v := 45) C.x C.b dX8_ofReals_33 (by decide +kernel) ?_
        refine lv_icmp_ne (tgt := 45) C.x C.b dX8_ofReals_35 (by decide) (fun c60 => ?_) (fun c60 => ?_)
        · have c60 : ¬ k0.toInt = 45 := by have h := z_ne c60; rw [show (45 : Int32).toInt = 45 from by decide +kernel] at h; exact h
          refine lv_iload_n C.x C.b dX8_ofReals_45 rfl (lv_at hl 1 rfl) ?_
          refine lv_bipush (v := 42) C.x C.b dX8_ofReals_46 (by decide +kernel) ?_
          refine lv_icmp_ne (tgt := 58) C.x C.b dX8_ofReals_48 (by decide) (fun c61 => ?_) (fun c61 => ?_)
          · have c61 : ¬ k0.toInt = 42 := by have h := z_ne c61; rw [show (42 : Int32).toInt = 42 from by decide +kernel] at h; exact h
            refine lv_dload_n C.x C.b dX8_ofReals_58 rfl (lv_at hl 2 rfl) ?_
            refine lv_dload C.x C.b dX8_ofReals_59 (lv_at hl 3 rfl) ?_
            refine lv_ddiv C.x C.b dX8_ofReals_61 (vX8_ofReals_9 k0 k1 k2 x57 hpre_0 hpre_1 hpre_2 c1 ex57 c58 c59 c60 c61) ?_
            refine lv_topd (fun x62 ex62 => ?_)
            refine lv_dstore (lv' := [(6, .double x62), (0, .ref (ad 3)), (1, .int k0), (2, .double k1), (4, .double k2)]) C.x C.b dX8_ofReals_62 hl (by decide) rfl (fun ls hl => ?_)
            refine lv_dload C.x C.b dX8_ofReals_64 (lv_at hl 0 rfl) ?_
            refine lv_ldc2d (v := 4786511204640096256) C.x C.b C.o (C.w _ cw_817) dX8_ofReals_66 ?_
            refine lv_dcmp C.x C.b dX8_ofReals_69 ?_
            refine lv_topi (fun x63 ex63 => ?_)
            refine lv_if_gt (tgt := 82) C.x C.b dX8_ofReals_70 (by decide) (fun c64 => ?_) (fun c64 => ?_)
            · have c64 : 0 < x63.toInt := by have h := z_lt c64; rw [show (0 : Int32).toInt = 0 from by decide +kernel] at h; exact h
              refine lv_aload_n C.x C.b dX8_ofReals_82 rfl (lv_at hl 1 rfl) ?_
              refine lv_iconst (v := 3) C.x C.b dX8_ofReals_83 (by decide +kernel) ?_
              refine c_callVq (n := 1) (As := [.int 3]) (rest := []) C hP hS hl.1 (NX8_fail l D cy ad A sz0 sa κ s.heap.size (SLT s.heap) C.f (fun q h => C.a q (Nat.le_trans hS.1 h)) (3 : Int32) ) ⟨cw_702, cw_695, by decide +kernel⟩ ⟨cw_703, cw_704, cw_705⟩ rfl (hP.recvS (k := 3) (ci := 10) C.K rfl rfl) rfl rfl (lv_room (Nat.le_of_ble_eq_true rfl)) ⟨Nat.le_of_ble_eq_true rfl, Nat.le_of_ble_eq_true rfl⟩ ⟨(Nat.le_of_ble_eq_true rfl), (Nat.le_of_ble_eq_true rfl)⟩ dX8_ofReals_84 (fun r65 u H locs hr65 hP hS => ?_)
              obtain ⟨n66, rfl⟩ : ∃ z, z = u := ⟨_, rfl⟩
              have hP : CH D cy ad A (tI κ 9 n66) H := hP
              have hr65 : (NT κ.2.2.2.2 1 r65) := hr65
              refine lv_goto (tgt := 95) C.x C.b dX8_ofReals_87 (by decide) ?_
              have hP : CH D cy ad A (tP (tI κ 9 n66) κ.2.2.2.2) H := CH.cong hP rfl rfl rfl rfl rfl rfl rfl rfl rfl rfl rfl rfl rfl rfl rfl rfl rfl rfl rfl rfl rfl rfl rfl rfl rfl rfl rfl
              exact c_retq (v := r65) (Or.inl ⟨_, rfl⟩) C hsz hsl ⟨n66, κ.2.2.2.2⟩ ⟨EX.rf, hPV, hSV, hr65⟩ hP hS ⟨(Nat.le_of_ble_eq_true rfl), (Nat.le_of_ble_eq_true rfl)⟩ ⟨(Nat.le_of_ble_eq_true rfl), (Nat.le_of_ble_eq_true rfl)⟩ dX8_ofReals_95
            · have c64 : x63.toInt ≤ 0 := by have h := z_nlt c64; rw [show (0 : Int32).toInt = 0 from by decide +kernel] at h; exact h
              refine lv_dload C.x C.b dX8_ofReals_73 (lv_at hl 0 rfl) ?_
              refine lv_ldc2d (v := 14009883241494872064) C.x C.b C.o (C.w _ cw_818) dX8_ofReals_75 ?_
              refine lv_dcmp C.x C.b dX8_ofReals_78 ?_
              refine lv_topi (fun x67 ex67 => ?_)
              refine lv_if_ge (tgt := 90) C.x C.b dX8_ofReals_79 (by decide) (fun c68 => ?_) (fun c68 => ?_)
              · have c68 : 0 ≤ x67.toInt := by have h := z_le c68; rw [show (0 : Int32).toInt = 0 from by decide +kernel] at h; exact h
                refine lv_dload C.x C.b dX8_ofReals_90 (lv_at hl 0 rfl) ?_
                refine c_callSq (C2 := "") (b := 0) (n := 1) (As := [.double x62]) (rest := []) C hP hS hl.1 (NX10_ofReal l D cy ad A sz0 sa κ s.heap.size (SLT s.heap) C.f (fun q h => C.a q (Nat.le_trans hS.1 h)) x62 hPV (vX8_ofReals_10 k0 k1 k2 x57 x62 x63 x67 hpre_0 hpre_1 hpre_2 c1 ex57 c58 c59 c60 c61 ex62 ex63 c64 ex67 c68)) ⟨cw_743, cw_143, by decide +kernel⟩ ⟨cw_142, cw_40⟩ rfl rfl (lv_room (Nat.le_of_ble_eq_true rfl)) ⟨Nat.le_of_ble_eq_true rfl, Nat.le_of_ble_eq_true rfl⟩ ⟨(Nat.le_of_ble_eq_true rfl), (Nat.le_of_ble_eq_true rfl)⟩ dX8_ofReals_92 (fun r69 u H locs hr69 hP hS => ?_)
                obtain ⟨P70, rfl⟩ : ∃ z, z = u := ⟨_, rfl⟩
                have hP : CH D cy ad A (tP κ P70) H := hP
                have hr69 : (EX κ.2.2.2.2 P70) ∧ (PV sa P70) ∧ (NN P70 1 r69) := hr69
                obtain ⟨hr69_0, hr69_1, hr69_2⟩ := hr69
                obtain ⟨b71, rfl, tb71⟩ := hr69_2
                have svz72 : SV ad P70 (κ.2.1 0) (κ.2.1 1) (κ.2.2.2.1 6) (κ.2.2.2.1 7) (κ.2.2.2.1 8) (κ.2.2.2.1 13) (κ.2.2.2.1 15) (κ.2.2.2.1 17) (κ.1 1).toInt := hSV.ex hr69_0
                have hP : CH D cy ad A (tP (tI κ 9 (κ.1 9)) P70) H := CH.cong hP rfl rfl rfl rfl rfl rfl rfl rfl rfl rfl rfl rfl rfl rfl rfl rfl rfl rfl rfl rfl rfl rfl rfl rfl rfl rfl rfl
                exact c_retq (v := (some b71)) (Or.inl ⟨_, rfl⟩) C hsz hsl ⟨(κ.1 9), P70⟩ ⟨hr69_0, hr69_1, svz72, (nt_s tb71)⟩ hP hS ⟨(Nat.le_of_ble_eq_true rfl), (Nat.le_of_ble_eq_true rfl)⟩ ⟨(Nat.le_of_ble_eq_true rfl), (Nat.le_of_ble_eq_true rfl)⟩ dX8_ofReals_95
              · have c68 : x67.toInt < 0 := by have h := z_nle c68; rw [show (0 : Int32).toInt = 0 from by decide +kernel] at h; exact h
                refine lv_aload_n C.x C.b dX8_ofReals_82 rfl (lv_at hl 1 rfl) ?_
                refine lv_iconst (v := 3) C.x C.b dX8_ofReals_83 (by decide +kernel) ?_
                refine c_callVq (n := 1) (As := [.int 3]) (rest := []) C hP hS hl.1 (NX8_fail l D cy ad A sz0 sa κ s.heap.size (SLT s.heap) C.f (fun q h => C.a q (Nat.le_trans hS.1 h)) (3 : Int32) ) ⟨cw_702, cw_695, by decide +kernel⟩ ⟨cw_703, cw_704, cw_705⟩ rfl (hP.recvS (k := 3) (ci := 10) C.K rfl rfl) rfl rfl (lv_room (Nat.le_of_ble_eq_true rfl)) ⟨Nat.le_of_ble_eq_true rfl, Nat.le_of_ble_eq_true rfl⟩ ⟨(Nat.le_of_ble_eq_true rfl), (Nat.le_of_ble_eq_true rfl)⟩ dX8_ofReals_84 (fun r73 u H locs hr73 hP hS => ?_)
                obtain ⟨n74, rfl⟩ : ∃ z, z = u := ⟨_, rfl⟩
                have hP : CH D cy ad A (tI κ 9 n74) H := hP
                have hr73 : (NT κ.2.2.2.2 1 r73) := hr73
                refine lv_goto (tgt := 95) C.x C.b dX8_ofReals_87 (by decide) ?_
                have hP : CH D cy ad A (tP (tI κ 9 n74) κ.2.2.2.2) H := CH.cong hP rfl rfl rfl rfl rfl rfl rfl rfl rfl rfl rfl rfl rfl rfl rfl rfl rfl rfl rfl rfl rfl rfl rfl rfl rfl rfl rfl
                exact c_retq (v := r73) (Or.inl ⟨_, rfl⟩) C hsz hsl ⟨n74, κ.2.2.2.2⟩ ⟨EX.rf, hPV, hSV, hr73⟩ hP hS ⟨(Nat.le_of_ble_eq_true rfl), (Nat.le_of_ble_eq_true rfl)⟩ ⟨(Nat.le_of_ble_eq_true rfl), (Nat.le_of_ble_eq_true rfl)⟩ dX8_ofReals_95
          · have c61 : k0.toInt = 42 := by have h := z_eq c61; rw [show (42 : Int32).toInt = 42 from by decide +kernel] at h; exact h
            exact absurd (vX8_ofReals_11 k0 hpre_0 c1 c59 c60 c61) id
        · have c60 : k0.toInt = 45 := by have h := z_eq c60; rw [show (45 : Int32).toInt = 45 from by decide +kernel] at h; exact h
          exact absurd (vX8_ofReals_12 k0 hpre_0 c1 c59 c60) id
      · have c59 : k0.toInt = 43 := by have h := z_eq c59; rw [show (43 : Int32).toInt = 43 from by decide +kernel] at h; exact h
        exact absurd (vX8_ofReals_13 k0 hpre_0 c1 c59) id
    · have c58 : x57.toInt = 0 := by have h := z_eq c58; rw [show (0 : Int32).toInt = 0 from by decide +kernel] at h; exact h
      refine lv_aload_n C.x C.b dX8_ofReals_13 rfl (lv_at hl 0 rfl) ?_
      refine lv_iconst (v := 2) C.x C.b dX8_ofReals_14 (by decide +kernel) ?_
      refine c_callVq (n := 1) (As := [.int 2]) (rest := []) C hP hS hl.1 (NX8_fail l D cy ad A sz0 sa κ s.heap.size (SLT s.heap) C.f (fun q h => C.a q (Nat.le_trans hS.1 h)) (2 : Int32) ) ⟨cw_702, cw_695, by decide +kernel⟩ ⟨cw_703, cw_704, cw_705⟩ rfl (hP.recvS (k := 3) (ci := 10) C.K rfl rfl) rfl rfl (lv_room (Nat.le_of_ble_eq_true rfl)) ⟨Nat.le_of_ble_eq_true rfl, Nat.le_of_ble_eq_true rfl⟩ ⟨(Nat.le_of_ble_eq_true rfl), (Nat.le_of_ble_eq_true rfl)⟩ dX8_ofReals_15 (fun r75 u H locs hr75 hP hS => ?_)
      obtain ⟨n76, rfl⟩ : ∃ z, z = u := ⟨_, rfl⟩
      have hP : CH D cy ad A (tI κ 9 n76) H := hP
      have hr75 : (NT κ.2.2.2.2 1 r75) := hr75
      have hP : CH D cy ad A (tP (tI κ 9 n76) κ.2.2.2.2) H := CH.cong hP rfl rfl rfl rfl rfl rfl rfl rfl rfl rfl rfl rfl rfl rfl rfl rfl rfl rfl rfl rfl rfl rfl rfl rfl rfl rfl rfl
      exact c_retq (v := r75) (Or.inl ⟨_, rfl⟩) C hsz hsl ⟨n76, κ.2.2.2.2⟩ ⟨EX.rf, hPV, hSV, hr75⟩ hP hS ⟨(Nat.le_of_ble_eq_true rfl), (Nat.le_of_ble_eq_true rfl)⟩ ⟨(Nat.le_of_ble_eq_true rfl), (Nat.le_of_ble_eq_true rfl)⟩ dX8_ofReals_18

-- pre:X8_ofReals@66 @66
theorem vX8_calculate_1 (k0 : Int32) (x12 : UInt64) (x13 : UInt64) (hpre : (k0.toInt = 37 ∨ k0.toInt = 42 ∨ k0.toInt = 43 ∨ k0.toInt = 45 ∨ k0.toInt = 47)) (c3 : ¬ k0.toInt = 37) (fx12 : FN x12) (fx13 : FN x13) : (k0.toInt = 42 ∨ k0.toInt = 43 ∨ k0.toInt = 45 ∨ k0.toInt = 47) ∧ FN x12 ∧ FN x13 := by
  refine ⟨?_, ?_, ?_⟩ <;> first | assumption | omega | (subst_vars; omega) | trivial
-- pre:X8_ofReals@66 @66
theorem vX8_calculate_2 (k0 : Int32) (x30 : UInt64) (x31 : UInt64) (hpre : (k0.toInt = 37 ∨ k0.toInt = 42 ∨ k0.toInt = 43 ∨ k0.toInt = 45 ∨ k0.toInt = 47)) (c21 : ¬ k0.toInt = 37) (fx30 : FN x30) (fx31 : FN x31) : (k0.toInt = 42 ∨ k0.toInt = 43 ∨ k0.toInt = 45 ∨ k0.toInt = 47) ∧ FN x30 ∧ FN x31 := by
  refine ⟨?_, ?_, ?_⟩ <;> first | assumption | omega | (subst_vars; omega) | trivial
set_option maxHeartbeats 4000000 in
set_option maxRecDepth 100000 in
theorem NX8_calculate (l : Launch) (D : va_G) (cy : Nat → ClassId) (ad : Nat → Nat) (A : Nat → Prop) (sz0 : Nat) (sa : Nat → Nat)  (κ : KS) (sz sl : Nat) (hAF : ∀ q, A q → Fr sz0 q) (hAn : ∀ q : Nat, sz ≤ q → A q) (k0 : Int32) (k1 : Nat) (k2 : Nat) (ht1 : oT κ.2.2.2.2 k1 = 1) (ht2 : oT κ.2.2.2.2 k2 = 1) (hPV : PV sa κ.2.2.2.2) (hSV : SV ad κ.2.2.2.2 (κ.2.1 0) (κ.2.1 1) (κ.2.2.2.1 6) (κ.2.2.2.1 7) (κ.2.2.2.1 8) (κ.2.2.2.1 13) (κ.2.2.2.1 15) (κ.2.2.2.1 17) (κ.1 1).toInt) (hpre : (k0.toInt = 37 ∨ k0.toInt = 42 ∨ k0.toInt = 43 ∨ k0.toInt = 45 ∨ k0.toInt = 47)) : Met l yX8_calculate (Cond.code yX8_calculate cX8_calculate 4 (some (.object "PhraseDesk$Value")) :: GWc) ({ frames := 4, cells := 1, slots := 5, locals := 94 }) (PcC D cy ad A sz0 sa [.ref (ad 3), .int k0, .ref k1, .ref k2] κ sz sl) (va_Qq (fun (r : Option Nat) (u : Int32 × PL) => (EX κ.2.2.2.2 u.2) ∧ (PV sa u.2) ∧ (SV ad u.2 (κ.2.1 0) (κ.2.1 1) (κ.2.2.2.1 6) (κ.2.2.2.1 7) (κ.2.2.2.1 8) (κ.2.2.2.1 13) (κ.2.2.2.1 15) (κ.2.2.2.1 17) (κ.1 1).toInt) ∧ (NT u.2 1 r)) (fun (u : Int32 × PL) (t : State) => Bx D cy ad A sz sl (tP (tI κ 9 u.1) u.2) (1) (5) t) A) (1) (5) A := by
  refine CM_of (loc0 := [(0, .ref (ad 3)), (1, .int k0), (2, .ref k1), (3, .ref k2)]) (own := RX8) (nm := "calculate") (by decide) rfl rfl rfl (Nat.le_of_ble_eq_true rfl) hAF hAn ?_
  intro p e s m below meth c ls hsz hsl C hP hS hl
  refine lv_aload_n C.x C.b dX8_calculate_0 rfl (lv_at hl 2 rfl) ?_
  obtain ⟨x1, ex1⟩ : ∃ z, oI κ.2.2.2.2 0 k1 = z := ⟨_, rfl⟩
  refine pg_X10_0 (v := x1) C hP (t20 (a := k1) (t := 1) ht1) ex1 cw_718 dX8_calculate_1 ?_
  refine lv_iconst (v := 2) C.x C.b dX8_calculate_4 (by decide +kernel) ?_
  refine lv_icmp_ne (tgt := 30) C.x C.b dX8_calculate_5 (by decide) (fun c2 => ?_) (fun c2 => ?_)
  · have c2 : ¬ x1.toInt = 2 := by have h := z_ne c2; rw [show (2 : Int32).toInt = 2 from by decide +kernel] at h; exact h
    refine lv_iload_n C.x C.b dX8_calculate_30 rfl (lv_at hl 1 rfl) ?_
    refine lv_bipush (v := 37) C.x C.b dX8_calculate_31 (by decide +kernel) ?_
    refine lv_icmp_eq (tgt := 50) C.x C.b dX8_calculate_33 (by decide) (fun c3 => ?_) (fun c3 => ?_)
    · have c3 : k0.toInt = 37 := by have h := z_eq c3; rw [show (37 : Int32).toInt = 37 from by decide +kernel] at h; exact h
      refine lv_aload_n C.x C.b dX8_calculate_50 rfl (lv_at hl 0 rfl) ?_
      refine lv_iconst (v := 1) C.x C.b dX8_calculate_51 (by decide +kernel) ?_
      refine c_callVq (n := 1) (As := [.int 1]) (rest := []) C hP hS hl.1 (NX8_fail l D cy ad A sz0 sa κ s.heap.size (SLT s.heap) C.f (fun q h => C.a q (Nat.le_trans hS.1 h)) (1 : Int32) ) ⟨cw_702, cw_695, by decide +kernel⟩ ⟨cw_703, cw_704, cw_705⟩ rfl (hP.recvS (k := 3) (ci := 10) C.K rfl rfl) rfl rfl (lv_room (Nat.le_of_ble_eq_true rfl)) ⟨Nat.le_of_ble_eq_true rfl, Nat.le_of_ble_eq_true rfl⟩ ⟨(Nat.le_of_ble_eq_true rfl), (Nat.le_of_ble_eq_true rfl)⟩ dX8_calculate_52 (fun r4 u H locs hr4 hP hS => ?_)
      obtain ⟨n5, rfl⟩ : ∃ z, z = u := ⟨_, rfl⟩
      have hP : CH D cy ad A (tI κ 9 n5) H := hP
      have hr4 : (NT κ.2.2.2.2 1 r4) := hr4
      have hP : CH D cy ad A (tP (tI κ 9 n5) κ.2.2.2.2) H := CH.cong hP rfl rfl rfl rfl rfl rfl rfl rfl rfl rfl rfl rfl rfl rfl rfl rfl rfl rfl rfl rfl rfl rfl rfl rfl rfl rfl rfl
      exact c_retq (v := r4) (Or.inl ⟨_, rfl⟩) C hsz hsl ⟨n5, κ.2.2.2.2⟩ ⟨EX.rf, hPV, hSV, hr4⟩ hP hS ⟨(Nat.le_of_ble_eq_true rfl), (Nat.le_of_ble_eq_true rfl)⟩ ⟨(Nat.le_of_ble_eq_true rfl), (Nat.le_of_ble_eq_true rfl)⟩ dX8_calculate_55
    · have c3 : ¬ k0.toInt = 37 := by have h := z_ne c3; rw [show (37 : Int32).toInt = 37 from by decide +kernel] at h; exact h
      refine lv_aload_n C.x C.b dX8_calculate_36 rfl (lv_at hl 2 rfl) ?_
      refine c_callVi (n := 0) (As := []) (rest := []) C hP hS hl.1 (NX10_isNumber l D cy ad A sz0 sa κ s.heap.size (SLT s.heap) C.f (fun q h => C.a q (Nat.le_trans hS.1 h)) k1 ht1 hPV) ⟨cw_809, cw_812, by decide +kernel⟩ ⟨cw_810, cw_811, cw_40⟩ rfl (hP.recvP (t := 1) (ci := 12) C.K (t20 (a := k1) (t := 1) ht1) (by decide) rfl rfl) rfl rfl (lv_room (Nat.le_of_ble_eq_true rfl)) ⟨Nat.le_of_ble_eq_true rfl, Nat.le_of_ble_eq_true rfl⟩ ⟨(Nat.le_of_ble_eq_true rfl), (Nat.le_of_ble_eq_true rfl)⟩ dX8_calculate_37 (fun r6 u H locs hr6 hP hS => ?_)
      have hr6 : (0 ≤ r6.toInt ∧ r6.toInt ≤ 1) := hr6
      obtain ⟨hr6_0, hr6_1⟩ := hr6
      refine lv_if_eq (tgt := 50) C.x C.b dX8_calculate_40 (by decide) (fun c7 => ?_) (fun c7 => ?_)
      · have c7 : r6.toInt = 0 := by have h := z_eq c7; rw [show (0 : Int32).toInt = 0 from by decide +kernel] at h; exact h
        refine lv_aload_n C.x C.b dX8_calculate_50 rfl (lv_at hl 0 rfl) ?_
        refine lv_iconst (v := 1) C.x C.b dX8_calculate_51 (by decide +kernel) ?_
        refine c_callVq (n := 1) (As := [.int 1]) (rest := []) C hP hS hl.1 (NX8_fail l D cy ad A sz0 sa κ H.size (SLT H) C.f (fun q h => C.a q (Nat.le_trans hS.1 h)) (1 : Int32) ) ⟨cw_702, cw_695, by decide +kernel⟩ ⟨cw_703, cw_704, cw_705⟩ rfl (hP.recvS (k := 3) (ci := 10) C.K rfl rfl) rfl rfl (lv_room (Nat.le_of_ble_eq_true rfl)) ⟨Nat.le_of_ble_eq_true rfl, Nat.le_of_ble_eq_true rfl⟩ ⟨(Nat.le_of_ble_eq_true rfl), (Nat.le_of_ble_eq_true rfl)⟩ dX8_calculate_52 (fun r8 u H locs hr8 hP hS => ?_)
        obtain ⟨n9, rfl⟩ : ∃ z, z = u := ⟨_, rfl⟩
        have hP : CH D cy ad A (tI κ 9 n9) H := hP
        have hr8 : (NT κ.2.2.2.2 1 r8) := hr8
        have hP : CH D cy ad A (tP (tI κ 9 n9) κ.2.2.2.2) H := CH.cong hP rfl rfl rfl rfl rfl rfl rfl rfl rfl rfl rfl rfl rfl rfl rfl rfl rfl rfl rfl rfl rfl rfl rfl rfl rfl rfl rfl
        exact c_retq (v := r8) (Or.inl ⟨_, rfl⟩) C hsz hsl ⟨n9, κ.2.2.2.2⟩ ⟨EX.rf, hPV, hSV, hr8⟩ hP hS ⟨(Nat.le_of_ble_eq_true rfl), (Nat.le_of_ble_eq_true rfl)⟩ ⟨(Nat.le_of_ble_eq_true rfl), (Nat.le_of_ble_eq_true rfl)⟩ dX8_calculate_55
      · have c7 : ¬ r6.toInt = 0 := by have h := z_ne c7; rw [show (0 : Int32).toInt = 0 from by decide +kernel] at h; exact h
        refine lv_aload_n C.x C.b dX8_calculate_43 rfl (lv_at hl 3 rfl) ?_
        refine c_callVi (n := 0) (As := []) (rest := []) C hP hS hl.1 (NX10_isNumber l D cy ad A sz0 sa κ H.size (SLT H) C.f (fun q h => C.a q (Nat.le_trans hS.1 h)) k2 ht2 hPV) ⟨cw_809, cw_812, by decide +kernel⟩ ⟨cw_810, cw_811, cw_40⟩ rfl (hP.recvP (t := 1) (ci := 12) C.K (t20 (a := k2) (t := 1) ht2) (by decide) rfl rfl) rfl rfl (lv_room (Nat.le_of_ble_eq_true rfl)) ⟨Nat.le_of_ble_eq_true rfl, Nat.le_of_ble_eq_true rfl⟩ ⟨(Nat.le_of_ble_eq_true rfl), (Nat.le_of_ble_eq_true rfl)⟩ dX8_calculate_44 (fun r10 u H locs hr10 hP hS => ?_)
        have hr10 : (0 ≤ r10.toInt ∧ r10.toInt ≤ 1) := hr10
        obtain ⟨hr10_0, hr10_1⟩ := hr10
        refine lv_if_ne (tgt := 56) C.x C.b dX8_calculate_47 (by decide) (fun c11 => ?_) (fun c11 => ?_)
        · have c11 : ¬ r10.toInt = 0 := by have h := z_ne c11; rw [show (0 : Int32).toInt = 0 from by decide +kernel] at h; exact h
          refine lv_aload_n C.x C.b dX8_calculate_56 rfl (lv_at hl 0 rfl) ?_
          refine lv_iload_n C.x C.b dX8_calculate_57 rfl (lv_at hl 1 rfl) ?_
          refine lv_aload_n C.x C.b dX8_calculate_58 rfl (lv_at hl 2 rfl) ?_
          obtain ⟨x12, ex12⟩ : ∃ z, oD κ.2.2.2.2 k1 = z := ⟨_, rfl⟩
          refine pg_X10_2 (v := x12) C hP (t20 (a := k1) (t := 1) ht1) ex12 cw_742 dX8_calculate_59 ?_
          have fx12 : FN x12 := by rw [← ex12]; exact (hPV.t1 ht1).2.2
          refine lv_aload_n C.x C.b dX8_calculate_62 rfl (lv_at hl 3 rfl) ?_
          obtain ⟨x13, ex13⟩ : ∃ z, oD κ.2.2.2.2 k2 = z := ⟨_, rfl⟩
          refine pg_X10_2 (v := x13) C hP (t20 (a := k2) (t := 1) ht2) ex13 cw_742 dX8_calculate_63 ?_
          have fx13 : FN x13 := by rw [← ex13]; exact (hPV.t1 ht2).2.2
          refine c_callVq (n := 3) (As := [.int k0, .double x12, .double x13]) (rest := []) C hP hS hl.1 (NX8_ofReals l D cy ad A sz0 sa κ H.size (SLT H) C.f (fun q h => C.a q (Nat.le_trans hS.1 h)) k0 x12 x13 hPV hSV (vX8_calculate_1 k0 x12 x13 hpre c3 fx12 fx13)) ⟨cw_813, cw_816, by decide +kernel⟩ ⟨cw_814, cw_815, cw_705⟩ rfl (hP.recvS (k := 3) (ci := 10) C.K rfl rfl) rfl rfl (lv_room (Nat.le_of_ble_eq_true rfl)) ⟨Nat.le_of_ble_eq_true rfl, Nat.le_of_ble_eq_true rfl⟩ ⟨(Nat.le_of_ble_eq_true rfl), (Nat.le_of_ble_eq_true rfl)⟩ dX8_calculate_66 (fun r14 u H locs hr14 hP hS => ?_)
          obtain ⟨n15, P16⟩ := u
          have hP : CH D cy ad A (tP (tI κ 9 n15) P16) H := hP
          have hr14 : (EX κ.2.2.2.2 P16) ∧ (PV sa P16) ∧ (SV ad P16 (κ.2.1 0) (κ.2.1 1) (κ.2.2.2.1 6) (κ.2.2.2.1 7) (κ.2.2.2.1 8) (κ.2.2.2.1 13) (κ.2.2.2.1 15) (κ.2.2.2.1 17) (κ.1 1).toInt) ∧ (NT P16 1 r14) := hr14
          obtain ⟨hr14_0, hr14_1, hr14_2, hr14_3⟩ := hr14
          exact c_retq (v := r14) (Or.inl ⟨_, rfl⟩) C hsz hsl ⟨n15, P16⟩ ⟨hr14_0, hr14_1, hr14_2, hr14_3⟩ hP hS ⟨(Nat.le_of_ble_eq_true rfl), (Nat.le_of_ble_eq_true rfl)⟩ ⟨(Nat.le_of_ble_eq_true rfl), (Nat.le_of_ble_eq_true rfl)⟩ dX8_calculate_69
        · have c11 : r10.toInt = 0 := by have h := z_eq c11; rw [show (0 : Int32).toInt = 0 from by decide +kernel] at h; exact h
          refine lv_aload_n C.x C.b dX8_calculate_50 rfl (lv_at hl 0 rfl) ?_
          refine lv_iconst (v := 1) C.x C.b dX8_calculate_51 (by decide +kernel) ?_
          refine c_callVq (n := 1) (As := [.int 1]) (rest := []) C hP hS hl.1 (NX8_fail l D cy ad A sz0 sa κ H.size (SLT H) C.f (fun q h => C.a q (Nat.le_trans hS.1 h)) (1 : Int32) ) ⟨cw_702, cw_695, by decide +kernel⟩ ⟨cw_703, cw_704, cw_705⟩ rfl (hP.recvS (k := 3) (ci := 10) C.K rfl rfl) rfl rfl (lv_room (Nat.le_of_ble_eq_true rfl)) ⟨Nat.le_of_ble_eq_true rfl, Nat.le_of_ble_eq_true rfl⟩ ⟨(Nat.le_of_ble_eq_true rfl), (Nat.le_of_ble_eq_true rfl)⟩ dX8_calculate_52 (fun r17 u H locs hr17 hP hS => ?_)
          obtain ⟨n18, rfl⟩ : ∃ z, z = u := ⟨_, rfl⟩
          have hP : CH D cy ad A (tI κ 9 n18) H := hP
          have hr17 : (NT κ.2.2.2.2 1 r17) := hr17
          have hP : CH D cy ad A (tP (tI κ 9 n18) κ.2.2.2.2) H := CH.cong hP rfl rfl rfl rfl rfl rfl rfl rfl rfl rfl rfl rfl rfl rfl rfl rfl rfl rfl rfl rfl rfl rfl rfl rfl rfl rfl rfl
          exact c_retq (v := r17) (Or.inl ⟨_, rfl⟩) C hsz hsl ⟨n18, κ.2.2.2.2⟩ ⟨EX.rf, hPV, hSV, hr17⟩ hP hS ⟨(Nat.le_of_ble_eq_true rfl), (Nat.le_of_ble_eq_true rfl)⟩ ⟨(Nat.le_of_ble_eq_true rfl), (Nat.le_of_ble_eq_true rfl)⟩ dX8_calculate_55
  · have c2 : x1.toInt = 2 := by have h := z_eq c2; rw [show (2 : Int32).toInt = 2 from by decide +kernel] at h; exact h
    refine lv_aload_n C.x C.b dX8_calculate_8 rfl (lv_at hl 3 rfl) ?_
    obtain ⟨x19, ex19⟩ : ∃ z, oI κ.2.2.2.2 0 k2 = z := ⟨_, rfl⟩
    refine pg_X10_0 (v := x19) C hP (t20 (a := k2) (t := 1) ht2) ex19 cw_718 dX8_calculate_9 ?_
    refine lv_iconst (v := 2) C.x C.b dX8_calculate_12 (by decide +kernel) ?_
    refine lv_icmp_ne (tgt := 30) C.x C.b dX8_calculate_13 (by decide) (fun c20 => ?_) (fun c20 => ?_)
    · have c20 : ¬ x19.toInt = 2 := by have h := z_ne c20; rw [show (2 : Int32).toInt = 2 from by decide +kernel] at h; exact h
      refine lv_iload_n C.x C.b dX8_calculate_30 rfl (lv_at hl 1 rfl) ?_
      refine lv_bipush (v := 37) C.x C.b dX8_calculate_31 (by decide +kernel) ?_
      refine lv_icmp_eq (tgt := 50) C.x C.b dX8_calculate_33 (by decide) (fun c21 => ?_) (fun c21 => ?_)
      · have c21 : k0.toInt = 37 := by have h := z_eq c21; rw [show (37 : Int32).toInt = 37 from by decide +kernel] at h; exact h
        refine lv_aload_n C.x C.b dX8_calculate_50 rfl (lv_at hl 0 rfl) ?_
        refine lv_iconst (v := 1) C.x C.b dX8_calculate_51 (by decide +kernel) ?_
        refine c_callVq (n := 1) (As := [.int 1]) (rest := []) C hP hS hl.1 (NX8_fail l D cy ad A sz0 sa κ s.heap.size (SLT s.heap) C.f (fun q h => C.a q (Nat.le_trans hS.1 h)) (1 : Int32) ) ⟨cw_702, cw_695, by decide +kernel⟩ ⟨cw_703, cw_704, cw_705⟩ rfl (hP.recvS (k := 3) (ci := 10) C.K rfl rfl) rfl rfl (lv_room (Nat.le_of_ble_eq_true rfl)) ⟨Nat.le_of_ble_eq_true rfl, Nat.le_of_ble_eq_true rfl⟩ ⟨(Nat.le_of_ble_eq_true rfl), (Nat.le_of_ble_eq_true rfl)⟩ dX8_calculate_52 (fun r22 u H locs hr22 hP hS => ?_)
        obtain ⟨n23, rfl⟩ : ∃ z, z = u := ⟨_, rfl⟩
        have hP : CH D cy ad A (tI κ 9 n23) H := hP
        have hr22 : (NT κ.2.2.2.2 1 r22) := hr22
        have hP : CH D cy ad A (tP (tI κ 9 n23) κ.2.2.2.2) H := CH.cong hP rfl rfl rfl rfl rfl rfl rfl rfl rfl rfl rfl rfl rfl rfl rfl rfl rfl rfl rfl rfl rfl rfl rfl rfl rfl rfl rfl
        exact c_retq (v := r22) (Or.inl ⟨_, rfl⟩) C hsz hsl ⟨n23, κ.2.2.2.2⟩ ⟨EX.rf, hPV, hSV, hr22⟩ hP hS ⟨(Nat.le_of_ble_eq_true rfl), (Nat.le_of_ble_eq_true rfl)⟩ ⟨(Nat.le_of_ble_eq_true rfl), (Nat.le_of_ble_eq_true rfl)⟩ dX8_calculate_55
      · have c21 : ¬ k0.toInt = 37 := by have h := z_ne c21; rw [show (37 : Int32).toInt = 37 from by decide +kernel] at h; exact h
        refine lv_aload_n C.x C.b dX8_calculate_36 rfl (lv_at hl 2 rfl) ?_
        refine c_callVi (n := 0) (As := []) (rest := []) C hP hS hl.1 (NX10_isNumber l D cy ad A sz0 sa κ s.heap.size (SLT s.heap) C.f (fun q h => C.a q (Nat.le_trans hS.1 h)) k1 ht1 hPV) ⟨cw_809, cw_812, by decide +kernel⟩ ⟨cw_810, cw_811, cw_40⟩ rfl (hP.recvP (t := 1) (ci := 12) C.K (t20 (a := k1) (t := 1) ht1) (by decide) rfl rfl) rfl rfl (lv_room (Nat.le_of_ble_eq_true rfl)) ⟨Nat.le_of_ble_eq_true rfl, Nat.le_of_ble_eq_true rfl⟩ ⟨(Nat.le_of_ble_eq_true rfl), (Nat.le_of_ble_eq_true rfl)⟩ dX8_calculate_37 (fun r24 u H locs hr24 hP hS => ?_)
        have hr24 : (0 ≤ r24.toInt ∧ r24.toInt ≤ 1) := hr24
        obtain ⟨hr24_0, hr24_1⟩ := hr24
        refine lv_if_eq (tgt := 50) C.x C.b dX8_calculate_40 (by decide) (fun c25 => ?_) (fun c25 => ?_)
        · have c25 : r24.toInt = 0 := by have h := z_eq c25; rw [show (0 : Int32).toInt = 0 from by decide +kernel] at h; exact h
          refine lv_aload_n C.x C.b dX8_calculate_50 rfl (lv_at hl 0 rfl) ?_
          refine lv_iconst (v := 1) C.x C.b dX8_calculate_51 (by decide +kernel) ?_
          refine c_callVq (n := 1) (As := [.int 1]) (rest := []) C hP hS hl.1 (NX8_fail l D cy ad A sz0 sa κ H.size (SLT H) C.f (fun q h => C.a q (Nat.le_trans hS.1 h)) (1 : Int32) ) ⟨cw_702, cw_695, by decide +kernel⟩ ⟨cw_703, cw_704, cw_705⟩ rfl (hP.recvS (k := 3) (ci := 10) C.K rfl rfl) rfl rfl (lv_room (Nat.le_of_ble_eq_true rfl)) ⟨Nat.le_of_ble_eq_true rfl, Nat.le_of_ble_eq_true rfl⟩ ⟨(Nat.le_of_ble_eq_true rfl), (Nat.le_of_ble_eq_true rfl)⟩ dX8_calculate_52 (fun r26 u H locs hr26 hP hS => ?_)
          obtain ⟨n27, rfl⟩ : ∃ z, z = u := ⟨_, rfl⟩
          have hP : CH D cy ad A (tI κ 9 n27) H := hP
          have hr26 : (NT κ.2.2.2.2 1 r26) := hr26
          have hP : CH D cy ad A (tP (tI κ 9 n27) κ.2.2.2.2) H := CH.cong hP rfl rfl rfl rfl rfl rfl rfl rfl rfl rfl rfl rfl rfl rfl rfl rfl rfl rfl rfl rfl rfl rfl rfl rfl rfl rfl rfl
          exact c_retq (v := r26) (Or.inl ⟨_, rfl⟩) C hsz hsl ⟨n27, κ.2.2.2.2⟩ ⟨EX.rf, hPV, hSV, hr26⟩ hP hS ⟨(Nat.le_of_ble_eq_true rfl), (Nat.le_of_ble_eq_true rfl)⟩ ⟨(Nat.le_of_ble_eq_true rfl), (Nat.le_of_ble_eq_true rfl)⟩ dX8_calculate_55
        · have c25 : ¬ r24.toInt = 0 := by have h := z_ne c25; rw [show (0 : Int32).toInt = 0 from by decide +kernel] at h; exact h
          refine lv_aload_n C.x C.b dX8_calculate_43 rfl (lv_at hl 3 rfl) ?_
          refine c_callVi (n := 0) (As := []) (rest := []) C hP hS hl.1 (NX10_isNumber l D cy ad A sz0 sa κ H.size (SLT H) C.f (fun q h => C.a q (Nat.le_trans hS.1 h)) k2 ht2 hPV) ⟨cw_809, cw_812, by decide +kernel⟩ ⟨cw_810, cw_811, cw_40⟩ rfl (hP.recvP (t := 1) (ci := 12) C.K (t20 (a := k2) (t := 1) ht2) (by decide) rfl rfl) rfl rfl (lv_room (Nat.le_of_ble_eq_true rfl)) ⟨Nat.le_of_ble_eq_true rfl, Nat.le_of_ble_eq_true rfl⟩ ⟨(Nat.le_of_ble_eq_true rfl), (Nat.le_of_ble_eq_true rfl)⟩ dX8_calculate_44 (fun r28 u H locs hr28 hP hS => ?_)
          have hr28 : (0 ≤ r28.toInt ∧ r28.toInt ≤ 1) := hr28
          obtain ⟨hr28_0, hr28_1⟩ := hr28
          refine lv_if_ne (tgt := 56) C.x C.b dX8_calculate_47 (by decide) (fun c29 => ?_) (fun c29 => ?_)
          · have c29 : ¬ r28.toInt = 0 := by have h := z_ne c29; rw [show (0 : Int32).toInt = 0 from by decide +kernel] at h; exact h
            refine lv_aload_n C.x C.b dX8_calculate_56 rfl (lv_at hl 0 rfl) ?_
            refine lv_iload_n C.x C.b dX8_calculate_57 rfl (lv_at hl 1 rfl) ?_
            refine lv_aload_n C.x C.b dX8_calculate_58 rfl (lv_at hl 2 rfl) ?_
            obtain ⟨x30, ex30⟩ : ∃ z, oD κ.2.2.2.2 k1 = z := ⟨_, rfl⟩
            refine pg_X10_2 (v := x30) C hP (t20 (a := k1) (t := 1) ht1) ex30 cw_742 dX8_calculate_59 ?_
            have fx30 : FN x30 := by rw [← ex30]; exact (hPV.t1 ht1).2.2
            refine lv_aload_n C.x C.b dX8_calculate_62 rfl (lv_at hl 3 rfl) ?_
            obtain ⟨x31, ex31⟩ : ∃ z, oD κ.2.2.2.2 k2 = z := ⟨_, rfl⟩
            refine pg_X10_2 (v := x31) C hP (t20 (a := k2) (t := 1) ht2) ex31 cw_742 dX8_calculate_63 ?_
            have fx31 : FN x31 := by rw [← ex31]; exact (hPV.t1 ht2).2.2
            refine c_callVq (n := 3) (As := [.int k0, .double x30, .double x31]) (rest := []) C hP hS hl.1 (NX8_ofReals l D cy ad A sz0 sa κ H.size (SLT H) C.f (fun q h => C.a q (Nat.le_trans hS.1 h)) k0 x30 x31 hPV hSV (vX8_calculate_2 k0 x30 x31 hpre c21 fx30 fx31)) ⟨cw_813, cw_816, by decide +kernel⟩ ⟨cw_814, cw_815, cw_705⟩ rfl (hP.recvS (k := 3) (ci := 10) C.K rfl rfl) rfl rfl (lv_room (Nat.le_of_ble_eq_true rfl)) ⟨Nat.le_of_ble_eq_true rfl, Nat.le_of_ble_eq_true rfl⟩ ⟨(Nat.le_of_ble_eq_true rfl), (Nat.le_of_ble_eq_true rfl)⟩ dX8_calculate_66 (fun r32 u H locs hr32 hP hS => ?_)
            obtain ⟨n33, P34⟩ := u
            have hP : CH D cy ad A (tP (tI κ 9 n33) P34) H := hP
            have hr32 : (EX κ.2.2.2.2 P34) ∧ (PV sa P34) ∧ (SV ad P34 (κ.2.1 0) (κ.2.1 1) (κ.2.2.2.1 6) (κ.2.2.2.1 7) (κ.2.2.2.1 8) (κ.2.2.2.1 13) (κ.2.2.2.1 15) (κ.2.2.2.1 17) (κ.1 1).toInt) ∧ (NT P34 1 r32) := hr32
            obtain ⟨hr32_0, hr32_1, hr32_2, hr32_3⟩ := hr32
            exact c_retq (v := r32) (Or.inl ⟨_, rfl⟩) C hsz hsl ⟨n33, P34⟩ ⟨hr32_0, hr32_1, hr32_2, hr32_3⟩ hP hS ⟨(Nat.le_of_ble_eq_true rfl), (Nat.le_of_ble_eq_true rfl)⟩ ⟨(Nat.le_of_ble_eq_true rfl), (Nat.le_of_ble_eq_true rfl)⟩ dX8_calculate_69
          · have c29 : r28.toInt = 0 := by have h := z_eq c29; rw [show (0 : Int32).toInt = 0 from by decide +kernel] at h; exact h
            refine lv_aload_n C.x C.b dX8_calculate_50 rfl (lv_at hl 0 rfl) ?_
            refine lv_iconst (v := 1) C.x C.b dX8_calculate_51 (by decide +kernel) ?_
            refine c_callVq (n := 1) (As := [.int 1]) (rest := []) C hP hS hl.1 (NX8_fail l D cy ad A sz0 sa κ H.size (SLT H) C.f (fun q h => C.a q (Nat.le_trans hS.1 h)) (1 : Int32) ) ⟨cw_702, cw_695, by decide +kernel⟩ ⟨cw_703, cw_704, cw_705⟩ rfl (hP.recvS (k := 3) (ci := 10) C.K rfl rfl) rfl rfl (lv_room (Nat.le_of_ble_eq_true rfl)) ⟨Nat.le_of_ble_eq_true rfl, Nat.le_of_ble_eq_true rfl⟩ ⟨(Nat.le_of_ble_eq_true rfl), (Nat.le_of_ble_eq_true rfl)⟩ dX8_calculate_52 (fun r35 u H locs hr35 hP hS => ?_)
            obtain ⟨n36, rfl⟩ : ∃ z, z = u := ⟨_, rfl⟩
            have hP : CH D cy ad A (tI κ 9 n36) H := hP
            have hr35 : (NT κ.2.2.2.2 1 r35) := hr35
            have hP : CH D cy ad A (tP (tI κ 9 n36) κ.2.2.2.2) H := CH.cong hP rfl rfl rfl rfl rfl rfl rfl rfl rfl rfl rfl rfl rfl rfl rfl rfl rfl rfl rfl rfl rfl rfl rfl rfl rfl rfl rfl
            exact c_retq (v := r35) (Or.inl ⟨_, rfl⟩) C hsz hsl ⟨n36, κ.2.2.2.2⟩ ⟨EX.rf, hPV, hSV, hr35⟩ hP hS ⟨(Nat.le_of_ble_eq_true rfl), (Nat.le_of_ble_eq_true rfl)⟩ ⟨(Nat.le_of_ble_eq_true rfl), (Nat.le_of_ble_eq_true rfl)⟩ dX8_calculate_55
    · have c20 : x19.toInt = 2 := by have h := z_eq c20; rw [show (2 : Int32).toInt = 2 from by decide +kernel] at h; exact h
      refine lv_aload_n C.x C.b dX8_calculate_16 rfl (lv_at hl 0 rfl) ?_
      refine lv_iload_n C.x C.b dX8_calculate_17 rfl (lv_at hl 1 rfl) ?_
      refine lv_aload_n C.x C.b dX8_calculate_18 rfl (lv_at hl 2 rfl) ?_
      obtain ⟨x37, ex37⟩ : ∃ z, oI κ.2.2.2.2 1 k1 = z := ⟨_, rfl⟩
      refine pg_X10_1 (v := x37) C hP (t20 (a := k1) (t := 1) ht1) ex37 cw_741 dX8_calculate_19 ?_
      refine lv_aload_n C.x C.b dX8_calculate_22 rfl (lv_at hl 3 rfl) ?_
      obtain ⟨x38, ex38⟩ : ∃ z, oI κ.2.2.2.2 1 k2 = z := ⟨_, rfl⟩
      refine pg_X10_1 (v := x38) C hP (t20 (a := k2) (t := 1) ht2) ex38 cw_741 dX8_calculate_23 ?_
      refine c_callVq (n := 3) (As := [.int k0, .int x37, .int x38]) (rest := []) C hP hS hl.1 (NX8_ofInts l D cy ad A sz0 sa κ s.heap.size (SLT s.heap) C.f (fun q h => C.a q (Nat.le_trans hS.1 h)) k0 x37 x38 hPV hSV) ⟨cw_805, cw_808, by decide +kernel⟩ ⟨cw_806, cw_807, cw_705⟩ rfl (hP.recvS (k := 3) (ci := 10) C.K rfl rfl) rfl rfl (lv_room (Nat.le_of_ble_eq_true rfl)) ⟨Nat.le_of_ble_eq_true rfl, Nat.le_of_ble_eq_true rfl⟩ ⟨(Nat.le_of_ble_eq_true rfl), (Nat.le_of_ble_eq_true rfl)⟩ dX8_calculate_26 (fun r39 u H locs hr39 hP hS => ?_)
      obtain ⟨n40, P41⟩ := u
      have hP : CH D cy ad A (tP (tI κ 9 n40) P41) H := hP
      have hr39 : (EX κ.2.2.2.2 P41) ∧ (PV sa P41) ∧ (SV ad P41 (κ.2.1 0) (κ.2.1 1) (κ.2.2.2.1 6) (κ.2.2.2.1 7) (κ.2.2.2.1 8) (κ.2.2.2.1 13) (κ.2.2.2.1 15) (κ.2.2.2.1 17) (κ.1 1).toInt) ∧ (NT P41 1 r39) := hr39
      obtain ⟨hr39_0, hr39_1, hr39_2, hr39_3⟩ := hr39
      exact c_retq (v := r39) (Or.inl ⟨_, rfl⟩) C hsz hsl ⟨n40, P41⟩ ⟨hr39_0, hr39_1, hr39_2, hr39_3⟩ hP hS ⟨(Nat.le_of_ble_eq_true rfl), (Nat.le_of_ble_eq_true rfl)⟩ ⟨(Nat.le_of_ble_eq_true rfl), (Nat.le_of_ble_eq_true rfl)⟩ dX8_calculate_29

-- retz @29
theorem vX8_joins_1   : 0 ≤ (0 : Int32).toInt ∧ (0 : Int32).toInt ≤ 1 := by
  have q0 : (0 : Int32).toInt = 0 := by decide +kernel
  refine ⟨?_, ?_⟩ <;> first | assumption | omega | (subst_vars; omega) | trivial
-- retz @29
theorem vX8_joins_2   : 0 ≤ (1 : Int32).toInt ∧ (1 : Int32).toInt ≤ 1 := by
  have q1 : (1 : Int32).toInt = 1 := by decide +kernel
  refine ⟨?_, ?_⟩ <;> first | assumption | omega | (subst_vars; omega) | trivial
set_option maxHeartbeats 4000000 in
set_option maxRecDepth 100000 in
theorem NX8_joins (l : Launch) (D : va_G) (cy : Nat → ClassId) (ad : Nat → Nat) (A : Nat → Prop) (sz0 : Nat) (sa : Nat → Nat)  (κ : KS) (sz sl : Nat) (hAF : ∀ q, A q → Fr sz0 q) (hAn : ∀ q : Nat, sz ≤ q → A q) (k0 : Nat) (k1 : Nat) (ht0 : oT κ.2.2.2.2 k0 = 1) (ht1 : oT κ.2.2.2.2 k1 = 1) (hPV : PV sa κ.2.2.2.2) : Met l yX8_joins (Cond.code yX8_joins cX8_joins 2 (some .boolean) :: GWc) ({ frames := 0, cells := 0, slots := 0, locals := 0 }) (PcC D cy ad A sz0 sa [.ref k0, .ref k1] κ sz sl) (va_Qi (fun (r : Int32) (u : Unit) => (0 ≤ r.toInt ∧ r.toInt ≤ 1)) (fun (u : Unit) (t : State) => Bx D cy ad A sz sl κ (0) (0) t) A) (0) (0) A := by
  refine CM_of (loc0 := [(0, .ref k0), (1, .ref k1)]) (own := RX8) (nm := "joins") (by decide) rfl rfl rfl (Nat.le_of_ble_eq_true rfl) hAF hAn ?_
  intro p e s m below meth c ls hsz hsl C hP hS hl
  refine lv_aload_n C.x C.b dX8_joins_0 rfl (lv_at hl 0 rfl) ?_
  obtain ⟨x1, ex1⟩ : ∃ z, oI κ.2.2.2.2 0 k0 = z := ⟨_, rfl⟩
  refine pg_X10_0 (v := x1) C hP (t20 (a := k0) (t := 1) ht0) ex1 cw_718 dX8_joins_1 ?_
  refine lv_iconst (v := 4) C.x C.b dX8_joins_4 (by decide +kernel) ?_
  refine lv_icmp_ne (tgt := 28) C.x C.b dX8_joins_5 (by decide) (fun c2 => ?_) (fun c2 => ?_)
  · have c2 : ¬ x1.toInt = 4 := by have h := z_ne c2; rw [show (4 : Int32).toInt = 4 from by decide +kernel] at h; exact h
    refine lv_iconst (v := 0) C.x C.b dX8_joins_28 (by decide +kernel) ?_
    exact c_retz (ty := .boolean) (hv := rfl) C hsz hsl () (vX8_joins_1  ) hP hS ⟨(Nat.le_of_ble_eq_true rfl), (Nat.le_of_ble_eq_true rfl)⟩ ⟨(Nat.le_of_ble_eq_true rfl), (Nat.le_of_ble_eq_true rfl)⟩ dX8_joins_29
  · have c2 : x1.toInt = 4 := by have h := z_eq c2; rw [show (4 : Int32).toInt = 4 from by decide +kernel] at h; exact h
    refine lv_aload_n C.x C.b dX8_joins_8 rfl (lv_at hl 1 rfl) ?_
    obtain ⟨x3, ex3⟩ : ∃ z, oI κ.2.2.2.2 0 k1 = z := ⟨_, rfl⟩
    refine pg_X10_0 (v := x3) C hP (t20 (a := k1) (t := 1) ht1) ex3 cw_718 dX8_joins_9 ?_
    refine lv_iconst (v := 4) C.x C.b dX8_joins_12 (by decide +kernel) ?_
    refine lv_icmp_gt (tgt := 28) C.x C.b dX8_joins_13 (by decide) (fun c4 => ?_) (fun c4 => ?_)
    · have c4 : 4 < x3.toInt := by have h := z_lt c4; rw [show (4 : Int32).toInt = 4 from by decide +kernel] at h; exact h
      refine lv_iconst (v := 0) C.x C.b dX8_joins_28 (by decide +kernel) ?_
      exact c_retz (ty := .boolean) (hv := rfl) C hsz hsl () (vX8_joins_1  ) hP hS ⟨(Nat.le_of_ble_eq_true rfl), (Nat.le_of_ble_eq_true rfl)⟩ ⟨(Nat.le_of_ble_eq_true rfl), (Nat.le_of_ble_eq_true rfl)⟩ dX8_joins_29
    · have c4 : x3.toInt ≤ 4 := by have h := z_nlt c4; rw [show (4 : Int32).toInt = 4 from by decide +kernel] at h; exact h
      refine lv_aload_n C.x C.b dX8_joins_16 rfl (lv_at hl 1 rfl) ?_
      refine pg_X10_0 (v := x3) C hP (t20 (a := k1) (t := 1) ht1) ex3 cw_718 dX8_joins_17 ?_
      refine lv_iconst (v := 3) C.x C.b dX8_joins_20 (by decide +kernel) ?_
      refine lv_icmp_eq (tgt := 28) C.x C.b dX8_joins_21 (by decide) (fun c5 => ?_) (fun c5 => ?_)
      · have c5 : x3.toInt = 3 := by have h := z_eq c5; rw [show (3 : Int32).toInt = 3 from by decide +kernel] at h; exact h
        refine lv_iconst (v := 0) C.x C.b dX8_joins_28 (by decide +kernel) ?_
        exact c_retz (ty := .boolean) (hv := rfl) C hsz hsl () (vX8_joins_1  ) hP hS ⟨(Nat.le_of_ble_eq_true rfl), (Nat.le_of_ble_eq_true rfl)⟩ ⟨(Nat.le_of_ble_eq_true rfl), (Nat.le_of_ble_eq_true rfl)⟩ dX8_joins_29
      · have c5 : ¬ x3.toInt = 3 := by have h := z_ne c5; rw [show (3 : Int32).toInt = 3 from by decide +kernel] at h; exact h
        refine lv_iconst (v := 1) C.x C.b dX8_joins_24 (by decide +kernel) ?_
        refine lv_goto (tgt := 29) C.x C.b dX8_joins_25 (by decide) ?_
        exact c_retz (ty := .boolean) (hv := rfl) C hsz hsl () (vX8_joins_2  ) hP hS ⟨(Nat.le_of_ble_eq_true rfl), (Nat.le_of_ble_eq_true rfl)⟩ ⟨(Nat.le_of_ble_eq_true rfl), (Nat.le_of_ble_eq_true rfl)⟩ dX8_joins_29

-- retz @73
theorem vX8_areSame_1   : 0 ≤ (0 : Int32).toInt ∧ (0 : Int32).toInt ≤ 1 := by
  have q0 : (0 : Int32).toInt = 0 := by decide +kernel
  refine ⟨?_, ?_⟩ <;> first | assumption | omega | (subst_vars; omega) | trivial
-- retz @73
theorem vX8_areSame_2   : 0 ≤ (1 : Int32).toInt ∧ (1 : Int32).toInt ≤ 1 := by
  have q1 : (1 : Int32).toInt = 1 := by decide +kernel
  refine ⟨?_, ?_⟩ <;> first | assumption | omega | (subst_vars; omega) | trivial
set_option maxHeartbeats 4000000 in
set_option maxRecDepth 100000 in
theorem NX8_areSame (l : Launch) (D : va_G) (cy : Nat → ClassId) (ad : Nat → Nat) (A : Nat → Prop) (sz0 : Nat) (sa : Nat → Nat)  (κ : KS) (sz sl : Nat) (hAF : ∀ q, A q → Fr sz0 q) (hAn : ∀ q : Nat, sz ≤ q → A q) (k0 : Nat) (k1 : Nat) (ht0 : oT κ.2.2.2.2 k0 = 1) (ht1 : oT κ.2.2.2.2 k1 = 1) (hPV : PV sa κ.2.2.2.2) : Met l yX8_areSame (Cond.code yX8_areSame cX8_areSame 2 (some .boolean) :: GWc) ({ frames := 2, cells := 0, slots := 0, locals := 44 }) (PcC D cy ad A sz0 sa [.ref k0, .ref k1] κ sz sl) (va_Qi (fun (r : Int32) (u : Unit) => (0 ≤ r.toInt ∧ r.toInt ≤ 1)) (fun (u : Unit) (t : State) => Bx D cy ad A sz sl κ (0) (0) t) A) (0) (0) A := by
  refine CM_of (loc0 := [(0, .ref k0), (1, .ref k1)]) (own := RX8) (nm := "areSame") (by decide) rfl rfl rfl (Nat.le_of_ble_eq_true rfl) hAF hAn ?_
  intro p e s m below meth c ls hsz hsl C hP hS hl
  refine lv_aload_n C.x C.b dX8_areSame_0 rfl (lv_at hl 0 rfl) ?_
  refine c_callVi (n := 0) (As := []) (rest := []) C hP hS hl.1 (NX10_isNumber l D cy ad A sz0 sa κ s.heap.size (SLT s.heap) C.f (fun q h => C.a q (Nat.le_trans hS.1 h)) k0 ht0 hPV) ⟨cw_809, cw_812, by decide +kernel⟩ ⟨cw_810, cw_811, cw_40⟩ rfl (hP.recvP (t := 1) (ci := 12) C.K (t20 (a := k0) (t := 1) ht0) (by decide) rfl rfl) rfl rfl (lv_room (Nat.le_of_ble_eq_true rfl)) ⟨Nat.le_of_ble_eq_true rfl, Nat.le_of_ble_eq_true rfl⟩ ⟨(Nat.le_of_ble_eq_true rfl), (Nat.le_of_ble_eq_true rfl)⟩ dX8_areSame_1 (fun r1 u H locs hr1 hP hS => ?_)
  have hr1 : (0 ≤ r1.toInt ∧ r1.toInt ≤ 1) := hr1
  obtain ⟨hr1_0, hr1_1⟩ := hr1
  refine lv_if_eq (tgt := 32) C.x C.b dX8_areSame_4 (by decide) (fun c2 => ?_) (fun c2 => ?_)
  · have c2 : r1.toInt = 0 := by have h := z_eq c2; rw [show (0 : Int32).toInt = 0 from by decide +kernel] at h; exact h
    refine lv_aload_n C.x C.b dX8_areSame_32 rfl (lv_at hl 0 rfl) ?_
    obtain ⟨x3, ex3⟩ : ∃ z, oI κ.2.2.2.2 0 k0 = z := ⟨_, rfl⟩
    refine pg_X10_0 (v := x3) C hP (t20 (a := k0) (t := 1) ht0) ex3 cw_718 dX8_areSame_33 ?_
    refine lv_aload_n C.x C.b dX8_areSame_36 rfl (lv_at hl 1 rfl) ?_
    obtain ⟨x4, ex4⟩ : ∃ z, oI κ.2.2.2.2 0 k1 = z := ⟨_, rfl⟩
    refine pg_X10_0 (v := x4) C hP (t20 (a := k1) (t := 1) ht1) ex4 cw_718 dX8_areSame_37 ?_
    refine lv_icmp_ne (tgt := 72) C.x C.b dX8_areSame_40 (by decide) (fun c5 => ?_) (fun c5 => ?_)
    · have c5 : ¬ x3.toInt = x4.toInt := by have h := z_ne c5; exact h
      refine lv_iconst (v := 0) C.x C.b dX8_areSame_72 (by decide +kernel) ?_
      exact c_retz (ty := .boolean) (hv := rfl) C hsz hsl () (vX8_areSame_1  ) hP hS ⟨(Nat.le_of_ble_eq_true rfl), (Nat.le_of_ble_eq_true rfl)⟩ ⟨(Nat.le_of_ble_eq_true rfl), (Nat.le_of_ble_eq_true rfl)⟩ dX8_areSame_73
    · have c5 : x3.toInt = x4.toInt := by have h := z_eq c5; exact h
      refine lv_aload_n C.x C.b dX8_areSame_43 rfl (lv_at hl 0 rfl) ?_
      obtain ⟨x6, ex6⟩ : ∃ z, oI κ.2.2.2.2 1 k0 = z := ⟨_, rfl⟩
      refine pg_X10_1 (v := x6) C hP (t20 (a := k0) (t := 1) ht0) ex6 cw_741 dX8_areSame_44 ?_
      refine lv_aload_n C.x C.b dX8_areSame_47 rfl (lv_at hl 1 rfl) ?_
      obtain ⟨x7, ex7⟩ : ∃ z, oI κ.2.2.2.2 1 k1 = z := ⟨_, rfl⟩
      refine pg_X10_1 (v := x7) C hP (t20 (a := k1) (t := 1) ht1) ex7 cw_741 dX8_areSame_48 ?_
      refine lv_icmp_ne (tgt := 72) C.x C.b dX8_areSame_51 (by decide) (fun c8 => ?_) (fun c8 => ?_)
      · have c8 : ¬ x6.toInt = x7.toInt := by have h := z_ne c8; exact h
        refine lv_iconst (v := 0) C.x C.b dX8_areSame_72 (by decide +kernel) ?_
        exact c_retz (ty := .boolean) (hv := rfl) C hsz hsl () (vX8_areSame_1  ) hP hS ⟨(Nat.le_of_ble_eq_true rfl), (Nat.le_of_ble_eq_true rfl)⟩ ⟨(Nat.le_of_ble_eq_true rfl), (Nat.le_of_ble_eq_true rfl)⟩ dX8_areSame_73
      · have c8 : x6.toInt = x7.toInt := by have h := z_eq c8; exact h
        refine lv_aload_n C.x C.b dX8_areSame_54 rfl (lv_at hl 0 rfl) ?_
        obtain ⟨x9, ex9, hx9⟩ := (hPV.t1 ht0).1
        refine pg_X10_3 (v := some x9) C hP (t20 (a := k0) (t := 1) ht0) ex9 cw_719 dX8_areSame_55 ?_
        refine lv_aload_n C.x C.b dX8_areSame_58 rfl (lv_at hl 1 rfl) ?_
        obtain ⟨x10, ex10, hx10⟩ := (hPV.t1 ht1).1
        refine pg_X10_3 (v := some x10) C hP (t20 (a := k1) (t := 1) ht1) ex10 cw_719 dX8_areSame_59 ?_
        refine c_callVi (n := 1) (As := [.ref x10]) (rest := []) C hP hS hl.1 (NJ0_equals_9ea2d l D cy ad A sz0 sa κ H.size (SLT H) C.f (fun q h => C.a q (Nat.le_trans hS.1 h)) x9 x10 hx9 hx10 hPV) ⟨cw_831, cw_71, by decide +kernel⟩ ⟨cw_68, cw_69, cw_70⟩ rfl (c_srecv C hP hS hx9) rfl rfl (lv_room (Nat.le_of_ble_eq_true rfl)) ⟨Nat.le_of_ble_eq_true rfl, Nat.le_of_ble_eq_true rfl⟩ ⟨(Nat.le_of_ble_eq_true rfl), (Nat.le_of_ble_eq_true rfl)⟩ dX8_areSame_62 (fun r11 u H locs hr11 hP hS => ?_)
        have hr11 : (0 ≤ r11.toInt ∧ r11.toInt ≤ 1) := hr11
        obtain ⟨hr11_0, hr11_1⟩ := hr11
        refine lv_if_eq (tgt := 72) C.x C.b dX8_areSame_65 (by decide) (fun c12 => ?_) (fun c12 => ?_)
        · have c12 : r11.toInt = 0 := by have h := z_eq c12; rw [show (0 : Int32).toInt = 0 from by decide +kernel] at h; exact h
          refine lv_iconst (v := 0) C.x C.b dX8_areSame_72 (by decide +kernel) ?_
          exact c_retz (ty := .boolean) (hv := rfl) C hsz hsl () (vX8_areSame_1  ) hP hS ⟨(Nat.le_of_ble_eq_true rfl), (Nat.le_of_ble_eq_true rfl)⟩ ⟨(Nat.le_of_ble_eq_true rfl), (Nat.le_of_ble_eq_true rfl)⟩ dX8_areSame_73
        · have c12 : ¬ r11.toInt = 0 := by have h := z_ne c12; rw [show (0 : Int32).toInt = 0 from by decide +kernel] at h; exact h
          refine lv_iconst (v := 1) C.x C.b dX8_areSame_68 (by decide +kernel) ?_
          refine lv_goto (tgt := 73) C.x C.b dX8_areSame_69 (by decide) ?_
          exact c_retz (ty := .boolean) (hv := rfl) C hsz hsl () (vX8_areSame_2  ) hP hS ⟨(Nat.le_of_ble_eq_true rfl), (Nat.le_of_ble_eq_true rfl)⟩ ⟨(Nat.le_of_ble_eq_true rfl), (Nat.le_of_ble_eq_true rfl)⟩ dX8_areSame_73
  · have c2 : ¬ r1.toInt = 0 := by have h := z_ne c2; rw [show (0 : Int32).toInt = 0 from by decide +kernel] at h; exact h
    refine lv_aload_n C.x C.b dX8_areSame_7 rfl (lv_at hl 1 rfl) ?_
    refine c_callVi (n := 0) (As := []) (rest := []) C hP hS hl.1 (NX10_isNumber l D cy ad A sz0 sa κ H.size (SLT H) C.f (fun q h => C.a q (Nat.le_trans hS.1 h)) k1 ht1 hPV) ⟨cw_809, cw_812, by decide +kernel⟩ ⟨cw_810, cw_811, cw_40⟩ rfl (hP.recvP (t := 1) (ci := 12) C.K (t20 (a := k1) (t := 1) ht1) (by decide) rfl rfl) rfl rfl (lv_room (Nat.le_of_ble_eq_true rfl)) ⟨Nat.le_of_ble_eq_true rfl, Nat.le_of_ble_eq_true rfl⟩ ⟨(Nat.le_of_ble_eq_true rfl), (Nat.le_of_ble_eq_true rfl)⟩ dX8_areSame_8 (fun r13 u H locs hr13 hP hS => ?_)
    have hr13 : (0 ≤ r13.toInt ∧ r13.toInt ≤ 1) := hr13
    obtain ⟨hr13_0, hr13_1⟩ := hr13
    refine lv_if_eq (tgt := 32) C.x C.b dX8_areSame_11 (by decide) (fun c14 => ?_) (fun c14 => ?_)
    · have c14 : r13.toInt = 0 := by have h := z_eq c14; rw [show (0 : Int32).toInt = 0 from by decide +kernel] at h; exact h
      refine lv_aload_n C.x C.b dX8_areSame_32 rfl (lv_at hl 0 rfl) ?_
      obtain ⟨x15, ex15⟩ : ∃ z, oI κ.2.2.2.2 0 k0 = z := ⟨_, rfl⟩
      refine pg_X10_0 (v := x15) C hP (t20 (a := k0) (t := 1) ht0) ex15 cw_718 dX8_areSame_33 ?_
      refine lv_aload_n C.x C.b dX8_areSame_36 rfl (lv_at hl 1 rfl) ?_
      obtain ⟨x16, ex16⟩ : ∃ z, oI κ.2.2.2.2 0 k1 = z := ⟨_, rfl⟩
      refine pg_X10_0 (v := x16) C hP (t20 (a := k1) (t := 1) ht1) ex16 cw_718 dX8_areSame_37 ?_
      refine lv_icmp_ne (tgt := 72) C.x C.b dX8_areSame_40 (by decide) (fun c17 => ?_) (fun c17 => ?_)
      · have c17 : ¬ x15.toInt = x16.toInt := by have h := z_ne c17; exact h
        refine lv_iconst (v := 0) C.x C.b dX8_areSame_72 (by decide +kernel) ?_
        exact c_retz (ty := .boolean) (hv := rfl) C hsz hsl () (vX8_areSame_1  ) hP hS ⟨(Nat.le_of_ble_eq_true rfl), (Nat.le_of_ble_eq_true rfl)⟩ ⟨(Nat.le_of_ble_eq_true rfl), (Nat.le_of_ble_eq_true rfl)⟩ dX8_areSame_73
      · have c17 : x15.toInt = x16.toInt := by have h := z_eq c17; exact h
        refine lv_aload_n C.x C.b dX8_areSame_43 rfl (lv_at hl 0 rfl) ?_
        obtain ⟨x18, ex18⟩ : ∃ z, oI κ.2.2.2.2 1 k0 = z := ⟨_, rfl⟩
        refine pg_X10_1 (v := x18) C hP (t20 (a := k0) (t := 1) ht0) ex18 cw_741 dX8_areSame_44 ?_
        refine lv_aload_n C.x C.b dX8_areSame_47 rfl (lv_at hl 1 rfl) ?_
        obtain ⟨x19, ex19⟩ : ∃ z, oI κ.2.2.2.2 1 k1 = z := ⟨_, rfl⟩
        refine pg_X10_1 (v := x19) C hP (t20 (a := k1) (t := 1) ht1) ex19 cw_741 dX8_areSame_48 ?_
        refine lv_icmp_ne (tgt := 72) C.x C.b dX8_areSame_51 (by decide) (fun c20 => ?_) (fun c20 => ?_)
        · have c20 : ¬ x18.toInt = x19.toInt := by have h := z_ne c20; exact h
          refine lv_iconst (v := 0) C.x C.b dX8_areSame_72 (by decide +kernel) ?_
          exact c_retz (ty := .boolean) (hv := rfl) C hsz hsl () (vX8_areSame_1  ) hP hS ⟨(Nat.le_of_ble_eq_true rfl), (Nat.le_of_ble_eq_true rfl)⟩ ⟨(Nat.le_of_ble_eq_true rfl), (Nat.le_of_ble_eq_true rfl)⟩ dX8_areSame_73
        · have c20 : x18.toInt = x19.toInt := by have h := z_eq c20; exact h
          refine lv_aload_n C.x C.b dX8_areSame_54 rfl (lv_at hl 0 rfl) ?_
          obtain ⟨x21, ex21, hx21⟩ := (hPV.t1 ht0).1
          refine pg_X10_3 (v := some x21) C hP (t20 (a := k0) (t := 1) ht0) ex21 cw_719 dX8_areSame_55 ?_
          refine lv_aload_n C.x C.b dX8_areSame_58 rfl (lv_at hl 1 rfl) ?_
          obtain ⟨x22, ex22, hx22⟩ := (hPV.t1 ht1).1
          refine pg_X10_3 (v := some x22) C hP (t20 (a := k1) (t := 1) ht1) ex22 cw_719 dX8_areSame_59 ?_
          refine c_callVi (n := 1) (As := [.ref x22]) (rest := []) C hP hS hl.1 (NJ0_equals_9ea2d l D cy ad A sz0 sa κ H.size (SLT H) C.f (fun q h => C.a q (Nat.le_trans hS.1 h)) x21 x22 hx21 hx22 hPV) ⟨cw_831, cw_71, by decide +kernel⟩ ⟨cw_68, cw_69, cw_70⟩ rfl (c_srecv C hP hS hx21) rfl rfl (lv_room (Nat.le_of_ble_eq_true rfl)) ⟨Nat.le_of_ble_eq_true rfl, Nat.le_of_ble_eq_true rfl⟩ ⟨(Nat.le_of_ble_eq_true rfl), (Nat.le_of_ble_eq_true rfl)⟩ dX8_areSame_62 (fun r23 u H locs hr23 hP hS => ?_)
          have hr23 : (0 ≤ r23.toInt ∧ r23.toInt ≤ 1) := hr23
          obtain ⟨hr23_0, hr23_1⟩ := hr23
          refine lv_if_eq (tgt := 72) C.x C.b dX8_areSame_65 (by decide) (fun c24 => ?_) (fun c24 => ?_)
          · have c24 : r23.toInt = 0 := by have h := z_eq c24; rw [show (0 : Int32).toInt = 0 from by decide +kernel] at h; exact h
            refine lv_iconst (v := 0) C.x C.b dX8_areSame_72 (by decide +kernel) ?_
            exact c_retz (ty := .boolean) (hv := rfl) C hsz hsl () (vX8_areSame_1  ) hP hS ⟨(Nat.le_of_ble_eq_true rfl), (Nat.le_of_ble_eq_true rfl)⟩ ⟨(Nat.le_of_ble_eq_true rfl), (Nat.le_of_ble_eq_true rfl)⟩ dX8_areSame_73
          · have c24 : ¬ r23.toInt = 0 := by have h := z_ne c24; rw [show (0 : Int32).toInt = 0 from by decide +kernel] at h; exact h
            refine lv_iconst (v := 1) C.x C.b dX8_areSame_68 (by decide +kernel) ?_
            refine lv_goto (tgt := 73) C.x C.b dX8_areSame_69 (by decide) ?_
            exact c_retz (ty := .boolean) (hv := rfl) C hsz hsl () (vX8_areSame_2  ) hP hS ⟨(Nat.le_of_ble_eq_true rfl), (Nat.le_of_ble_eq_true rfl)⟩ ⟨(Nat.le_of_ble_eq_true rfl), (Nat.le_of_ble_eq_true rfl)⟩ dX8_areSame_73
    · have c14 : ¬ r13.toInt = 0 := by have h := z_ne c14; rw [show (0 : Int32).toInt = 0 from by decide +kernel] at h; exact h
      refine lv_aload_n C.x C.b dX8_areSame_14 rfl (lv_at hl 0 rfl) ?_
      obtain ⟨x25, ex25⟩ : ∃ z, oD κ.2.2.2.2 k0 = z := ⟨_, rfl⟩
      refine pg_X10_2 (v := x25) C hP (t20 (a := k0) (t := 1) ht0) ex25 cw_742 dX8_areSame_15 ?_
      have fx25 : FN x25 := by rw [← ex25]; exact (hPV.t1 ht0).2.2
      refine lv_aload_n C.x C.b dX8_areSame_18 rfl (lv_at hl 1 rfl) ?_
      obtain ⟨x26, ex26⟩ : ∃ z, oD κ.2.2.2.2 k1 = z := ⟨_, rfl⟩
      refine pg_X10_2 (v := x26) C hP (t20 (a := k1) (t := 1) ht1) ex26 cw_742 dX8_areSame_19 ?_
      have fx26 : FN x26 := by rw [← ex26]; exact (hPV.t1 ht1).2.2
      refine lv_dcmp C.x C.b dX8_areSame_22 ?_
      refine lv_topi (fun x27 ex27 => ?_)
      refine lv_if_ne (tgt := 30) C.x C.b dX8_areSame_23 (by decide) (fun c28 => ?_) (fun c28 => ?_)
      · have c28 : ¬ x27.toInt = 0 := by have h := z_ne c28; rw [show (0 : Int32).toInt = 0 from by decide +kernel] at h; exact h
        refine lv_iconst (v := 0) C.x C.b dX8_areSame_30 (by decide +kernel) ?_
        exact c_retz (ty := .boolean) (hv := rfl) C hsz hsl () (vX8_areSame_1  ) hP hS ⟨(Nat.le_of_ble_eq_true rfl), (Nat.le_of_ble_eq_true rfl)⟩ ⟨(Nat.le_of_ble_eq_true rfl), (Nat.le_of_ble_eq_true rfl)⟩ dX8_areSame_31
      · have c28 : x27.toInt = 0 := by have h := z_eq c28; rw [show (0 : Int32).toInt = 0 from by decide +kernel] at h; exact h
        refine lv_iconst (v := 1) C.x C.b dX8_areSame_26 (by decide +kernel) ?_
        refine lv_goto (tgt := 31) C.x C.b dX8_areSame_27 (by decide) ?_
        exact c_retz (ty := .boolean) (hv := rfl) C hsz hsl () (vX8_areSame_2  ) hP hS ⟨(Nat.le_of_ble_eq_true rfl), (Nat.le_of_ble_eq_true rfl)⟩ ⟨(Nat.le_of_ble_eq_true rfl), (Nat.le_of_ble_eq_true rfl)⟩ dX8_areSame_31

set_option maxHeartbeats 4000000 in
set_option maxRecDepth 100000 in
theorem NX8_compare (l : Launch) (D : va_G) (cy : Nat → ClassId) (ad : Nat → Nat) (A : Nat → Prop) (sz0 : Nat) (sa : Nat → Nat)  (κ : KS) (sz sl : Nat) (hAF : ∀ q, A q → Fr sz0 q) (hAn : ∀ q : Nat, sz ≤ q → A q) (k0 : Int32) (k1 : Nat) (k2 : Nat) (ht1 : oT κ.2.2.2.2 k1 = 1) (ht2 : oT κ.2.2.2.2 k2 = 1) (hPV : PV sa κ.2.2.2.2) (hSV : SV ad κ.2.2.2.2 (κ.2.1 0) (κ.2.1 1) (κ.2.2.2.1 6) (κ.2.2.2.1 7) (κ.2.2.2.1 8) (κ.2.2.2.1 13) (κ.2.2.2.1 15) (κ.2.2.2.1 17) (κ.1 1).toInt) : Met l yX8_compare (Cond.code yX8_compare cX8_compare 4 (some (.object "PhraseDesk$Value")) :: GWc) ({ frames := 3, cells := 1, slots := 5, locals := 66 }) (PcC D cy ad A sz0 sa [.ref (ad 3), .int k0, .ref k1, .ref k2] κ sz sl) (va_Qq (fun (r : Option Nat) (u : Int32 × PL) => (EX κ.2.2.2.2 u.2) ∧ (PV sa u.2) ∧ (SV ad u.2 (κ.2.1 0) (κ.2.1 1) (κ.2.2.2.1 6) (κ.2.2.2.1 7) (κ.2.2.2.1 8) (κ.2.2.2.1 13) (κ.2.2.2.1 15) (κ.2.2.2.1 17) (κ.1 1).toInt) ∧ (NT u.2 1 r)) (fun (u : Int32 × PL) (t : State) => Bx D cy ad A sz sl (tP (tI κ 9 u.1) u.2) (1) (5) t) A) (1) (5) A := by
  refine CM_of (loc0 := [(0, .ref (ad 3)), (1, .int k0), (2, .ref k1), (3, .ref k2)]) (own := RX8) (nm := "compare") (by decide) rfl rfl rfl (Nat.le_of_ble_eq_true rfl) hAF hAn ?_
  intro p e s m below meth c ls hsz hsl C hP hS hl
  refine lv_aload_n C.x C.b dX8_compare_0 rfl (lv_at hl 2 rfl) ?_
  refine c_callVi (n := 0) (As := []) (rest := []) C hP hS hl.1 (NX10_isNumber l D cy ad A sz0 sa κ s.heap.size (SLT s.heap) C.f (fun q h => C.a q (Nat.le_trans hS.1 h)) k1 ht1 hPV) ⟨cw_809, cw_812, by decide +kernel⟩ ⟨cw_810, cw_811, cw_40⟩ rfl (hP.recvP (t := 1) (ci := 12) C.K (t20 (a := k1) (t := 1) ht1) (by decide) rfl rfl) rfl rfl (lv_room (Nat.le_of_ble_eq_true rfl)) ⟨Nat.le_of_ble_eq_true rfl, Nat.le_of_ble_eq_true rfl⟩ ⟨(Nat.le_of_ble_eq_true rfl), (Nat.le_of_ble_eq_true rfl)⟩ dX8_compare_1 (fun r1 u H locs hr1 hP hS => ?_)
  have hr1 : (0 ≤ r1.toInt ∧ r1.toInt ≤ 1) := hr1
  obtain ⟨hr1_0, hr1_1⟩ := hr1
  refine lv_if_eq (tgt := 14) C.x C.b dX8_compare_4 (by decide) (fun c2 => ?_) (fun c2 => ?_)
  · have c2 : r1.toInt = 0 := by have h := z_eq c2; rw [show (0 : Int32).toInt = 0 from by decide +kernel] at h; exact h
    refine lv_aload_n C.x C.b dX8_compare_14 rfl (lv_at hl 0 rfl) ?_
    refine lv_iconst (v := 1) C.x C.b dX8_compare_15 (by decide +kernel) ?_
    refine c_callVq (n := 1) (As := [.int 1]) (rest := []) C hP hS hl.1 (NX8_fail l D cy ad A sz0 sa κ H.size (SLT H) C.f (fun q h => C.a q (Nat.le_trans hS.1 h)) (1 : Int32) ) ⟨cw_702, cw_695, by decide +kernel⟩ ⟨cw_703, cw_704, cw_705⟩ rfl (hP.recvS (k := 3) (ci := 10) C.K rfl rfl) rfl rfl (lv_room (Nat.le_of_ble_eq_true rfl)) ⟨Nat.le_of_ble_eq_true rfl, Nat.le_of_ble_eq_true rfl⟩ ⟨(Nat.le_of_ble_eq_true rfl), (Nat.le_of_ble_eq_true rfl)⟩ dX8_compare_16 (fun r3 u H locs hr3 hP hS => ?_)
    obtain ⟨n4, rfl⟩ : ∃ z, z = u := ⟨_, rfl⟩
    have hP : CH D cy ad A (tI κ 9 n4) H := hP
    have hr3 : (NT κ.2.2.2.2 1 r3) := hr3
    have hP : CH D cy ad A (tP (tI κ 9 n4) κ.2.2.2.2) H := CH.cong hP rfl rfl rfl rfl rfl rfl rfl rfl rfl rfl rfl rfl rfl rfl rfl rfl rfl rfl rfl rfl rfl rfl rfl rfl rfl rfl rfl
    exact c_retq (v := r3) (Or.inl ⟨_, rfl⟩) C hsz hsl ⟨n4, κ.2.2.2.2⟩ ⟨EX.rf, hPV, hSV, hr3⟩ hP hS ⟨(Nat.le_of_ble_eq_true rfl), (Nat.le_of_ble_eq_true rfl)⟩ ⟨(Nat.le_of_ble_eq_true rfl), (Nat.le_of_ble_eq_true rfl)⟩ dX8_compare_19
  · have c2 : ¬ r1.toInt = 0 := by have h := z_ne c2; rw [show (0 : Int32).toInt = 0 from by decide +kernel] at h; exact h
    refine lv_aload_n C.x C.b dX8_compare_7 rfl (lv_at hl 3 rfl) ?_
    refine c_callVi (n := 0) (As := []) (rest := []) C hP hS hl.1 (NX10_isNumber l D cy ad A sz0 sa κ H.size (SLT H) C.f (fun q h => C.a q (Nat.le_trans hS.1 h)) k2 ht2 hPV) ⟨cw_809, cw_812, by decide +kernel⟩ ⟨cw_810, cw_811, cw_40⟩ rfl (hP.recvP (t := 1) (ci := 12) C.K (t20 (a := k2) (t := 1) ht2) (by decide) rfl rfl) rfl rfl (lv_room (Nat.le_of_ble_eq_true rfl)) ⟨Nat.le_of_ble_eq_true rfl, Nat.le_of_ble_eq_true rfl⟩ ⟨(Nat.le_of_ble_eq_true rfl), (Nat.le_of_ble_eq_true rfl)⟩ dX8_compare_8 (fun r5 u H locs hr5 hP hS => ?_)
    have hr5 : (0 ≤ r5.toInt ∧ r5.toInt ≤ 1) := hr5
    obtain ⟨hr5_0, hr5_1⟩ := hr5
    refine lv_if_ne (tgt := 20) C.x C.b dX8_compare_11 (by decide) (fun c6 => ?_) (fun c6 => ?_)
    · have c6 : ¬ r5.toInt = 0 := by have h := z_ne c6; rw [show (0 : Int32).toInt = 0 from by decide +kernel] at h; exact h
      refine lv_iload_n C.x C.b dX8_compare_20 rfl (lv_at hl 1 rfl) ?_
      by_cases c7_0 : k0.toInt = 60
      · refine lv_lookup (off := 35) (tgt := 56) C.x C.b dX8_compare_21 (by decide) (by rw [c7_0]; decide) (by decide) ?_
        refine lv_aload_n C.x C.b dX8_compare_56 rfl (lv_at hl 2 rfl) ?_
        obtain ⟨x8, ex8⟩ : ∃ z, oD κ.2.2.2.2 k1 = z := ⟨_, rfl⟩
        refine pg_X10_2 (v := x8) C hP (t20 (a := k1) (t := 1) ht1) ex8 cw_742 dX8_compare_57 ?_
        have fx8 : FN x8 := by rw [← ex8]; exact (hPV.t1 ht1).2.2
        refine lv_aload_n C.x C.b dX8_compare_60 rfl (lv_at hl 3 rfl) ?_
        obtain ⟨x9, ex9⟩ : ∃ z, oD κ.2.2.2.2 k2 = z := ⟨_, rfl⟩
        refine pg_X10_2 (v := x9) C hP (t20 (a := k2) (t := 1) ht2) ex9 cw_742 dX8_compare_61 ?_
        have fx9 : FN x9 := by rw [← ex9]; exact (hPV.t1 ht2).2.2
        refine lv_dcmp C.x C.b dX8_compare_64 ?_
        refine lv_topi (fun x10 ex10 => ?_)
        refine lv_if_ge (tgt := 72) C.x C.b dX8_compare_65 (by decide) (fun c11 => ?_) (fun c11 => ?_)
        · have c11 : 0 ≤ x10.toInt := by have h := z_le c11; rw [show (0 : Int32).toInt = 0 from by decide +kernel] at h; exact h
          refine lv_iconst (v := 0) C.x C.b dX8_compare_72 (by decide +kernel) ?_
          refine c_callSq (C2 := "") (b := 0) (n := 1) (As := [.int 0]) (rest := []) C hP hS hl.1 (NX10_ofBool l D cy ad A sz0 sa κ H.size (SLT H) C.f (fun q h => C.a q (Nat.le_trans hS.1 h)) (0 : Int32) hPV) ⟨cw_752, cw_82, by decide +kernel⟩ ⟨cw_81, cw_40⟩ rfl rfl (lv_room (Nat.le_of_ble_eq_true rfl)) ⟨Nat.le_of_ble_eq_true rfl, Nat.le_of_ble_eq_true rfl⟩ ⟨(Nat.le_of_ble_eq_true rfl), (Nat.le_of_ble_eq_true rfl)⟩ dX8_compare_73 (fun r12 u H locs hr12 hP hS => ?_)
          obtain ⟨P13, rfl⟩ : ∃ z, z = u := ⟨_, rfl⟩
          have hP : CH D cy ad A (tP κ P13) H := hP
          have hr12 : (EX κ.2.2.2.2 P13) ∧ (PV sa P13) ∧ (NN P13 1 r12) := hr12
          obtain ⟨hr12_0, hr12_1, hr12_2⟩ := hr12
          obtain ⟨b14, rfl, tb14⟩ := hr12_2
          have svz15 : SV ad P13 (κ.2.1 0) (κ.2.1 1) (κ.2.2.2.1 6) (κ.2.2.2.1 7) (κ.2.2.2.1 8) (κ.2.2.2.1 13) (κ.2.2.2.1 15) (κ.2.2.2.1 17) (κ.1 1).toInt := hSV.ex hr12_0
          have hP : CH D cy ad A (tP (tI κ 9 (κ.1 9)) P13) H := CH.cong hP rfl rfl rfl rfl rfl rfl rfl rfl rfl rfl rfl rfl rfl rfl rfl rfl rfl rfl rfl rfl rfl rfl rfl rfl rfl rfl rfl
          exact c_retq (v := (some b14)) (Or.inl ⟨_, rfl⟩) C hsz hsl ⟨(κ.1 9), P13⟩ ⟨hr12_0, hr12_1, svz15, (nt_s tb14)⟩ hP hS ⟨(Nat.le_of_ble_eq_true rfl), (Nat.le_of_ble_eq_true rfl)⟩ ⟨(Nat.le_of_ble_eq_true rfl), (Nat.le_of_ble_eq_true rfl)⟩ dX8_compare_76
        · have c11 : x10.toInt < 0 := by have h := z_nle c11; rw [show (0 : Int32).toInt = 0 from by decide +kernel] at h; exact h
          refine lv_iconst (v := 1) C.x C.b dX8_compare_68 (by decide +kernel) ?_
          refine lv_goto (tgt := 73) C.x C.b dX8_compare_69 (by decide) ?_
          refine c_callSq (C2 := "") (b := 0) (n := 1) (As := [.int 1]) (rest := []) C hP hS hl.1 (NX10_ofBool l D cy ad A sz0 sa κ H.size (SLT H) C.f (fun q h => C.a q (Nat.le_trans hS.1 h)) (1 : Int32) hPV) ⟨cw_752, cw_82, by decide +kernel⟩ ⟨cw_81, cw_40⟩ rfl rfl (lv_room (Nat.le_of_ble_eq_true rfl)) ⟨Nat.le_of_ble_eq_true rfl, Nat.le_of_ble_eq_true rfl⟩ ⟨(Nat.le_of_ble_eq_true rfl), (Nat.le_of_ble_eq_true rfl)⟩ dX8_compare_73 (fun r16 u H locs hr16 hP hS => ?_)
          obtain ⟨P17, rfl⟩ : ∃ z, z = u := ⟨_, rfl⟩
          have hP : CH D cy ad A (tP κ P17) H := hP
          have hr16 : (EX κ.2.2.2.2 P17) ∧ (PV sa P17) ∧ (NN P17 1 r16) := hr16
          obtain ⟨hr16_0, hr16_1, hr16_2⟩ := hr16
          obtain ⟨b18, rfl, tb18⟩ := hr16_2
          have svz19 : SV ad P17 (κ.2.1 0) (κ.2.1 1) (κ.2.2.2.1 6) (κ.2.2.2.1 7) (κ.2.2.2.1 8) (κ.2.2.2.1 13) (κ.2.2.2.1 15) (κ.2.2.2.1 17) (κ.1 1).toInt := hSV.ex hr16_0
          have hP : CH D cy ad A (tP (tI κ 9 (κ.1 9)) P17) H := CH.cong hP rfl rfl rfl rfl rfl rfl rfl rfl rfl rfl rfl rfl rfl rfl rfl rfl rfl rfl rfl rfl rfl rfl rfl rfl rfl rfl rfl
          exact c_retq (v := (some b18)) (Or.inl ⟨_, rfl⟩) C hsz hsl ⟨(κ.1 9), P17⟩ ⟨hr16_0, hr16_1, svz19, (nt_s tb18)⟩ hP hS ⟨(Nat.le_of_ble_eq_true rfl), (Nat.le_of_ble_eq_true rfl)⟩ ⟨(Nat.le_of_ble_eq_true rfl), (Nat.le_of_ble_eq_true rfl)⟩ dX8_compare_76
      · by_cases c7_1 : k0.toInt = 62
        · refine lv_lookup (off := 56) (tgt := 77) C.x C.b dX8_compare_21 (by decide) (by rw [c7_1]; decide) (by decide) ?_
          refine lv_aload_n C.x C.b dX8_compare_77 rfl (lv_at hl 2 rfl) ?_
          obtain ⟨x20, ex20⟩ : ∃ z, oD κ.2.2.2.2 k1 = z := ⟨_, rfl⟩
          refine pg_X10_2 (v := x20) C hP (t20 (a := k1) (t := 1) ht1) ex20 cw_742 dX8_compare_78 ?_
          have fx20 : FN x20 := by rw [← ex20]; exact (hPV.t1 ht1).2.2
          refine lv_aload_n C.x C.b dX8_compare_81 rfl (lv_at hl 3 rfl) ?_
          obtain ⟨x21, ex21⟩ : ∃ z, oD κ.2.2.2.2 k2 = z := ⟨_, rfl⟩
          refine pg_X10_2 (v := x21) C hP (t20 (a := k2) (t := 1) ht2) ex21 cw_742 dX8_compare_82 ?_
          have fx21 : FN x21 := by rw [← ex21]; exact (hPV.t1 ht2).2.2
          refine lv_dcmp C.x C.b dX8_compare_85 ?_
          refine lv_topi (fun x22 ex22 => ?_)
          refine lv_if_le (tgt := 93) C.x C.b dX8_compare_86 (by decide) (fun c23 => ?_) (fun c23 => ?_)
          · have c23 : x22.toInt ≤ 0 := by have h := z_le c23; rw [show (0 : Int32).toInt = 0 from by decide +kernel] at h; exact h
            refine lv_iconst (v := 0) C.x C.b dX8_compare_93 (by decide +kernel) ?_
            refine c_callSq (C2 := "") (b := 0) (n := 1) (As := [.int 0]) (rest := []) C hP hS hl.1 (NX10_ofBool l D cy ad A sz0 sa κ H.size (SLT H) C.f (fun q h => C.a q (Nat.le_trans hS.1 h)) (0 : Int32) hPV) ⟨cw_752, cw_82, by decide +kernel⟩ ⟨cw_81, cw_40⟩ rfl rfl (lv_room (Nat.le_of_ble_eq_true rfl)) ⟨Nat.le_of_ble_eq_true rfl, Nat.le_of_ble_eq_true rfl⟩ ⟨(Nat.le_of_ble_eq_true rfl), (Nat.le_of_ble_eq_true rfl)⟩ dX8_compare_94 (fun r24 u H locs hr24 hP hS => ?_)
            obtain ⟨P25, rfl⟩ : ∃ z, z = u := ⟨_, rfl⟩
            have hP : CH D cy ad A (tP κ P25) H := hP
            have hr24 : (EX κ.2.2.2.2 P25) ∧ (PV sa P25) ∧ (NN P25 1 r24) := hr24
            obtain ⟨hr24_0, hr24_1, hr24_2⟩ := hr24
            obtain ⟨b26, rfl, tb26⟩ := hr24_2
            have svz27 : SV ad P25 (κ.2.1 0) (κ.2.1 1) (κ.2.2.2.1 6) (κ.2.2.2.1 7) (κ.2.2.2.1 8) (κ.2.2.2.1 13) (κ.2.2.2.1 15) (κ.2.2.2.1 17) (κ.1 1).toInt := hSV.ex hr24_0
            have hP : CH D cy ad A (tP (tI κ 9 (κ.1 9)) P25) H := CH.cong hP rfl rfl rfl rfl rfl rfl rfl rfl rfl rfl rfl rfl rfl rfl rfl rfl rfl rfl rfl rfl rfl rfl rfl rfl rfl rfl rfl
            exact c_retq (v := (some b26)) (Or.inl ⟨_, rfl⟩) C hsz hsl ⟨(κ.1 9), P25⟩ ⟨hr24_0, hr24_1, svz27, (nt_s tb26)⟩ hP hS ⟨(Nat.le_of_ble_eq_true rfl), (Nat.le_of_ble_eq_true rfl)⟩ ⟨(Nat.le_of_ble_eq_true rfl), (Nat.le_of_ble_eq_true rfl)⟩ dX8_compare_97
          · have c23 : 0 < x22.toInt := by have h := z_nle c23; rw [show (0 : Int32).toInt = 0 from by decide +kernel] at h; exact h
            refine lv_iconst (v := 1) C.x C.b dX8_compare_89 (by decide +kernel) ?_
            refine lv_goto (tgt := 94) C.x C.b dX8_compare_90 (by decide) ?_
            refine c_callSq (C2 := "") (b := 0) (n := 1) (As := [.int 1]) (rest := []) C hP hS hl.1 (NX10_ofBool l D cy ad A sz0 sa κ H.size (SLT H) C.f (fun q h => C.a q (Nat.le_trans hS.1 h)) (1 : Int32) hPV) ⟨cw_752, cw_82, by decide +kernel⟩ ⟨cw_81, cw_40⟩ rfl rfl (lv_room (Nat.le_of_ble_eq_true rfl)) ⟨Nat.le_of_ble_eq_true rfl, Nat.le_of_ble_eq_true rfl⟩ ⟨(Nat.le_of_ble_eq_true rfl), (Nat.le_of_ble_eq_true rfl)⟩ dX8_compare_94 (fun r28 u H locs hr28 hP hS => ?_)
            obtain ⟨P29, rfl⟩ : ∃ z, z = u := ⟨_, rfl⟩
            have hP : CH D cy ad A (tP κ P29) H := hP
            have hr28 : (EX κ.2.2.2.2 P29) ∧ (PV sa P29) ∧ (NN P29 1 r28) := hr28
            obtain ⟨hr28_0, hr28_1, hr28_2⟩ := hr28
            obtain ⟨b30, rfl, tb30⟩ := hr28_2
            have svz31 : SV ad P29 (κ.2.1 0) (κ.2.1 1) (κ.2.2.2.1 6) (κ.2.2.2.1 7) (κ.2.2.2.1 8) (κ.2.2.2.1 13) (κ.2.2.2.1 15) (κ.2.2.2.1 17) (κ.1 1).toInt := hSV.ex hr28_0
            have hP : CH D cy ad A (tP (tI κ 9 (κ.1 9)) P29) H := CH.cong hP rfl rfl rfl rfl rfl rfl rfl rfl rfl rfl rfl rfl rfl rfl rfl rfl rfl rfl rfl rfl rfl rfl rfl rfl rfl rfl rfl
            exact c_retq (v := (some b30)) (Or.inl ⟨_, rfl⟩) C hsz hsl ⟨(κ.1 9), P29⟩ ⟨hr28_0, hr28_1, svz31, (nt_s tb30)⟩ hP hS ⟨(Nat.le_of_ble_eq_true rfl), (Nat.le_of_ble_eq_true rfl)⟩ ⟨(Nat.le_of_ble_eq_true rfl), (Nat.le_of_ble_eq_true rfl)⟩ dX8_compare_97
        · by_cases c7_2 : k0.toInt = 15421
          · refine lv_lookup (off := 77) (tgt := 98) C.x C.b dX8_compare_21 (by decide) (by rw [c7_2]; decide) (by decide) ?_
            refine lv_aload_n C.x C.b dX8_compare_98 rfl (lv_at hl 2 rfl) ?_
            obtain ⟨x32, ex32⟩ : ∃ z, oD κ.2.2.2.2 k1 = z := ⟨_, rfl⟩
            refine pg_X10_2 (v := x32) C hP (t20 (a := k1) (t := 1) ht1) ex32 cw_742 dX8_compare_99 ?_
            have fx32 : FN x32 := by rw [← ex32]; exact (hPV.t1 ht1).2.2
            refine lv_aload_n C.x C.b dX8_compare_102 rfl (lv_at hl 3 rfl) ?_
            obtain ⟨x33, ex33⟩ : ∃ z, oD κ.2.2.2.2 k2 = z := ⟨_, rfl⟩
            refine pg_X10_2 (v := x33) C hP (t20 (a := k2) (t := 1) ht2) ex33 cw_742 dX8_compare_103 ?_
            have fx33 : FN x33 := by rw [← ex33]; exact (hPV.t1 ht2).2.2
            refine lv_dcmp C.x C.b dX8_compare_106 ?_
            refine lv_topi (fun x34 ex34 => ?_)
            refine lv_if_gt (tgt := 114) C.x C.b dX8_compare_107 (by decide) (fun c35 => ?_) (fun c35 => ?_)
            · have c35 : 0 < x34.toInt := by have h := z_lt c35; rw [show (0 : Int32).toInt = 0 from by decide +kernel] at h; exact h
              refine lv_iconst (v := 0) C.x C.b dX8_compare_114 (by decide +kernel) ?_
              refine c_callSq (C2 := "") (b := 0) (n := 1) (As := [.int 0]) (rest := []) C hP hS hl.1 (NX10_ofBool l D cy ad A sz0 sa κ H.size (SLT H) C.f (fun q h => C.a q (Nat.le_trans hS.1 h)) (0 : Int32) hPV) ⟨cw_752, cw_82, by decide +kernel⟩ ⟨cw_81, cw_40⟩ rfl rfl (lv_room (Nat.le_of_ble_eq_true rfl)) ⟨Nat.le_of_ble_eq_true rfl, Nat.le_of_ble_eq_true rfl⟩ ⟨(Nat.le_of_ble_eq_true rfl), (Nat.le_of_ble_eq_true rfl)⟩ dX8_compare_115 (fun r36 u H locs hr36 hP hS => ?_)
              obtain ⟨P37, rfl⟩ : ∃ z, z = u := ⟨_, rfl⟩
              have hP : CH D cy ad A (tP κ P37) H := hP
              have hr36 : (EX κ.2.2.2.2 P37) ∧ (PV sa P37) ∧ (NN P37 1 r36) := hr36
              obtain ⟨hr36_0, hr36_1, hr36_2⟩ := hr36
              obtain ⟨b38, rfl, tb38⟩ := hr36_2
              have svz39 : SV ad P37 (κ.2.1 0) (κ.2.1 1) (κ.2.2.2.1 6) (κ.2.2.2.1 7) (κ.2.2.2.1 8) (κ.2.2.2.1 13) (κ.2.2.2.1 15) (κ.2.2.2.1 17) (κ.1 1).toInt := hSV.ex hr36_0
              have hP : CH D cy ad A (tP (tI κ 9 (κ.1 9)) P37) H := CH.cong hP rfl rfl rfl rfl rfl rfl rfl rfl rfl rfl rfl rfl rfl rfl rfl rfl rfl rfl rfl rfl rfl rfl rfl rfl rfl rfl rfl
              exact c_retq (v := (some b38)) (Or.inl ⟨_, rfl⟩) C hsz hsl ⟨(κ.1 9), P37⟩ ⟨hr36_0, hr36_1, svz39, (nt_s tb38)⟩ hP hS ⟨(Nat.le_of_ble_eq_true rfl), (Nat.le_of_ble_eq_true rfl)⟩ ⟨(Nat.le_of_ble_eq_true rfl), (Nat.le_of_ble_eq_true rfl)⟩ dX8_compare_118
            · have c35 : x34.toInt ≤ 0 := by have h := z_nlt c35; rw [show (0 : Int32).toInt = 0 from by decide +kernel] at h; exact h
              refine lv_iconst (v := 1) C.x C.b dX8_compare_110 (by decide +kernel) ?_
              refine lv_goto (tgt := 115) C.x C.b dX8_compare_111 (by decide) ?_
              refine c_callSq (C2 := "") (b := 0) (n := 1) (As := [.int 1]) (rest := []) C hP hS hl.1 (NX10_ofBool l D cy ad A sz0 sa κ H.size (SLT H) C.f (fun q h => C.a q (Nat.le_trans hS.1 h)) (1 : Int32) hPV) ⟨cw_752, cw_82, by decide +kernel⟩ ⟨cw_81, cw_40⟩ rfl rfl (lv_room (Nat.le_of_ble_eq_true rfl)) ⟨Nat.le_of_ble_eq_true rfl, Nat.le_of_ble_eq_true rfl⟩ ⟨(Nat.le_of_ble_eq_true rfl), (Nat.le_of_ble_eq_true rfl)⟩ dX8_compare_115 (fun r40 u H locs hr40 hP hS => ?_)
              obtain ⟨P41, rfl⟩ : ∃ z, z = u := ⟨_, rfl⟩
              have hP : CH D cy ad A (tP κ P41) H := hP
              have hr40 : (EX κ.2.2.2.2 P41) ∧ (PV sa P41) ∧ (NN P41 1 r40) := hr40
              obtain ⟨hr40_0, hr40_1, hr40_2⟩ := hr40
              obtain ⟨b42, rfl, tb42⟩ := hr40_2
              have svz43 : SV ad P41 (κ.2.1 0) (κ.2.1 1) (κ.2.2.2.1 6) (κ.2.2.2.1 7) (κ.2.2.2.1 8) (κ.2.2.2.1 13) (κ.2.2.2.1 15) (κ.2.2.2.1 17) (κ.1 1).toInt := hSV.ex hr40_0
              have hP : CH D cy ad A (tP (tI κ 9 (κ.1 9)) P41) H := CH.cong hP rfl rfl rfl rfl rfl rfl rfl rfl rfl rfl rfl rfl rfl rfl rfl rfl rfl rfl rfl rfl rfl rfl rfl rfl rfl rfl rfl
              exact c_retq (v := (some b42)) (Or.inl ⟨_, rfl⟩) C hsz hsl ⟨(κ.1 9), P41⟩ ⟨hr40_0, hr40_1, svz43, (nt_s tb42)⟩ hP hS ⟨(Nat.le_of_ble_eq_true rfl), (Nat.le_of_ble_eq_true rfl)⟩ ⟨(Nat.le_of_ble_eq_true rfl), (Nat.le_of_ble_eq_true rfl)⟩ dX8_compare_118
          · refine lv_lookup (off := 98) (tgt := 119) C.x C.b dX8_compare_21 (by decide) (by simp [Op.lookupswitch.offset, c7_0, c7_1, c7_2, (show ¬ (60 : Int) = k0.toInt from fun h9 => c7_0 h9.symm), (show ¬ (62 : Int) = k0.toInt from fun h9 => c7_1 h9.symm), (show ¬ (15421 : Int) = k0.toInt from fun h9 => c7_2 h9.symm)]) (by decide) ?_
            refine lv_aload_n C.x C.b dX8_compare_119 rfl (lv_at hl 2 rfl) ?_
            obtain ⟨x44, ex44⟩ : ∃ z, oD κ.2.2.2.2 k1 = z := ⟨_, rfl⟩
            refine pg_X10_2 (v := x44) C hP (t20 (a := k1) (t := 1) ht1) ex44 cw_742 dX8_compare_120 ?_
            have fx44 : FN x44 := by rw [← ex44]; exact (hPV.t1 ht1).2.2
            refine lv_aload_n C.x C.b dX8_compare_123 rfl (lv_at hl 3 rfl) ?_
            obtain ⟨x45, ex45⟩ : ∃ z, oD κ.2.2.2.2 k2 = z := ⟨_, rfl⟩
            refine pg_X10_2 (v := x45) C hP (t20 (a := k2) (t := 1) ht2) ex45 cw_742 dX8_compare_124 ?_
            have fx45 : FN x45 := by rw [← ex45]; exact (hPV.t1 ht2).2.2
            refine lv_dcmp C.x C.b dX8_compare_127 ?_
            refine lv_topi (fun x46 ex46 => ?_)
            refine lv_if_lt (tgt := 135) C.x C.b dX8_compare_128 (by decide) (fun c47 => ?_) (fun c47 => ?_)
            · have c47 : x46.toInt < 0 := by have h := z_lt c47; rw [show (0 : Int32).toInt = 0 from by decide +kernel] at h; exact h
              refine lv_iconst (v := 0) C.x C.b dX8_compare_135 (by decide +kernel) ?_
              refine c_callSq (C2 := "") (b := 0) (n := 1) (As := [.int 0]) (rest := []) C hP hS hl.1 (NX10_ofBool l D cy ad A sz0 sa κ H.size (SLT H) C.f (fun q h => C.a q (Nat.le_trans hS.1 h)) (0 : Int32) hPV) ⟨cw_752, cw_82, by decide +kernel⟩ ⟨cw_81, cw_40⟩ rfl rfl (lv_room (Nat.le_of_ble_eq_true rfl)) ⟨Nat.le_of_ble_eq_true rfl, Nat.le_of_ble_eq_true rfl⟩ ⟨(Nat.le_of_ble_eq_true rfl), (Nat.le_of_ble_eq_true rfl)⟩ dX8_compare_136 (fun r48 u H locs hr48 hP hS => ?_)
              obtain ⟨P49, rfl⟩ : ∃ z, z = u := ⟨_, rfl⟩
              have hP : CH D cy ad A (tP κ P49) H := hP
              have hr48 : (EX κ.2.2.2.2 P49) ∧ (PV sa P49) ∧ (NN P49 1 r48) := hr48
              obtain ⟨hr48_0, hr48_1, hr48_2⟩ := hr48
              obtain ⟨b50, rfl, tb50⟩ := hr48_2
              have svz51 : SV ad P49 (κ.2.1 0) (κ.2.1 1) (κ.2.2.2.1 6) (κ.2.2.2.1 7) (κ.2.2.2.1 8) (κ.2.2.2.1 13) (κ.2.2.2.1 15) (κ.2.2.2.1 17) (κ.1 1).toInt := hSV.ex hr48_0
              have hP : CH D cy ad A (tP (tI κ 9 (κ.1 9)) P49) H := CH.cong hP rfl rfl rfl rfl rfl rfl rfl rfl rfl rfl rfl rfl rfl rfl rfl rfl rfl rfl rfl rfl rfl rfl rfl rfl rfl rfl rfl
              exact c_retq (v := (some b50)) (Or.inl ⟨_, rfl⟩) C hsz hsl ⟨(κ.1 9), P49⟩ ⟨hr48_0, hr48_1, svz51, (nt_s tb50)⟩ hP hS ⟨(Nat.le_of_ble_eq_true rfl), (Nat.le_of_ble_eq_true rfl)⟩ ⟨(Nat.le_of_ble_eq_true rfl), (Nat.le_of_ble_eq_true rfl)⟩ dX8_compare_139
            · have c47 : 0 ≤ x46.toInt := by have h := z_nlt c47; rw [show (0 : Int32).toInt = 0 from by decide +kernel] at h; exact h
              refine lv_iconst (v := 1) C.x C.b dX8_compare_131 (by decide +kernel) ?_
              refine lv_goto (tgt := 136) C.x C.b dX8_compare_132 (by decide) ?_
              refine c_callSq (C2 := "") (b := 0) (n := 1) (As := [.int 1]) (rest := []) C hP hS hl.1 (NX10_ofBool l D cy ad A sz0 sa κ H.size (SLT H) C.f (fun q h => C.a q (Nat.le_trans hS.1 h)) (1 : Int32) hPV) ⟨cw_752, cw_82, by decide +kernel⟩ ⟨cw_81, cw_40⟩ rfl rfl (lv_room (Nat.le_of_ble_eq_true rfl)) ⟨Nat.le_of_ble_eq_true rfl, Nat.le_of_ble_eq_true rfl⟩ ⟨(Nat.le_of_ble_eq_true rfl), (Nat.le_of_ble_eq_true rfl)⟩ dX8_compare_136 (fun r52 u H locs hr52 hP hS => ?_)
              obtain ⟨P53, rfl⟩ : ∃ z, z = u := ⟨_, rfl⟩
              have hP : CH D cy ad A (tP κ P53) H := hP
              have hr52 : (EX κ.2.2.2.2 P53) ∧ (PV sa P53) ∧ (NN P53 1 r52) := hr52
              obtain ⟨hr52_0, hr52_1, hr52_2⟩ := hr52
              obtain ⟨b54, rfl, tb54⟩ := hr52_2
              have svz55 : SV ad P53 (κ.2.1 0) (κ.2.1 1) (κ.2.2.2.1 6) (κ.2.2.2.1 7) (κ.2.2.2.1 8) (κ.2.2.2.1 13) (κ.2.2.2.1 15) (κ.2.2.2.1 17) (κ.1 1).toInt := hSV.ex hr52_0
              have hP : CH D cy ad A (tP (tI κ 9 (κ.1 9)) P53) H := CH.cong hP rfl rfl rfl rfl rfl rfl rfl rfl rfl rfl rfl rfl rfl rfl rfl rfl rfl rfl rfl rfl rfl rfl rfl rfl rfl rfl rfl
              exact c_retq (v := (some b54)) (Or.inl ⟨_, rfl⟩) C hsz hsl ⟨(κ.1 9), P53⟩ ⟨hr52_0, hr52_1, svz55, (nt_s tb54)⟩ hP hS ⟨(Nat.le_of_ble_eq_true rfl), (Nat.le_of_ble_eq_true rfl)⟩ ⟨(Nat.le_of_ble_eq_true rfl), (Nat.le_of_ble_eq_true rfl)⟩ dX8_compare_139
    · have c6 : r5.toInt = 0 := by have h := z_eq c6; rw [show (0 : Int32).toInt = 0 from by decide +kernel] at h; exact h
      refine lv_aload_n C.x C.b dX8_compare_14 rfl (lv_at hl 0 rfl) ?_
      refine lv_iconst (v := 1) C.x C.b dX8_compare_15 (by decide +kernel) ?_
      refine c_callVq (n := 1) (As := [.int 1]) (rest := []) C hP hS hl.1 (NX8_fail l D cy ad A sz0 sa κ H.size (SLT H) C.f (fun q h => C.a q (Nat.le_trans hS.1 h)) (1 : Int32) ) ⟨cw_702, cw_695, by decide +kernel⟩ ⟨cw_703, cw_704, cw_705⟩ rfl (hP.recvS (k := 3) (ci := 10) C.K rfl rfl) rfl rfl (lv_room (Nat.le_of_ble_eq_true rfl)) ⟨Nat.le_of_ble_eq_true rfl, Nat.le_of_ble_eq_true rfl⟩ ⟨(Nat.le_of_ble_eq_true rfl), (Nat.le_of_ble_eq_true rfl)⟩ dX8_compare_16 (fun r56 u H locs hr56 hP hS => ?_)
      obtain ⟨n57, rfl⟩ : ∃ z, z = u := ⟨_, rfl⟩
      have hP : CH D cy ad A (tI κ 9 n57) H := hP
      have hr56 : (NT κ.2.2.2.2 1 r56) := hr56
      have hP : CH D cy ad A (tP (tI κ 9 n57) κ.2.2.2.2) H := CH.cong hP rfl rfl rfl rfl rfl rfl rfl rfl rfl rfl rfl rfl rfl rfl rfl rfl rfl rfl rfl rfl rfl rfl rfl rfl rfl rfl rfl
      exact c_retq (v := r56) (Or.inl ⟨_, rfl⟩) C hsz hsl ⟨n57, κ.2.2.2.2⟩ ⟨EX.rf, hPV, hSV, hr56⟩ hP hS ⟨(Nat.le_of_ble_eq_true rfl), (Nat.le_of_ble_eq_true rfl)⟩ ⟨(Nat.le_of_ble_eq_true rfl), (Nat.le_of_ble_eq_true rfl)⟩ dX8_compare_19

-- pre:X8_calculate@21 @21
theorem vX8_add_1   : ((43 : Int32).toInt = 37 ∨ (43 : Int32).toInt = 42 ∨ (43 : Int32).toInt = 43 ∨ (43 : Int32).toInt = 45 ∨ (43 : Int32).toInt = 47) := by
  have q43 : (43 : Int32).toInt = 43 := by decide +kernel
  first | assumption | omega | (subst_vars; omega) | trivial
set_option maxHeartbeats 4000000 in
set_option maxRecDepth 100000 in
theorem NX8_add (l : Launch) (D : va_G) (cy : Nat → ClassId) (ad : Nat → Nat) (A : Nat → Prop) (sz0 : Nat) (sa : Nat → Nat)  (κ : KS) (sz sl : Nat) (hAF : ∀ q, A q → Fr sz0 q) (hAn : ∀ q : Nat, sz ≤ q → A q) (k0 : Nat) (k1 : Nat) (ht0 : oT κ.2.2.2.2 k0 = 1) (ht1 : oT κ.2.2.2.2 k1 = 1) (hPV : PV sa κ.2.2.2.2) (hSV : SV ad κ.2.2.2.2 (κ.2.1 0) (κ.2.1 1) (κ.2.2.2.1 6) (κ.2.2.2.1 7) (κ.2.2.2.1 8) (κ.2.2.2.1 13) (κ.2.2.2.1 15) (κ.2.2.2.1 17) (κ.1 1).toInt) : Met l yX8_add (Cond.code yX8_add cX8_add 4 (some (.object "PhraseDesk$Value")) :: GWc) ({ frames := 8, cells := 7, slots := 57, locals := 196 }) (PcC D cy ad A sz0 sa [.ref (ad 3), .ref k0, .ref k1] κ sz sl) (va_Qq (fun (r : Option Nat) (u : Int32 × PL) => (EX κ.2.2.2.2 u.2) ∧ (PV sa u.2) ∧ (SV ad u.2 (κ.2.1 0) (κ.2.1 1) (κ.2.2.2.1 6) (κ.2.2.2.1 7) (κ.2.2.2.1 8) (κ.2.2.2.1 13) (κ.2.2.2.1 15) (κ.2.2.2.1 17) (κ.1 1).toInt) ∧ (NT u.2 1 r)) (fun (u : Int32 × PL) (t : State) => Bx D cy ad A sz sl (tP (tI κ 9 u.1) u.2) (7) (57) t) A) (7) (57) A := by
  refine CM_of (loc0 := [(0, .ref (ad 3)), (1, .ref k0), (2, .ref k1)]) (own := RX8) (nm := "add") (by decide) rfl rfl rfl (Nat.le_of_ble_eq_true rfl) hAF hAn ?_
  intro p e s m below meth c ls hsz hsl C hP hS hl
  refine lv_aload_n C.x C.b dX8_add_0 rfl (lv_at hl 1 rfl) ?_
  refine lv_aload_n C.x C.b dX8_add_1 rfl (lv_at hl 2 rfl) ?_
  refine c_callSi (C2 := "") (b := 0) (n := 2) (As := [.ref k0, .ref k1]) (rest := []) C hP hS hl.1 (NX8_joins l D cy ad A sz0 sa κ s.heap.size (SLT s.heap) C.f (fun q h => C.a q (Nat.le_trans hS.1 h)) k0 k1 ht0 ht1 hPV) ⟨cw_798, cw_800, by decide +kernel⟩ ⟨cw_799, cw_705⟩ rfl rfl (lv_room (Nat.le_of_ble_eq_true rfl)) ⟨Nat.le_of_ble_eq_true rfl, Nat.le_of_ble_eq_true rfl⟩ ⟨(Nat.le_of_ble_eq_true rfl), (Nat.le_of_ble_eq_true rfl)⟩ dX8_add_2 (fun r1 u H locs hr1 hP hS => ?_)
  have hr1 : (0 ≤ r1.toInt ∧ r1.toInt ≤ 1) := hr1
  obtain ⟨hr1_0, hr1_1⟩ := hr1
  refine lv_if_ne (tgt := 25) C.x C.b dX8_add_5 (by decide) (fun c2 => ?_) (fun c2 => ?_)
  · have c2 : ¬ r1.toInt = 0 := by have h := z_ne c2; rw [show (0 : Int32).toInt = 0 from by decide +kernel] at h; exact h
    refine lv_aload_n C.x C.b dX8_add_25 rfl (lv_at hl 0 rfl) ?_
    refine cg_X8_1 C hP cw_680 dX8_add_26 ?_
    refine lv_aload_n C.x C.b dX8_add_29 rfl (lv_at hl 1 rfl) ?_
    refine lv_aload_n C.x C.b dX8_add_30 rfl (lv_at hl 2 rfl) ?_
    refine c_callVq (n := 2) (As := [.ref k0, .ref k1]) (rest := []) C hP hS hl.1 (NX0_join l D cy ad A sz0 sa κ H.size (SLT H) C.f (fun q h => C.a q (Nat.le_trans hS.1 h)) k0 k1 ht0 ht1 hPV hSV.a19) ⟨cw_819, cw_341, by decide +kernel⟩ ⟨cw_820, cw_821, cw_34⟩ rfl (hP.recvS (k := 4) (ci := 2) C.K rfl rfl) rfl rfl (lv_room (Nat.le_of_ble_eq_true rfl)) ⟨Nat.le_of_ble_eq_true rfl, Nat.le_of_ble_eq_true rfl⟩ ⟨(Nat.le_of_ble_eq_true rfl), (Nat.le_of_ble_eq_true rfl)⟩ dX8_add_31 (fun r3 u H locs hr3 hP hS => ?_)
    obtain ⟨P4, rfl⟩ : ∃ z, z = u := ⟨_, rfl⟩
    have hP : CH D cy ad A (tP κ P4) H := hP
    have hr3 : (EX κ.2.2.2.2 P4) ∧ (PV sa P4) ∧ (NT P4 1 r3) := hr3
    obtain ⟨hr3_0, hr3_1, hr3_2⟩ := hr3
    have svz5 : SV ad P4 (κ.2.1 0) (κ.2.1 1) (κ.2.2.2.1 6) (κ.2.2.2.1 7) (κ.2.2.2.1 8) (κ.2.2.2.1 13) (κ.2.2.2.1 15) (κ.2.2.2.1 17) (κ.1 1).toInt := hSV.ex hr3_0
    refine lq_astore_n (lv' := [(3, va_rf r3), (0, .ref (ad 3)), (1, .ref k0), (2, .ref k1)]) C.x C.b dX8_add_34 rfl hl (by decide) (by cases r3 <;> rfl) (fun ls hl => ?_)
    refine lq_aload_n C.x C.b dX8_add_35 rfl (lv_at hl 0 rfl) ?_
    cases r3 with
    | none =>
      refine lv_ifnonnullN C.x C.b dX8_add_36 ?_
      refine lv_aload_n C.x C.b dX8_add_39 rfl (lv_at hl 1 rfl) ?_
      refine lv_bipush (v := 9) C.x C.b dX8_add_40 (by decide +kernel) ?_
      refine c_callVq (n := 1) (As := [.int 9]) (rest := []) C hP hS hl.1 (NX8_fail l D cy ad A sz0 sa (tP κ P4) H.size (SLT H) C.f (fun q h => C.a q (Nat.le_trans hS.1 h)) (9 : Int32) ) ⟨cw_702, cw_695, by decide +kernel⟩ ⟨cw_703, cw_704, cw_705⟩ rfl (hP.recvS (k := 3) (ci := 10) C.K rfl rfl) rfl rfl (lv_room (Nat.le_of_ble_eq_true rfl)) ⟨Nat.le_of_ble_eq_true rfl, Nat.le_of_ble_eq_true rfl⟩ ⟨(Nat.le_of_ble_eq_true rfl), (Nat.le_of_ble_eq_true rfl)⟩ dX8_add_42 (fun r7 u H locs hr7 hP hS => ?_)
      obtain ⟨n8, rfl⟩ : ∃ z, z = u := ⟨_, rfl⟩
      have hP : CH D cy ad A (tI (tP κ P4) 9 n8) H := hP
      have hr7 : (NT P4 1 r7) := hr7
      refine lv_goto (tgt := 49) C.x C.b dX8_add_45 (by decide) ?_
      have hP : CH D cy ad A (tP (tI κ 9 n8) P4) H := CH.cong hP rfl rfl rfl rfl rfl rfl rfl rfl rfl rfl rfl rfl rfl rfl rfl rfl rfl rfl rfl rfl rfl rfl rfl rfl rfl rfl rfl
      exact c_retq (v := r7) (Or.inl ⟨_, rfl⟩) C hsz hsl ⟨n8, P4⟩ ⟨hr3_0, hr3_1, svz5, hr7⟩ hP hS ⟨(Nat.le_of_ble_eq_true rfl), (Nat.le_of_ble_eq_true rfl)⟩ ⟨(Nat.le_of_ble_eq_true rfl), (Nat.le_of_ble_eq_true rfl)⟩ dX8_add_49
    | some b6 =>
      have hb6 : oT P4 b6 = 1 := hr3_2 b6 rfl
      refine lv_ifnonnull (tgt := 48) C.x C.b dX8_add_36 (by decide) ?_
      refine lv_aload_n C.x C.b dX8_add_48 rfl (lv_at hl 0 rfl) ?_
      have hP : CH D cy ad A (tP (tI κ 9 (κ.1 9)) P4) H := CH.cong hP rfl rfl rfl rfl rfl rfl rfl rfl rfl rfl rfl rfl rfl rfl rfl rfl rfl rfl rfl rfl rfl rfl rfl rfl rfl rfl rfl
      exact c_retq (v := (some b6)) (Or.inl ⟨_, rfl⟩) C hsz hsl ⟨(κ.1 9), P4⟩ ⟨hr3_0, hr3_1, svz5, (nt_s hb6)⟩ hP hS ⟨(Nat.le_of_ble_eq_true rfl), (Nat.le_of_ble_eq_true rfl)⟩ ⟨(Nat.le_of_ble_eq_true rfl), (Nat.le_of_ble_eq_true rfl)⟩ dX8_add_49
  · have c2 : r1.toInt = 0 := by have h := z_eq c2; rw [show (0 : Int32).toInt = 0 from by decide +kernel] at h; exact h
    refine lv_aload_n C.x C.b dX8_add_8 rfl (lv_at hl 2 rfl) ?_
    refine lv_aload_n C.x C.b dX8_add_9 rfl (lv_at hl 1 rfl) ?_
    refine c_callSi (C2 := "") (b := 0) (n := 2) (As := [.ref k1, .ref k0]) (rest := []) C hP hS hl.1 (NX8_joins l D cy ad A sz0 sa κ H.size (SLT H) C.f (fun q h => C.a q (Nat.le_trans hS.1 h)) k1 k0 ht1 ht0 hPV) ⟨cw_798, cw_800, by decide +kernel⟩ ⟨cw_799, cw_705⟩ rfl rfl (lv_room (Nat.le_of_ble_eq_true rfl)) ⟨Nat.le_of_ble_eq_true rfl, Nat.le_of_ble_eq_true rfl⟩ ⟨(Nat.le_of_ble_eq_true rfl), (Nat.le_of_ble_eq_true rfl)⟩ dX8_add_10 (fun r9 u H locs hr9 hP hS => ?_)
    have hr9 : (0 ≤ r9.toInt ∧ r9.toInt ≤ 1) := hr9
    obtain ⟨hr9_0, hr9_1⟩ := hr9
    refine lv_if_ne (tgt := 25) C.x C.b dX8_add_13 (by decide) (fun c10 => ?_) (fun c10 => ?_)
    · have c10 : ¬ r9.toInt = 0 := by have h := z_ne c10; rw [show (0 : Int32).toInt = 0 from by decide +kernel] at h; exact h
      refine lv_aload_n C.x C.b dX8_add_25 rfl (lv_at hl 0 rfl) ?_
      refine cg_X8_1 C hP cw_680 dX8_add_26 ?_
      refine lv_aload_n C.x C.b dX8_add_29 rfl (lv_at hl 1 rfl) ?_
      refine lv_aload_n C.x C.b dX8_add_30 rfl (lv_at hl 2 rfl) ?_
      refine c_callVq (n := 2) (As := [.ref k0, .ref k1]) (rest := []) C hP hS hl.1 (NX0_join l D cy ad A sz0 sa κ H.size (SLT H) C.f (fun q h => C.a q (Nat.le_trans hS.1 h)) k0 k1 ht0 ht1 hPV hSV.a19) ⟨cw_819, cw_341, by decide +kernel⟩ ⟨cw_820, cw_821, cw_34⟩ rfl (hP.recvS (k := 4) (ci := 2) C.K rfl rfl) rfl rfl (lv_room (Nat.le_of_ble_eq_true rfl)) ⟨Nat.le_of_ble_eq_true rfl, Nat.le_of_ble_eq_true rfl⟩ ⟨(Nat.le_of_ble_eq_true rfl), (Nat.le_of_ble_eq_true rfl)⟩ dX8_add_31 (fun r11 u H locs hr11 hP hS => ?_)
      obtain ⟨P12, rfl⟩ : ∃ z, z = u := ⟨_, rfl⟩
      have hP : CH D cy ad A (tP κ P12) H := hP
      have hr11 : (EX κ.2.2.2.2 P12) ∧ (PV sa P12) ∧ (NT P12 1 r11) := hr11
      obtain ⟨hr11_0, hr11_1, hr11_2⟩ := hr11
      have svz13 : SV ad P12 (κ.2.1 0) (κ.2.1 1) (κ.2.2.2.1 6) (κ.2.2.2.1 7) (κ.2.2.2.1 8) (κ.2.2.2.1 13) (κ.2.2.2.1 15) (κ.2.2.2.1 17) (κ.1 1).toInt := hSV.ex hr11_0
      refine lq_astore_n (lv' := [(3, va_rf r11), (0, .ref (ad 3)), (1, .ref k0), (2, .ref k1)]) C.x C.b dX8_add_34 rfl hl (by decide) (by cases r11 <;> rfl) (fun ls hl => ?_)
      refine lq_aload_n C.x C.b dX8_add_35 rfl (lv_at hl 0 rfl) ?_
      cases r11 with
      | none =>
        refine lv_ifnonnullN C.x C.b dX8_add_36 ?_
        refine lv_aload_n C.x C.b dX8_add_39 rfl (lv_at hl 1 rfl) ?_
        refine lv_bipush (v := 9) C.x C.b dX8_add_40 (by decide +kernel) ?_
        refine c_callVq (n := 1) (As := [.int 9]) (rest := []) C hP hS hl.1 (NX8_fail l D cy ad A sz0 sa (tP κ P12) H.size (SLT H) C.f (fun q h => C.a q (Nat.le_trans hS.1 h)) (9 : Int32) ) ⟨cw_702, cw_695, by decide +kernel⟩ ⟨cw_703, cw_704, cw_705⟩ rfl (hP.recvS (k := 3) (ci := 10) C.K rfl rfl) rfl rfl (lv_room (Nat.le_of_ble_eq_true rfl)) ⟨Nat.le_of_ble_eq_true rfl, Nat.le_of_ble_eq_true rfl⟩ ⟨(Nat.le_of_ble_eq_true rfl), (Nat.le_of_ble_eq_true rfl)⟩ dX8_add_42 (fun r15 u H locs hr15 hP hS => ?_)
        obtain ⟨n16, rfl⟩ : ∃ z, z = u := ⟨_, rfl⟩
        have hP : CH D cy ad A (tI (tP κ P12) 9 n16) H := hP
        have hr15 : (NT P12 1 r15) := hr15
        refine lv_goto (tgt := 49) C.x C.b dX8_add_45 (by decide) ?_
        have hP : CH D cy ad A (tP (tI κ 9 n16) P12) H := CH.cong hP rfl rfl rfl rfl rfl rfl rfl rfl rfl rfl rfl rfl rfl rfl rfl rfl rfl rfl rfl rfl rfl rfl rfl rfl rfl rfl rfl
        exact c_retq (v := r15) (Or.inl ⟨_, rfl⟩) C hsz hsl ⟨n16, P12⟩ ⟨hr11_0, hr11_1, svz13, hr15⟩ hP hS ⟨(Nat.le_of_ble_eq_true rfl), (Nat.le_of_ble_eq_true rfl)⟩ ⟨(Nat.le_of_ble_eq_true rfl), (Nat.le_of_ble_eq_true rfl)⟩ dX8_add_49
      | some b14 =>
        have hb14 : oT P12 b14 = 1 := hr11_2 b14 rfl
        refine lv_ifnonnull (tgt := 48) C.x C.b dX8_add_36 (by decide) ?_
        refine lv_aload_n C.x C.b dX8_add_48 rfl (lv_at hl 0 rfl) ?_
        have hP : CH D cy ad A (tP (tI κ 9 (κ.1 9)) P12) H := CH.cong hP rfl rfl rfl rfl rfl rfl rfl rfl rfl rfl rfl rfl rfl rfl rfl rfl rfl rfl rfl rfl rfl rfl rfl rfl rfl rfl rfl
        exact c_retq (v := (some b14)) (Or.inl ⟨_, rfl⟩) C hsz hsl ⟨(κ.1 9), P12⟩ ⟨hr11_0, hr11_1, svz13, (nt_s hb14)⟩ hP hS ⟨(Nat.le_of_ble_eq_true rfl), (Nat.le_of_ble_eq_true rfl)⟩ ⟨(Nat.le_of_ble_eq_true rfl), (Nat.le_of_ble_eq_true rfl)⟩ dX8_add_49
    · have c10 : r9.toInt = 0 := by have h := z_eq c10; rw [show (0 : Int32).toInt = 0 from by decide +kernel] at h; exact h
      refine lv_aload_n C.x C.b dX8_add_16 rfl (lv_at hl 0 rfl) ?_
      refine lv_bipush (v := 43) C.x C.b dX8_add_17 (by decide +kernel) ?_
      refine lv_aload_n C.x C.b dX8_add_19 rfl (lv_at hl 1 rfl) ?_
      refine lv_aload_n C.x C.b dX8_add_20 rfl (lv_at hl 2 rfl) ?_
      refine c_callVq (n := 3) (As := [.int 43, .ref k0, .ref k1]) (rest := []) C hP hS hl.1 (NX8_calculate l D cy ad A sz0 sa κ H.size (SLT H) C.f (fun q h => C.a q (Nat.le_trans hS.1 h)) (43 : Int32) k0 k1 ht0 ht1 hPV hSV (vX8_add_1  )) ⟨cw_801, cw_804, by decide +kernel⟩ ⟨cw_802, cw_803, cw_705⟩ rfl (hP.recvS (k := 3) (ci := 10) C.K rfl rfl) rfl rfl (lv_room (Nat.le_of_ble_eq_true rfl)) ⟨Nat.le_of_ble_eq_true rfl, Nat.le_of_ble_eq_true rfl⟩ ⟨(Nat.le_of_ble_eq_true rfl), (Nat.le_of_ble_eq_true rfl)⟩ dX8_add_21 (fun r17 u H locs hr17 hP hS => ?_)
      obtain ⟨n18, P19⟩ := u
      have hP : CH D cy ad A (tP (tI κ 9 n18) P19) H := hP
      have hr17 : (EX κ.2.2.2.2 P19) ∧ (PV sa P19) ∧ (SV ad P19 (κ.2.1 0) (κ.2.1 1) (κ.2.2.2.1 6) (κ.2.2.2.1 7) (κ.2.2.2.1 8) (κ.2.2.2.1 13) (κ.2.2.2.1 15) (κ.2.2.2.1 17) (κ.1 1).toInt) ∧ (NT P19 1 r17) := hr17
      obtain ⟨hr17_0, hr17_1, hr17_2, hr17_3⟩ := hr17
      exact c_retq (v := r17) (Or.inl ⟨_, rfl⟩) C hsz hsl ⟨n18, P19⟩ ⟨hr17_0, hr17_1, hr17_2, hr17_3⟩ hP hS ⟨(Nat.le_of_ble_eq_true rfl), (Nat.le_of_ble_eq_true rfl)⟩ ⟨(Nat.le_of_ble_eq_true rfl), (Nat.le_of_ble_eq_true rfl)⟩ dX8_add_24

set_option maxHeartbeats 4000000 in
set_option maxRecDepth 100000 in
theorem NX8_act (l : Launch) (D : va_G) (cy : Nat → ClassId) (ad : Nat → Nat) (A : Nat → Prop) (sz0 : Nat) (sa : Nat → Nat)  (κ : KS) (sz sl : Nat) (hAF : ∀ q, A q → Fr sz0 q) (hAn : ∀ q : Nat, sz ≤ q → A q) (k0 : Nat) (k1 : Nat) (k2 : Nat) (k3 : Nat) (ht0 : oT κ.2.2.2.2 k0 = 5) (ht1 : oT κ.2.2.2.2 k1 = 1) (ht2 : oT κ.2.2.2.2 k2 = 1) (ht3 : oT κ.2.2.2.2 k3 = 1) (hPV : PV sa κ.2.2.2.2) (hSV : SV ad κ.2.2.2.2 (κ.2.1 0) (κ.2.1 1) (κ.2.2.2.1 6) (κ.2.2.2.1 7) (κ.2.2.2.1 8) (κ.2.2.2.1 13) (κ.2.2.2.1 15) (κ.2.2.2.1 17) (κ.1 1).toInt) : Met l yX8_act (Cond.code yX8_act cX8_act 5 (some (.object "PhraseDesk$Value")) :: GWc) ({ frames := 9, cells := 7, slots := 57, locals := 219 }) (PcC D cy ad A sz0 sa [.ref (ad 3), .ref k0, .ref k1, .ref k2, .ref k3] κ sz sl) (va_Qq (fun (r : Option Nat) (u : Int32 × PL) => (EX κ.2.2.2.2 u.2) ∧ (PV sa u.2) ∧ (SV ad u.2 (κ.2.1 0) (κ.2.1 1) (κ.2.2.2.1 6) (κ.2.2.2.1 7) (κ.2.2.2.1 8) (κ.2.2.2.1 13) (κ.2.2.2.1 15) (κ.2.2.2.1 17) (κ.1 1).toInt) ∧ (NT u.2 1 r)) (fun (u : Int32 × PL) (t : State) => Bx D cy ad A sz sl (tP (tI κ 9 u.1) u.2) (7) (57) t) A) (7) (57) A := by
  refine CM_of (loc0 := [(0, .ref (ad 3)), (1, .ref k0), (2, .ref k1), (3, .ref k2), (4, .ref k3)]) (own := RX8) (nm := "act") (by decide) rfl rfl rfl (Nat.le_of_ble_eq_true rfl) hAF hAn ?_
  intro p e s m below meth c ls hsz hsl C hP hS hl
  refine lv_aload_n C.x C.b dX8_act_0 rfl (lv_at hl 1 rfl) ?_
  obtain ⟨x1, ex1⟩ : ∃ z, oI κ.2.2.2.2 17 k0 = z := ⟨_, rfl⟩
  refine pg_X7_4 (v := x1) C hP (t20 (a := k0) (t := 5) ht0) ex1 cw_791 dX8_act_1 ?_
  by_cases c2_0 : x1.toInt = 0
  · refine lv_tableIn (off := 36) (tgt := 40) C.x C.b dX8_act_4 (by rw [c2_0]; decide +kernel) (by rw [c2_0]; decide +kernel) (by rw [c2_0]; decide +kernel) (by decide) ?_
    refine lv_aload_n C.x C.b dX8_act_40 rfl (lv_at hl 1 rfl) ?_
    obtain ⟨x3, ex3⟩ : ∃ z, oI κ.2.2.2.2 18 k0 = z := ⟨_, rfl⟩
    refine pg_X7_5 (v := x3) C hP (t20 (a := k0) (t := 5) ht0) ex3 cw_792 dX8_act_41 ?_
    refine c_callSq (C2 := "") (b := 0) (n := 1) (As := [.int x3]) (rest := []) C hP hS hl.1 (NX10_ofInt l D cy ad A sz0 sa κ s.heap.size (SLT s.heap) C.f (fun q h => C.a q (Nat.le_trans hS.1 h)) x3 hPV) ⟨cw_722, cw_97, by decide +kernel⟩ ⟨cw_96, cw_40⟩ rfl rfl (lv_room (Nat.le_of_ble_eq_true rfl)) ⟨Nat.le_of_ble_eq_true rfl, Nat.le_of_ble_eq_true rfl⟩ ⟨(Nat.le_of_ble_eq_true rfl), (Nat.le_of_ble_eq_true rfl)⟩ dX8_act_44 (fun r4 u H locs hr4 hP hS => ?_)
    obtain ⟨P5, rfl⟩ : ∃ z, z = u := ⟨_, rfl⟩
    have hP : CH D cy ad A (tP κ P5) H := hP
    have hr4 : (EX κ.2.2.2.2 P5) ∧ (PV sa P5) ∧ (NN P5 1 r4) := hr4
    obtain ⟨hr4_0, hr4_1, hr4_2⟩ := hr4
    obtain ⟨b6, rfl, tb6⟩ := hr4_2
    have svz7 : SV ad P5 (κ.2.1 0) (κ.2.1 1) (κ.2.2.2.1 6) (κ.2.2.2.1 7) (κ.2.2.2.1 8) (κ.2.2.2.1 13) (κ.2.2.2.1 15) (κ.2.2.2.1 17) (κ.1 1).toInt := hSV.ex hr4_0
    have hP : CH D cy ad A (tP (tI κ 9 (κ.1 9)) P5) H := CH.cong hP rfl rfl rfl rfl rfl rfl rfl rfl rfl rfl rfl rfl rfl rfl rfl rfl rfl rfl rfl rfl rfl rfl rfl rfl rfl rfl rfl
    exact c_retq (v := (some b6)) (Or.inl ⟨_, rfl⟩) C hsz hsl ⟨(κ.1 9), P5⟩ ⟨hr4_0, hr4_1, svz7, (nt_s tb6)⟩ hP hS ⟨(Nat.le_of_ble_eq_true rfl), (Nat.le_of_ble_eq_true rfl)⟩ ⟨(Nat.le_of_ble_eq_true rfl), (Nat.le_of_ble_eq_true rfl)⟩ dX8_act_47
  · by_cases c2_1 : x1.toInt = 1
    · refine lv_tableIn (off := 44) (tgt := 48) C.x C.b dX8_act_4 (by rw [c2_1]; decide +kernel) (by rw [c2_1]; decide +kernel) (by rw [c2_1]; decide +kernel) (by decide) ?_
      refine lv_aload_n C.x C.b dX8_act_48 rfl (lv_at hl 3 rfl) ?_
      have hP : CH D cy ad A (tP (tI κ 9 (κ.1 9)) κ.2.2.2.2) s.heap := CH.cong hP rfl rfl rfl rfl rfl rfl rfl rfl rfl rfl rfl rfl rfl rfl rfl rfl rfl rfl rfl rfl rfl rfl rfl rfl rfl rfl rfl
      exact c_retq (v := (some k2)) (Or.inl ⟨_, rfl⟩) C hsz hsl ⟨(κ.1 9), κ.2.2.2.2⟩ ⟨EX.rf, hPV, hSV, (nt_s ht2)⟩ hP hS ⟨(Nat.le_of_ble_eq_true rfl), (Nat.le_of_ble_eq_true rfl)⟩ ⟨(Nat.le_of_ble_eq_true rfl), (Nat.le_of_ble_eq_true rfl)⟩ dX8_act_49
    · by_cases c2_2 : x1.toInt = 2
      · refine lv_tableIn (off := 46) (tgt := 50) C.x C.b dX8_act_4 (by rw [c2_2]; decide +kernel) (by rw [c2_2]; decide +kernel) (by rw [c2_2]; decide +kernel) (by decide) ?_
        refine lv_aload C.x C.b dX8_act_50 (lv_at hl 4 rfl) ?_
        have hP : CH D cy ad A (tP (tI κ 9 (κ.1 9)) κ.2.2.2.2) s.heap := CH.cong hP rfl rfl rfl rfl rfl rfl rfl rfl rfl rfl rfl rfl rfl rfl rfl rfl rfl rfl rfl rfl rfl rfl rfl rfl rfl rfl rfl
        exact c_retq (v := (some k3)) (Or.inl ⟨_, rfl⟩) C hsz hsl ⟨(κ.1 9), κ.2.2.2.2⟩ ⟨EX.rf, hPV, hSV, (nt_s ht3)⟩ hP hS ⟨(Nat.le_of_ble_eq_true rfl), (Nat.le_of_ble_eq_true rfl)⟩ ⟨(Nat.le_of_ble_eq_true rfl), (Nat.le_of_ble_eq_true rfl)⟩ dX8_act_52
      · by_cases c2_3 : x1.toInt = 3
        · refine lv_tableIn (off := 49) (tgt := 53) C.x C.b dX8_act_4 (by rw [c2_3]; decide +kernel) (by rw [c2_3]; decide +kernel) (by rw [c2_3]; decide +kernel) (by decide) ?_
          refine lv_aload_n C.x C.b dX8_act_53 rfl (lv_at hl 1 rfl) ?_
          obtain ⟨x8, ex8⟩ : ∃ z, oI κ.2.2.2.2 16 k0 = z := ⟨_, rfl⟩
          refine pg_X7_3 (v := x8) C hP (t20 (a := k0) (t := 5) ht0) ex8 cw_793 dX8_act_54 ?_
          refine lv_iconst (v := 2) C.x C.b dX8_act_57 (by decide +kernel) ?_
          refine lv_icmp_ge (tgt := 69) C.x C.b dX8_act_58 (by decide) (fun c9 => ?_) (fun c9 => ?_)
          · have c9 : 2 ≤ x8.toInt := by have h := z_le c9; rw [show (2 : Int32).toInt = 2 from by decide +kernel] at h; exact h
            refine lv_aload_n C.x C.b dX8_act_69 rfl (lv_at hl 0 rfl) ?_
            refine lv_aload_n C.x C.b dX8_act_70 rfl (lv_at hl 3 rfl) ?_
            refine lv_aload C.x C.b dX8_act_71 (lv_at hl 4 rfl) ?_
            refine c_callVq (n := 2) (As := [.ref k2, .ref k3]) (rest := []) C hP hS hl.1 (NX8_add l D cy ad A sz0 sa κ s.heap.size (SLT s.heap) C.f (fun q h => C.a q (Nat.le_trans hS.1 h)) k2 k3 ht2 ht3 hPV hSV) ⟨cw_794, cw_797, by decide +kernel⟩ ⟨cw_795, cw_796, cw_705⟩ rfl (hP.recvS (k := 3) (ci := 10) C.K rfl rfl) rfl rfl (lv_room (Nat.le_of_ble_eq_true rfl)) ⟨Nat.le_of_ble_eq_true rfl, Nat.le_of_ble_eq_true rfl⟩ ⟨(Nat.le_of_ble_eq_true rfl), (Nat.le_of_ble_eq_true rfl)⟩ dX8_act_73 (fun r10 u H locs hr10 hP hS => ?_)
            obtain ⟨n11, P12⟩ := u
            have hP : CH D cy ad A (tP (tI κ 9 n11) P12) H := hP
            have hr10 : (EX κ.2.2.2.2 P12) ∧ (PV sa P12) ∧ (SV ad P12 (κ.2.1 0) (κ.2.1 1) (κ.2.2.2.1 6) (κ.2.2.2.1 7) (κ.2.2.2.1 8) (κ.2.2.2.1 13) (κ.2.2.2.1 15) (κ.2.2.2.1 17) (κ.1 1).toInt) ∧ (NT P12 1 r10) := hr10
            obtain ⟨hr10_0, hr10_1, hr10_2, hr10_3⟩ := hr10
            exact c_retq (v := r10) (Or.inl ⟨_, rfl⟩) C hsz hsl ⟨n11, P12⟩ ⟨hr10_0, hr10_1, hr10_2, hr10_3⟩ hP hS ⟨(Nat.le_of_ble_eq_true rfl), (Nat.le_of_ble_eq_true rfl)⟩ ⟨(Nat.le_of_ble_eq_true rfl), (Nat.le_of_ble_eq_true rfl)⟩ dX8_act_76
          · have c9 : x8.toInt < 2 := by have h := z_nle c9; rw [show (2 : Int32).toInt = 2 from by decide +kernel] at h; exact h
            refine lv_aload_n C.x C.b dX8_act_61 rfl (lv_at hl 0 rfl) ?_
            refine lv_iconst (v := 1) C.x C.b dX8_act_62 (by decide +kernel) ?_
            refine c_callVq (n := 1) (As := [.int 1]) (rest := []) C hP hS hl.1 (NX8_fail l D cy ad A sz0 sa κ s.heap.size (SLT s.heap) C.f (fun q h => C.a q (Nat.le_trans hS.1 h)) (1 : Int32) ) ⟨cw_702, cw_695, by decide +kernel⟩ ⟨cw_703, cw_704, cw_705⟩ rfl (hP.recvS (k := 3) (ci := 10) C.K rfl rfl) rfl rfl (lv_room (Nat.le_of_ble_eq_true rfl)) ⟨Nat.le_of_ble_eq_true rfl, Nat.le_of_ble_eq_true rfl⟩ ⟨(Nat.le_of_ble_eq_true rfl), (Nat.le_of_ble_eq_true rfl)⟩ dX8_act_63 (fun r13 u H locs hr13 hP hS => ?_)
            obtain ⟨n14, rfl⟩ : ∃ z, z = u := ⟨_, rfl⟩
            have hP : CH D cy ad A (tI κ 9 n14) H := hP
            have hr13 : (NT κ.2.2.2.2 1 r13) := hr13
            refine lv_goto (tgt := 76) C.x C.b dX8_act_66 (by decide) ?_
            have hP : CH D cy ad A (tP (tI κ 9 n14) κ.2.2.2.2) H := CH.cong hP rfl rfl rfl rfl rfl rfl rfl rfl rfl rfl rfl rfl rfl rfl rfl rfl rfl rfl rfl rfl rfl rfl rfl rfl rfl rfl rfl
            exact c_retq (v := r13) (Or.inl ⟨_, rfl⟩) C hsz hsl ⟨n14, κ.2.2.2.2⟩ ⟨EX.rf, hPV, hSV, hr13⟩ hP hS ⟨(Nat.le_of_ble_eq_true rfl), (Nat.le_of_ble_eq_true rfl)⟩ ⟨(Nat.le_of_ble_eq_true rfl), (Nat.le_of_ble_eq_true rfl)⟩ dX8_act_76
        · by_cases c2_4 : x1.toInt = 4
          · refine lv_tableIn (off := 73) (tgt := 77) C.x C.b dX8_act_4 (by rw [c2_4]; decide +kernel) (by rw [c2_4]; decide +kernel) (by rw [c2_4]; decide +kernel) (by decide) ?_
            refine lv_aload_n C.x C.b dX8_act_77 rfl (lv_at hl 2 rfl) ?_
            have hP : CH D cy ad A (tP (tI κ 9 (κ.1 9)) κ.2.2.2.2) s.heap := CH.cong hP rfl rfl rfl rfl rfl rfl rfl rfl rfl rfl rfl rfl rfl rfl rfl rfl rfl rfl rfl rfl rfl rfl rfl rfl rfl rfl rfl
            exact c_retq (v := (some k1)) (Or.inl ⟨_, rfl⟩) C hsz hsl ⟨(κ.1 9), κ.2.2.2.2⟩ ⟨EX.rf, hPV, hSV, (nt_s ht1)⟩ hP hS ⟨(Nat.le_of_ble_eq_true rfl), (Nat.le_of_ble_eq_true rfl)⟩ ⟨(Nat.le_of_ble_eq_true rfl), (Nat.le_of_ble_eq_true rfl)⟩ dX8_act_78
          · refine lv_tableOut (tgt := 79) C.x C.b dX8_act_4 (by omega) (by decide) ?_
            refine lv_aload_n C.x C.b dX8_act_79 rfl (lv_at hl 0 rfl) ?_
            refine lv_aload_n C.x C.b dX8_act_80 rfl (lv_at hl 2 rfl) ?_
            refine lv_aload_n C.x C.b dX8_act_81 rfl (lv_at hl 1 rfl) ?_
            obtain ⟨x15, ex15⟩ : ∃ z, oI κ.2.2.2.2 18 k0 = z := ⟨_, rfl⟩
            refine pg_X7_5 (v := x15) C hP (t20 (a := k0) (t := 5) ht0) ex15 cw_792 dX8_act_82 ?_
            refine lv_iconst (v := 0) C.x C.b dX8_act_85 (by decide +kernel) ?_
            refine c_callVq (n := 3) (As := [.ref k1, .int x15, .int 0]) (rest := []) C hP hS hl.1 (NX8_property l D cy ad A sz0 sa κ s.heap.size (SLT s.heap) C.f (fun q h => C.a q (Nat.le_trans hS.1 h)) (some k1) x15 (0 : Int32) (nt_s ht1) hPV hSV) ⟨cw_714, cw_717, by decide +kernel⟩ ⟨cw_715, cw_716, cw_705⟩ rfl (hP.recvS (k := 3) (ci := 10) C.K rfl rfl) rfl rfl (lv_room (Nat.le_of_ble_eq_true rfl)) ⟨Nat.le_of_ble_eq_true rfl, Nat.le_of_ble_eq_true rfl⟩ ⟨(Nat.le_of_ble_eq_true rfl), (Nat.le_of_ble_eq_true rfl)⟩ dX8_act_86 (fun r16 u H locs hr16 hP hS => ?_)
            obtain ⟨n17, P18⟩ := u
            have hP : CH D cy ad A (tP (tI κ 9 n17) P18) H := hP
            have hr16 : (EX κ.2.2.2.2 P18) ∧ (PV sa P18) ∧ (SV ad P18 (κ.2.1 0) (κ.2.1 1) (κ.2.2.2.1 6) (κ.2.2.2.1 7) (κ.2.2.2.1 8) (κ.2.2.2.1 13) (κ.2.2.2.1 15) (κ.2.2.2.1 17) (κ.1 1).toInt) ∧ (NT P18 1 r16) := hr16
            obtain ⟨hr16_0, hr16_1, hr16_2, hr16_3⟩ := hr16
            exact c_retq (v := r16) (Or.inl ⟨_, rfl⟩) C hsz hsl ⟨n17, P18⟩ ⟨hr16_0, hr16_1, hr16_2, hr16_3⟩ hP hS ⟨(Nat.le_of_ble_eq_true rfl), (Nat.le_of_ble_eq_true rfl)⟩ ⟨(Nat.le_of_ble_eq_true rfl), (Nat.le_of_ble_eq_true rfl)⟩ dX8_act_89

-- fn @35
theorem vX8_negative_1 (x7 : UInt64) (x8 : UInt64) (fx7 : FN x7) (ex8 : x8 = FP.dneg x7) : FN x7 := by
  first | assumption | exact fp_k0 | exact fp_i2d _ | (subst_vars; exact fp_i2d _) | exact (fp_FN_iff _).mpr (by decide +kernel)
-- pre:X10_ofReal@36 @36
theorem vX8_negative_2 (x7 : UInt64) (x8 : UInt64) (fx7 : FN x7) (ex8 : x8 = FP.dneg x7) (fx8 : FN x8) : FN x8 := by
  first | assumption | exact fp_k0 | exact fp_i2d _ | (subst_vars; exact fp_i2d _) | exact (fp_FN_iff _).mpr (by decide +kernel)
set_option maxHeartbeats 4000000 in
set_option maxRecDepth 100000 in
theorem NX8_negative (l : Launch) (D : va_G) (cy : Nat → ClassId) (ad : Nat → Nat) (A : Nat → Prop) (sz0 : Nat) (sa : Nat → Nat)  (κ : KS) (sz sl : Nat) (hAF : ∀ q, A q → Fr sz0 q) (hAn : ∀ q : Nat, sz ≤ q → A q) (k0 : Option Nat) (ht0 : NT κ.2.2.2.2 1 k0) (hPV : PV sa κ.2.2.2.2) (hSV : SV ad κ.2.2.2.2 (κ.2.1 0) (κ.2.1 1) (κ.2.2.2.1 6) (κ.2.2.2.1 7) (κ.2.2.2.1 8) (κ.2.2.2.1 13) (κ.2.2.2.1 15) (κ.2.2.2.1 17) (κ.1 1).toInt) : Met l yX8_negative (Cond.code yX8_negative cX8_negative 2 (some (.object "PhraseDesk$Value")) :: GWc) ({ frames := 3, cells := 1, slots := 5, locals := 67 }) (PcC D cy ad A sz0 sa [.ref (ad 3), va_rf k0] κ sz sl) (va_Qq (fun (r : Option Nat) (u : Int32 × PL) => (EX κ.2.2.2.2 u.2) ∧ (PV sa u.2) ∧ (SV ad u.2 (κ.2.1 0) (κ.2.1 1) (κ.2.2.2.1 6) (κ.2.2.2.1 7) (κ.2.2.2.1 8) (κ.2.2.2.1 13) (κ.2.2.2.1 15) (κ.2.2.2.1 17) (κ.1 1).toInt) ∧ (NT u.2 1 r)) (fun (u : Int32 × PL) (t : State) => Bx D cy ad A sz sl (tP (tI κ 9 u.1) u.2) (1) (5) t) A) (1) (5) A := by
  refine CM_of (loc0 := [(0, .ref (ad 3)), (1, va_rf k0)]) (own := RX8) (nm := "negative") (by decide) rfl rfl (by cases k0 <;> rfl) (by cases k0 <;> exact Nat.le_of_ble_eq_true rfl) hAF hAn ?_
  intro p e s m below meth c ls hsz hsl C hP hS hl
  refine lq_aload_n C.x C.b dX8_negative_0 rfl (lv_at hl 1 rfl) ?_
  cases k0 with
  | none =>
    refine lv_ifnonnullN C.x C.b dX8_negative_1 ?_
    refine lv_null C.x C.b dX8_negative_4 ?_
    have hP : CH D cy ad A (tP (tI κ 9 (κ.1 9)) κ.2.2.2.2) s.heap := CH.cong hP rfl rfl rfl rfl rfl rfl rfl rfl rfl rfl rfl rfl rfl rfl rfl rfl rfl rfl rfl rfl rfl rfl rfl rfl rfl rfl rfl
    exact c_retq (v := none) (Or.inl ⟨_, rfl⟩) C hsz hsl ⟨(κ.1 9), κ.2.2.2.2⟩ ⟨EX.rf, hPV, hSV, nt_n⟩ hP hS ⟨(Nat.le_of_ble_eq_true rfl), (Nat.le_of_ble_eq_true rfl)⟩ ⟨(Nat.le_of_ble_eq_true rfl), (Nat.le_of_ble_eq_true rfl)⟩ dX8_negative_5
  | some b1 =>
    have hb1 : oT κ.2.2.2.2 b1 = 1 := ht0 b1 rfl
    refine lv_ifnonnull (tgt := 6) C.x C.b dX8_negative_1 (by decide) ?_
    refine lv_aload_n C.x C.b dX8_negative_6 rfl (lv_at hl 1 rfl) ?_
    obtain ⟨x2, ex2⟩ : ∃ z, oI κ.2.2.2.2 0 b1 = z := ⟨_, rfl⟩
    refine pg_X10_0 (v := x2) C hP (t20 (a := b1) (t := 1) hb1) ex2 cw_718 dX8_negative_7 ?_
    refine lv_iconst (v := 2) C.x C.b dX8_negative_10 (by decide +kernel) ?_
    refine lv_icmp_ne (tgt := 23) C.x C.b dX8_negative_11 (by decide) (fun c3 => ?_) (fun c3 => ?_)
    · have c3 : ¬ x2.toInt = 2 := by have h := z_ne c3; rw [show (2 : Int32).toInt = 2 from by decide +kernel] at h; exact h
      refine lv_aload_n C.x C.b dX8_negative_23 rfl (lv_at hl 1 rfl) ?_
      refine pg_X10_0 (v := x2) C hP (t20 (a := b1) (t := 1) hb1) ex2 cw_718 dX8_negative_24 ?_
      refine lv_iconst (v := 3) C.x C.b dX8_negative_27 (by decide +kernel) ?_
      refine lv_icmp_ne (tgt := 42) C.x C.b dX8_negative_28 (by decide) (fun c4 => ?_) (fun c4 => ?_)
      · have c4 : ¬ x2.toInt = 3 := by have h := z_ne c4; rw [show (3 : Int32).toInt = 3 from by decide +kernel] at h; exact h
        refine lv_aload_n C.x C.b dX8_negative_42 rfl (lv_at hl 0 rfl) ?_
        refine lv_iconst (v := 1) C.x C.b dX8_negative_43 (by decide +kernel) ?_
        refine c_callVq (n := 1) (As := [.int 1]) (rest := []) C hP hS hl.1 (NX8_fail l D cy ad A sz0 sa κ s.heap.size (SLT s.heap) C.f (fun q h => C.a q (Nat.le_trans hS.1 h)) (1 : Int32) ) ⟨cw_702, cw_695, by decide +kernel⟩ ⟨cw_703, cw_704, cw_705⟩ rfl (hP.recvS (k := 3) (ci := 10) C.K rfl rfl) rfl rfl (lv_room (Nat.le_of_ble_eq_true rfl)) ⟨Nat.le_of_ble_eq_true rfl, Nat.le_of_ble_eq_true rfl⟩ ⟨(Nat.le_of_ble_eq_true rfl), (Nat.le_of_ble_eq_true rfl)⟩ dX8_negative_44 (fun r5 u H locs hr5 hP hS => ?_)
        obtain ⟨n6, rfl⟩ : ∃ z, z = u := ⟨_, rfl⟩
        have hP : CH D cy ad A (tI κ 9 n6) H := hP
        have hr5 : (NT κ.2.2.2.2 1 r5) := hr5
        have hP : CH D cy ad A (tP (tI κ 9 n6) κ.2.2.2.2) H := CH.cong hP rfl rfl rfl rfl rfl rfl rfl rfl rfl rfl rfl rfl rfl rfl rfl rfl rfl rfl rfl rfl rfl rfl rfl rfl rfl rfl rfl
        exact c_retq (v := r5) (Or.inl ⟨_, rfl⟩) C hsz hsl ⟨n6, κ.2.2.2.2⟩ ⟨EX.rf, hPV, hSV, hr5⟩ hP hS ⟨(Nat.le_of_ble_eq_true rfl), (Nat.le_of_ble_eq_true rfl)⟩ ⟨(Nat.le_of_ble_eq_true rfl), (Nat.le_of_ble_eq_true rfl)⟩ dX8_negative_47
      · have c4 : x2.toInt = 3 := by have h := z_eq c4; rw [show (3 : Int32).toInt = 3 from by decide +kernel] at h; exact h
        refine lv_aload_n C.x C.b dX8_negative_31 rfl (lv_at hl 1 rfl) ?_
        obtain ⟨x7, ex7⟩ : ∃ z, oD κ.2.2.2.2 b1 = z := ⟨_, rfl⟩
        refine pg_X10_2 (v := x7) C hP (t20 (a := b1) (t := 1) hb1) ex7 cw_742 dX8_negative_32 ?_
        have fx7 : FN x7 := by rw [← ex7]; exact (hPV.t1 hb1).2.2
        refine lv_dneg C.x C.b dX8_negative_35 ?_
        refine lv_topd (fun x8 ex8 => ?_)
        have fx8 : FN x8 := by rw [ex8]; exact fp_neg (vX8_negative_1 x7 x8 fx7 ex8)
        refine c_callSq (C2 := "") (b := 0) (n := 1) (As := [.double x8]) (rest := []) C hP hS hl.1 (NX10_ofReal l D cy ad A sz0 sa κ s.heap.size (SLT s.heap) C.f (fun q h => C.a q (Nat.le_trans hS.1 h)) x8 hPV (vX8_negative_2 x7 x8 fx7 ex8 fx8)) ⟨cw_743, cw_143, by decide +kernel⟩ ⟨cw_142, cw_40⟩ rfl rfl (lv_room (Nat.le_of_ble_eq_true rfl)) ⟨Nat.le_of_ble_eq_true rfl, Nat.le_of_ble_eq_true rfl⟩ ⟨(Nat.le_of_ble_eq_true rfl), (Nat.le_of_ble_eq_true rfl)⟩ dX8_negative_36 (fun r9 u H locs hr9 hP hS => ?_)
        obtain ⟨P10, rfl⟩ : ∃ z, z = u := ⟨_, rfl⟩
        have hP : CH D cy ad A (tP κ P10) H := hP
        have hr9 : (EX κ.2.2.2.2 P10) ∧ (PV sa P10) ∧ (NN P10 1 r9) := hr9
        obtain ⟨hr9_0, hr9_1, hr9_2⟩ := hr9
        obtain ⟨b11, rfl, tb11⟩ := hr9_2
        have svz12 : SV ad P10 (κ.2.1 0) (κ.2.1 1) (κ.2.2.2.1 6) (κ.2.2.2.1 7) (κ.2.2.2.1 8) (κ.2.2.2.1 13) (κ.2.2.2.1 15) (κ.2.2.2.1 17) (κ.1 1).toInt := hSV.ex hr9_0
        refine lv_goto (tgt := 47) C.x C.b dX8_negative_39 (by decide) ?_
        have hP : CH D cy ad A (tP (tI κ 9 (κ.1 9)) P10) H := CH.cong hP rfl rfl rfl rfl rfl rfl rfl rfl rfl rfl rfl rfl rfl rfl rfl rfl rfl rfl rfl rfl rfl rfl rfl rfl rfl rfl rfl
        exact c_retq (v := (some b11)) (Or.inl ⟨_, rfl⟩) C hsz hsl ⟨(κ.1 9), P10⟩ ⟨hr9_0, hr9_1, svz12, (nt_s tb11)⟩ hP hS ⟨(Nat.le_of_ble_eq_true rfl), (Nat.le_of_ble_eq_true rfl)⟩ ⟨(Nat.le_of_ble_eq_true rfl), (Nat.le_of_ble_eq_true rfl)⟩ dX8_negative_47
    · have c3 : x2.toInt = 2 := by have h := z_eq c3; rw [show (2 : Int32).toInt = 2 from by decide +kernel] at h; exact h
      refine lv_aload_n C.x C.b dX8_negative_14 rfl (lv_at hl 1 rfl) ?_
      obtain ⟨x13, ex13⟩ : ∃ z, oI κ.2.2.2.2 1 b1 = z := ⟨_, rfl⟩
      refine pg_X10_1 (v := x13) C hP (t20 (a := b1) (t := 1) hb1) ex13 cw_741 dX8_negative_15 ?_
      refine lv_ineg C.x C.b dX8_negative_18 ?_
      refine lv_topi (fun x14 ex14 => ?_)
      refine c_callSq (C2 := "") (b := 0) (n := 1) (As := [.int x14]) (rest := []) C hP hS hl.1 (NX10_ofInt l D cy ad A sz0 sa κ s.heap.size (SLT s.heap) C.f (fun q h => C.a q (Nat.le_trans hS.1 h)) x14 hPV) ⟨cw_722, cw_97, by decide +kernel⟩ ⟨cw_96, cw_40⟩ rfl rfl (lv_room (Nat.le_of_ble_eq_true rfl)) ⟨Nat.le_of_ble_eq_true rfl, Nat.le_of_ble_eq_true rfl⟩ ⟨(Nat.le_of_ble_eq_true rfl), (Nat.le_of_ble_eq_true rfl)⟩ dX8_negative_19 (fun r15 u H locs hr15 hP hS => ?_)
      obtain ⟨P16, rfl⟩ : ∃ z, z = u := ⟨_, rfl⟩
      have hP : CH D cy ad A (tP κ P16) H := hP
      have hr15 : (EX κ.2.2.2.2 P16) ∧ (PV sa P16) ∧ (NN P16 1 r15) := hr15
      obtain ⟨hr15_0, hr15_1, hr15_2⟩ := hr15
      obtain ⟨b17, rfl, tb17⟩ := hr15_2
      have svz18 : SV ad P16 (κ.2.1 0) (κ.2.1 1) (κ.2.2.2.1 6) (κ.2.2.2.1 7) (κ.2.2.2.1 8) (κ.2.2.2.1 13) (κ.2.2.2.1 15) (κ.2.2.2.1 17) (κ.1 1).toInt := hSV.ex hr15_0
      have hP : CH D cy ad A (tP (tI κ 9 (κ.1 9)) P16) H := CH.cong hP rfl rfl rfl rfl rfl rfl rfl rfl rfl rfl rfl rfl rfl rfl rfl rfl rfl rfl rfl rfl rfl rfl rfl rfl rfl rfl rfl
      exact c_retq (v := (some b17)) (Or.inl ⟨_, rfl⟩) C hsz hsl ⟨(κ.1 9), P16⟩ ⟨hr15_0, hr15_1, svz18, (nt_s tb17)⟩ hP hS ⟨(Nat.le_of_ble_eq_true rfl), (Nat.le_of_ble_eq_true rfl)⟩ ⟨(Nat.le_of_ble_eq_true rfl), (Nat.le_of_ble_eq_true rfl)⟩ dX8_negative_22

set_option maxHeartbeats 4000000 in
set_option maxRecDepth 100000 in
theorem NX8_opposite (l : Launch) (D : va_G) (cy : Nat → ClassId) (ad : Nat → Nat) (A : Nat → Prop) (sz0 : Nat) (sa : Nat → Nat)  (κ : KS) (sz sl : Nat) (hAF : ∀ q, A q → Fr sz0 q) (hAn : ∀ q : Nat, sz ≤ q → A q) (k0 : Option Nat) (ht0 : NT κ.2.2.2.2 1 k0) (hPV : PV sa κ.2.2.2.2) (hSV : SV ad κ.2.2.2.2 (κ.2.1 0) (κ.2.1 1) (κ.2.2.2.1 6) (κ.2.2.2.1 7) (κ.2.2.2.1 8) (κ.2.2.2.1 13) (κ.2.2.2.1 15) (κ.2.2.2.1 17) (κ.1 1).toInt) : Met l yX8_opposite (Cond.code yX8_opposite cX8_opposite 2 (some (.object "PhraseDesk$Value")) :: GWc) ({ frames := 3, cells := 1, slots := 5, locals := 66 }) (PcC D cy ad A sz0 sa [.ref (ad 3), va_rf k0] κ sz sl) (va_Qq (fun (r : Option Nat) (u : Int32 × PL) => (EX κ.2.2.2.2 u.2) ∧ (PV sa u.2) ∧ (SV ad u.2 (κ.2.1 0) (κ.2.1 1) (κ.2.2.2.1 6) (κ.2.2.2.1 7) (κ.2.2.2.1 8) (κ.2.2.2.1 13) (κ.2.2.2.1 15) (κ.2.2.2.1 17) (κ.1 1).toInt) ∧ (NT u.2 1 r)) (fun (u : Int32 × PL) (t : State) => Bx D cy ad A sz sl (tP (tI κ 9 u.1) u.2) (1) (5) t) A) (1) (5) A := by
  refine CM_of (loc0 := [(0, .ref (ad 3)), (1, va_rf k0)]) (own := RX8) (nm := "opposite") (by decide) rfl rfl (by cases k0 <;> rfl) (by cases k0 <;> exact Nat.le_of_ble_eq_true rfl) hAF hAn ?_
  intro p e s m below meth c ls hsz hsl C hP hS hl
  refine lq_aload_n C.x C.b dX8_opposite_0 rfl (lv_at hl 1 rfl) ?_
  cases k0 with
  | none =>
    refine lv_ifnonnullN C.x C.b dX8_opposite_1 ?_
    refine lv_null C.x C.b dX8_opposite_4 ?_
    have hP : CH D cy ad A (tP (tI κ 9 (κ.1 9)) κ.2.2.2.2) s.heap := CH.cong hP rfl rfl rfl rfl rfl rfl rfl rfl rfl rfl rfl rfl rfl rfl rfl rfl rfl rfl rfl rfl rfl rfl rfl rfl rfl rfl rfl
    exact c_retq (v := none) (Or.inl ⟨_, rfl⟩) C hsz hsl ⟨(κ.1 9), κ.2.2.2.2⟩ ⟨EX.rf, hPV, hSV, nt_n⟩ hP hS ⟨(Nat.le_of_ble_eq_true rfl), (Nat.le_of_ble_eq_true rfl)⟩ ⟨(Nat.le_of_ble_eq_true rfl), (Nat.le_of_ble_eq_true rfl)⟩ dX8_opposite_5
  | some b1 =>
    have hb1 : oT κ.2.2.2.2 b1 = 1 := ht0 b1 rfl
    refine lv_ifnonnull (tgt := 6) C.x C.b dX8_opposite_1 (by decide) ?_
    refine lv_aload_n C.x C.b dX8_opposite_6 rfl (lv_at hl 1 rfl) ?_
    obtain ⟨x2, ex2⟩ : ∃ z, oI κ.2.2.2.2 0 b1 = z := ⟨_, rfl⟩
    refine pg_X10_0 (v := x2) C hP (t20 (a := b1) (t := 1) hb1) ex2 cw_718 dX8_opposite_7 ?_
    refine lv_iconst (v := 1) C.x C.b dX8_opposite_10 (by decide +kernel) ?_
    refine lv_icmp_ne (tgt := 32) C.x C.b dX8_opposite_11 (by decide) (fun c3 => ?_) (fun c3 => ?_)
    · have c3 : ¬ x2.toInt = 1 := by have h := z_ne c3; rw [show (1 : Int32).toInt = 1 from by decide +kernel] at h; exact h
      refine lv_aload_n C.x C.b dX8_opposite_32 rfl (lv_at hl 0 rfl) ?_
      refine lv_iconst (v := 1) C.x C.b dX8_opposite_33 (by decide +kernel) ?_
      refine c_callVq (n := 1) (As := [.int 1]) (rest := []) C hP hS hl.1 (NX8_fail l D cy ad A sz0 sa κ s.heap.size (SLT s.heap) C.f (fun q h => C.a q (Nat.le_trans hS.1 h)) (1 : Int32) ) ⟨cw_702, cw_695, by decide +kernel⟩ ⟨cw_703, cw_704, cw_705⟩ rfl (hP.recvS (k := 3) (ci := 10) C.K rfl rfl) rfl rfl (lv_room (Nat.le_of_ble_eq_true rfl)) ⟨Nat.le_of_ble_eq_true rfl, Nat.le_of_ble_eq_true rfl⟩ ⟨(Nat.le_of_ble_eq_true rfl), (Nat.le_of_ble_eq_true rfl)⟩ dX8_opposite_34 (fun r4 u H locs hr4 hP hS => ?_)
      obtain ⟨n5, rfl⟩ : ∃ z, z = u := ⟨_, rfl⟩
      have hP : CH D cy ad A (tI κ 9 n5) H := hP
      have hr4 : (NT κ.2.2.2.2 1 r4) := hr4
      have hP : CH D cy ad A (tP (tI κ 9 n5) κ.2.2.2.2) H := CH.cong hP rfl rfl rfl rfl rfl rfl rfl rfl rfl rfl rfl rfl rfl rfl rfl rfl rfl rfl rfl rfl rfl rfl rfl rfl rfl rfl rfl
      exact c_retq (v := r4) (Or.inl ⟨_, rfl⟩) C hsz hsl ⟨n5, κ.2.2.2.2⟩ ⟨EX.rf, hPV, hSV, hr4⟩ hP hS ⟨(Nat.le_of_ble_eq_true rfl), (Nat.le_of_ble_eq_true rfl)⟩ ⟨(Nat.le_of_ble_eq_true rfl), (Nat.le_of_ble_eq_true rfl)⟩ dX8_opposite_37
    · have c3 : x2.toInt = 1 := by have h := z_eq c3; rw [show (1 : Int32).toInt = 1 from by decide +kernel] at h; exact h
      refine lv_aload_n C.x C.b dX8_opposite_14 rfl (lv_at hl 1 rfl) ?_
      refine c_callVi (n := 0) (As := []) (rest := []) C hP hS hl.1 (NX10_isTrue l D cy ad A sz0 sa κ s.heap.size (SLT s.heap) C.f (fun q h => C.a q (Nat.le_trans hS.1 h)) b1 hb1 hPV) ⟨cw_748, cw_751, by decide +kernel⟩ ⟨cw_749, cw_750, cw_40⟩ rfl (hP.recvP (t := 1) (ci := 12) C.K (t20 (a := b1) (t := 1) hb1) (by decide) rfl rfl) rfl rfl (lv_room (Nat.le_of_ble_eq_true rfl)) ⟨Nat.le_of_ble_eq_true rfl, Nat.le_of_ble_eq_true rfl⟩ ⟨(Nat.le_of_ble_eq_true rfl), (Nat.le_of_ble_eq_true rfl)⟩ dX8_opposite_15 (fun r6 u H locs hr6 hP hS => ?_)
      have hr6 : (0 ≤ r6.toInt ∧ r6.toInt ≤ 1) := hr6
      obtain ⟨hr6_0, hr6_1⟩ := hr6
      refine lv_if_ne (tgt := 25) C.x C.b dX8_opposite_18 (by decide) (fun c7 => ?_) (fun c7 => ?_)
      · have c7 : ¬ r6.toInt = 0 := by have h := z_ne c7; rw [show (0 : Int32).toInt = 0 from by decide +kernel] at h; exact h
        refine lv_iconst (v := 0) C.x C.b dX8_opposite_25 (by decide +kernel) ?_
        refine c_callSq (C2 := "") (b := 0) (n := 1) (As := [.int 0]) (rest := []) C hP hS hl.1 (NX10_ofBool l D cy ad A sz0 sa κ H.size (SLT H) C.f (fun q h => C.a q (Nat.le_trans hS.1 h)) (0 : Int32) hPV) ⟨cw_752, cw_82, by decide +kernel⟩ ⟨cw_81, cw_40⟩ rfl rfl (lv_room (Nat.le_of_ble_eq_true rfl)) ⟨Nat.le_of_ble_eq_true rfl, Nat.le_of_ble_eq_true rfl⟩ ⟨(Nat.le_of_ble_eq_true rfl), (Nat.le_of_ble_eq_true rfl)⟩ dX8_opposite_26 (fun r8 u H locs hr8 hP hS => ?_)
        obtain ⟨P9, rfl⟩ : ∃ z, z = u := ⟨_, rfl⟩
        have hP : CH D cy ad A (tP κ P9) H := hP
        have hr8 : (EX κ.2.2.2.2 P9) ∧ (PV sa P9) ∧ (NN P9 1 r8) := hr8
        obtain ⟨hr8_0, hr8_1, hr8_2⟩ := hr8
        obtain ⟨b10, rfl, tb10⟩ := hr8_2
        have svz11 : SV ad P9 (κ.2.1 0) (κ.2.1 1) (κ.2.2.2.1 6) (κ.2.2.2.1 7) (κ.2.2.2.1 8) (κ.2.2.2.1 13) (κ.2.2.2.1 15) (κ.2.2.2.1 17) (κ.1 1).toInt := hSV.ex hr8_0
        refine lv_goto (tgt := 37) C.x C.b dX8_opposite_29 (by decide) ?_
        have hP : CH D cy ad A (tP (tI κ 9 (κ.1 9)) P9) H := CH.cong hP rfl rfl rfl rfl rfl rfl rfl rfl rfl rfl rfl rfl rfl rfl rfl rfl rfl rfl rfl rfl rfl rfl rfl rfl rfl rfl rfl
        exact c_retq (v := (some b10)) (Or.inl ⟨_, rfl⟩) C hsz hsl ⟨(κ.1 9), P9⟩ ⟨hr8_0, hr8_1, svz11, (nt_s tb10)⟩ hP hS ⟨(Nat.le_of_ble_eq_true rfl), (Nat.le_of_ble_eq_true rfl)⟩ ⟨(Nat.le_of_ble_eq_true rfl), (Nat.le_of_ble_eq_true rfl)⟩ dX8_opposite_37
      · have c7 : r6.toInt = 0 := by have h := z_eq c7; rw [show (0 : Int32).toInt = 0 from by decide +kernel] at h; exact h
        refine lv_iconst (v := 1) C.x C.b dX8_opposite_21 (by decide +kernel) ?_
        refine lv_goto (tgt := 26) C.x C.b dX8_opposite_22 (by decide) ?_
        refine c_callSq (C2 := "") (b := 0) (n := 1) (As := [.int 1]) (rest := []) C hP hS hl.1 (NX10_ofBool l D cy ad A sz0 sa κ H.size (SLT H) C.f (fun q h => C.a q (Nat.le_trans hS.1 h)) (1 : Int32) hPV) ⟨cw_752, cw_82, by decide +kernel⟩ ⟨cw_81, cw_40⟩ rfl rfl (lv_room (Nat.le_of_ble_eq_true rfl)) ⟨Nat.le_of_ble_eq_true rfl, Nat.le_of_ble_eq_true rfl⟩ ⟨(Nat.le_of_ble_eq_true rfl), (Nat.le_of_ble_eq_true rfl)⟩ dX8_opposite_26 (fun r12 u H locs hr12 hP hS => ?_)
        obtain ⟨P13, rfl⟩ : ∃ z, z = u := ⟨_, rfl⟩
        have hP : CH D cy ad A (tP κ P13) H := hP
        have hr12 : (EX κ.2.2.2.2 P13) ∧ (PV sa P13) ∧ (NN P13 1 r12) := hr12
        obtain ⟨hr12_0, hr12_1, hr12_2⟩ := hr12
        obtain ⟨b14, rfl, tb14⟩ := hr12_2
        have svz15 : SV ad P13 (κ.2.1 0) (κ.2.1 1) (κ.2.2.2.1 6) (κ.2.2.2.1 7) (κ.2.2.2.1 8) (κ.2.2.2.1 13) (κ.2.2.2.1 15) (κ.2.2.2.1 17) (κ.1 1).toInt := hSV.ex hr12_0
        refine lv_goto (tgt := 37) C.x C.b dX8_opposite_29 (by decide) ?_
        have hP : CH D cy ad A (tP (tI κ 9 (κ.1 9)) P13) H := CH.cong hP rfl rfl rfl rfl rfl rfl rfl rfl rfl rfl rfl rfl rfl rfl rfl rfl rfl rfl rfl rfl rfl rfl rfl rfl rfl rfl rfl
        exact c_retq (v := (some b14)) (Or.inl ⟨_, rfl⟩) C hsz hsl ⟨(κ.1 9), P13⟩ ⟨hr12_0, hr12_1, svz15, (nt_s tb14)⟩ hP hS ⟨(Nat.le_of_ble_eq_true rfl), (Nat.le_of_ble_eq_true rfl)⟩ ⟨(Nat.le_of_ble_eq_true rfl), (Nat.le_of_ble_eq_true rfl)⟩ dX8_opposite_37

set_option maxHeartbeats 4000000 in
set_option maxRecDepth 100000 in
theorem NX8_bool (l : Launch) (D : va_G) (cy : Nat → ClassId) (ad : Nat → Nat) (A : Nat → Prop) (sz0 : Nat) (sa : Nat → Nat)  (κ : KS) (sz sl : Nat) (hAF : ∀ q, A q → Fr sz0 q) (hAn : ∀ q : Nat, sz ≤ q → A q) (k0 : Option Nat) (ht0 : NT κ.2.2.2.2 1 k0) (hPV : PV sa κ.2.2.2.2) (hSV : SV ad κ.2.2.2.2 (κ.2.1 0) (κ.2.1 1) (κ.2.2.2.1 6) (κ.2.2.2.1 7) (κ.2.2.2.1 8) (κ.2.2.2.1 13) (κ.2.2.2.1 15) (κ.2.2.2.1 17) (κ.1 1).toInt) : Met l yX8_bool (Cond.code yX8_bool cX8_bool 2 (some (.object "PhraseDesk$Value")) :: GWc) ({ frames := 1, cells := 0, slots := 0, locals := 21 }) (PcC D cy ad A sz0 sa [.ref (ad 3), va_rf k0] κ sz sl) (va_Qq (fun (r : Option Nat) (u : Int32) => (NT κ.2.2.2.2 1 r)) (fun (u : Int32) (t : State) => Bx D cy ad A sz sl (tI κ 9 u) (0) (0) t) A) (0) (0) A := by
  refine CM_of (loc0 := [(0, .ref (ad 3)), (1, va_rf k0)]) (own := RX8) (nm := "bool") (by decide) rfl rfl (by cases k0 <;> rfl) (by cases k0 <;> exact Nat.le_of_ble_eq_true rfl) hAF hAn ?_
  intro p e s m below meth c ls hsz hsl C hP hS hl
  refine lq_aload_n C.x C.b dX8_bool_0 rfl (lv_at hl 1 rfl) ?_
  cases k0 with
  | none =>
    refine lv_ifnullN (tgt := 12) C.x C.b dX8_bool_1 (by decide) ?_
    refine lv_aload_nN C.x C.b dX8_bool_12 rfl (lv_at hl 1 rfl) ?_
    refine lv_goto (tgt := 21) C.x C.b dX8_bool_13 (by decide) ?_
    have hP : CH D cy ad A (tI κ 9 (κ.1 9)) s.heap := CH.cong hP rfl rfl rfl rfl rfl rfl rfl rfl rfl rfl rfl rfl rfl rfl rfl rfl rfl rfl rfl rfl rfl rfl rfl rfl rfl rfl rfl
    exact c_retq (v := none) (Or.inl ⟨_, rfl⟩) C hsz hsl (κ.1 9) nt_n hP hS ⟨(Nat.le_of_ble_eq_true rfl), (Nat.le_of_ble_eq_true rfl)⟩ ⟨(Nat.le_of_ble_eq_true rfl), (Nat.le_of_ble_eq_true rfl)⟩ dX8_bool_21
  | some b1 =>
    have hb1 : oT κ.2.2.2.2 b1 = 1 := ht0 b1 rfl
    refine lv_ifnull C.x C.b dX8_bool_1 ?_
    refine lv_aload_n C.x C.b dX8_bool_4 rfl (lv_at hl 1 rfl) ?_
    obtain ⟨x2, ex2⟩ : ∃ z, oI κ.2.2.2.2 0 b1 = z := ⟨_, rfl⟩
    refine pg_X10_0 (v := x2) C hP (t20 (a := b1) (t := 1) hb1) ex2 cw_718 dX8_bool_5 ?_
    refine lv_iconst (v := 1) C.x C.b dX8_bool_8 (by decide +kernel) ?_
    refine lv_icmp_ne (tgt := 16) C.x C.b dX8_bool_9 (by decide) (fun c3 => ?_) (fun c3 => ?_)
    · have c3 : ¬ x2.toInt = 1 := by have h := z_ne c3; rw [show (1 : Int32).toInt = 1 from by decide +kernel] at h; exact h
      refine lv_aload_n C.x C.b dX8_bool_16 rfl (lv_at hl 0 rfl) ?_
      refine lv_iconst (v := 1) C.x C.b dX8_bool_17 (by decide +kernel) ?_
      refine c_callVq (n := 1) (As := [.int 1]) (rest := []) C hP hS hl.1 (NX8_fail l D cy ad A sz0 sa κ s.heap.size (SLT s.heap) C.f (fun q h => C.a q (Nat.le_trans hS.1 h)) (1 : Int32) ) ⟨cw_702, cw_695, by decide +kernel⟩ ⟨cw_703, cw_704, cw_705⟩ rfl (hP.recvS (k := 3) (ci := 10) C.K rfl rfl) rfl rfl (lv_room (Nat.le_of_ble_eq_true rfl)) ⟨Nat.le_of_ble_eq_true rfl, Nat.le_of_ble_eq_true rfl⟩ ⟨(Nat.le_of_ble_eq_true rfl), (Nat.le_of_ble_eq_true rfl)⟩ dX8_bool_18 (fun r4 u H locs hr4 hP hS => ?_)
      obtain ⟨n5, rfl⟩ : ∃ z, z = u := ⟨_, rfl⟩
      have hP : CH D cy ad A (tI κ 9 n5) H := hP
      have hr4 : (NT κ.2.2.2.2 1 r4) := hr4
      exact c_retq (v := r4) (Or.inl ⟨_, rfl⟩) C hsz hsl n5 hr4 hP hS ⟨(Nat.le_of_ble_eq_true rfl), (Nat.le_of_ble_eq_true rfl)⟩ ⟨(Nat.le_of_ble_eq_true rfl), (Nat.le_of_ble_eq_true rfl)⟩ dX8_bool_21
    · have c3 : x2.toInt = 1 := by have h := z_eq c3; rw [show (1 : Int32).toInt = 1 from by decide +kernel] at h; exact h
      refine lv_aload_n C.x C.b dX8_bool_12 rfl (lv_at hl 1 rfl) ?_
      refine lv_goto (tgt := 21) C.x C.b dX8_bool_13 (by decide) ?_
      have hP : CH D cy ad A (tI κ 9 (κ.1 9)) s.heap := CH.cong hP rfl rfl rfl rfl rfl rfl rfl rfl rfl rfl rfl rfl rfl rfl rfl rfl rfl rfl rfl rfl rfl rfl rfl rfl rfl rfl rfl
      exact c_retq (v := (some b1)) (Or.inl ⟨_, rfl⟩) C hsz hsl (κ.1 9) (nt_s hb1) hP hS ⟨(Nat.le_of_ble_eq_true rfl), (Nat.le_of_ble_eq_true rfl)⟩ ⟨(Nat.le_of_ble_eq_true rfl), (Nat.le_of_ble_eq_true rfl)⟩ dX8_bool_21

set_option maxHeartbeats 4000000 in
set_option maxRecDepth 100000 in
theorem NX8_setField (l : Launch) (D : va_G) (cy : Nat → ClassId) (ad : Nat → Nat) (A : Nat → Prop) (sz0 : Nat) (sa : Nat → Nat)  (κ : KS) (sz sl : Nat) (hAF : ∀ q, A q → Fr sz0 q) (hAn : ∀ q : Nat, sz ≤ q → A q) (k0 : Nat) (k1 : Int32) (k2 : Nat) (ht0 : oT κ.2.2.2.2 k0 = 1) (ht2 : oT κ.2.2.2.2 k2 = 1) (hPV : PV sa κ.2.2.2.2) (hSV : SV ad κ.2.2.2.2 (κ.2.1 0) (κ.2.1 1) (κ.2.2.2.1 6) (κ.2.2.2.1 7) (κ.2.2.2.1 8) (κ.2.2.2.1 13) (κ.2.2.2.1 15) (κ.2.2.2.1 17) (κ.1 1).toInt) : Met l yX8_setField (Cond.code yX8_setField cX8_setField 6 (some (.object "PhraseDesk$Value")) :: GWc) ({ frames := 9, cells := 3, slots := 21, locals := 218 }) (PcC D cy ad A sz0 sa [.ref (ad 3), .ref k0, .int k1, .ref k2] κ sz sl) (va_Qq (fun (r : Option Nat) (u : Int32 × PL) => (EX κ.2.2.2.2 u.2) ∧ (PV sa u.2) ∧ (SV ad u.2 (κ.2.1 0) (κ.2.1 1) (κ.2.2.2.1 6) (κ.2.2.2.1 7) (κ.2.2.2.1 8) (κ.2.2.2.1 13) (κ.2.2.2.1 15) (κ.2.2.2.1 17) (κ.1 1).toInt) ∧ (NT u.2 1 r)) (fun (u : Int32 × PL) (t : State) => Bx D cy ad A sz sl (tP (tI κ 9 u.1) u.2) (3) (21) t) A) (3) (21) A := by
  refine CM_of (loc0 := [(0, .ref (ad 3)), (1, .ref k0), (2, .int k1), (3, .ref k2)]) (own := RX8) (nm := "setField") (by decide) rfl rfl rfl (Nat.le_of_ble_eq_true rfl) hAF hAn ?_
  intro p e s m below meth c ls hsz hsl C hP hS hl
  refine lv_aload_n C.x C.b dX8_setField_0 rfl (lv_at hl 1 rfl) ?_
  obtain ⟨x1, ex1⟩ : ∃ z, oR κ.2.2.2.2 1 k0 = z := ⟨_, rfl⟩
  refine pg_X10_4 (v := x1) C hP (t20 (a := k0) (t := 1) ht0) ex1 cw_720 dX8_setField_1 ?_
  have tx1 : NT κ.2.2.2.2 6 x1 := by rw [← ex1]; exact (hPV.t1 ht0).2.1
  cases x1 with
  | none =>
    refine lv_ifnonnullN C.x C.b dX8_setField_4 ?_
    refine lv_null C.x C.b dX8_setField_7 ?_
    refine lv_goto (tgt := 22) C.x C.b dX8_setField_8 (by decide) ?_
    refine lv_astoreN (lv' := [(4, .null), (0, .ref (ad 3)), (1, .ref k0), (2, .int k1), (3, .ref k2)]) C.x C.b dX8_setField_22 hl (by decide) rfl (fun ls hl => ?_)
    refine lv_aloadN C.x C.b dX8_setField_24 (lv_at hl 0 rfl) ?_
    refine lv_ifnullN (tgt := 36) C.x C.b dX8_setField_26 (by decide) ?_
    refine lv_aload_n C.x C.b dX8_setField_36 rfl (lv_at hl 1 rfl) ?_
    refine lv_iconst (v := 5) C.x C.b dX8_setField_37 (by decide +kernel) ?_
    refine c_callVq (n := 1) (As := [.int 5]) (rest := []) C hP hS hl.1 (NX8_fail l D cy ad A sz0 sa κ s.heap.size (SLT s.heap) C.f (fun q h => C.a q (Nat.le_trans hS.1 h)) (5 : Int32) ) ⟨cw_702, cw_695, by decide +kernel⟩ ⟨cw_703, cw_704, cw_705⟩ rfl (hP.recvS (k := 3) (ci := 10) C.K rfl rfl) rfl rfl (lv_room (Nat.le_of_ble_eq_true rfl)) ⟨Nat.le_of_ble_eq_true rfl, Nat.le_of_ble_eq_true rfl⟩ ⟨(Nat.le_of_ble_eq_true rfl), (Nat.le_of_ble_eq_true rfl)⟩ dX8_setField_38 (fun r3 u H locs hr3 hP hS => ?_)
    obtain ⟨n4, rfl⟩ : ∃ z, z = u := ⟨_, rfl⟩
    have hP : CH D cy ad A (tI κ 9 n4) H := hP
    have hr3 : (NT κ.2.2.2.2 1 r3) := hr3
    have hP : CH D cy ad A (tP (tI κ 9 n4) κ.2.2.2.2) H := CH.cong hP rfl rfl rfl rfl rfl rfl rfl rfl rfl rfl rfl rfl rfl rfl rfl rfl rfl rfl rfl rfl rfl rfl rfl rfl rfl rfl rfl
    exact c_retq (v := r3) (Or.inl ⟨_, rfl⟩) C hsz hsl ⟨n4, κ.2.2.2.2⟩ ⟨EX.rf, hPV, hSV, hr3⟩ hP hS ⟨(Nat.le_of_ble_eq_true rfl), (Nat.le_of_ble_eq_true rfl)⟩ ⟨(Nat.le_of_ble_eq_true rfl), (Nat.le_of_ble_eq_true rfl)⟩ dX8_setField_41
  | some b2 =>
    have hb2 : oT κ.2.2.2.2 b2 = 6 := tx1 b2 rfl
    refine lv_ifnonnull (tgt := 11) C.x C.b dX8_setField_4 (by decide) ?_
    refine lv_aload_n C.x C.b dX8_setField_11 rfl (lv_at hl 1 rfl) ?_
    refine pg_X10_4 (v := (some b2)) C hP (t20 (a := k0) (t := 1) ht0) ex1 cw_720 dX8_setField_12 ?_
    obtain ⟨x5, ex5, hx5⟩ := (hPV.t6 hb2).1
    refine pg_X9_1 (v := some x5) C hP (t20 (a := b2) (t := 6) hb2) ex5 cw_771 dX8_setField_15 ?_
    refine lv_iload_n C.x C.b dX8_setField_18 rfl (lv_at hl 2 rfl) ?_
    refine c_callVq (n := 1) (As := [.int k1]) (rest := []) C hP hS hl.1 (NX1_nearestField l D cy ad A sz0 sa κ s.heap.size (SLT s.heap) C.f (fun q h => C.a q (Nat.le_trans hS.1 h)) x5 k1 hx5 hPV) ⟨cw_856, cw_401, by decide +kernel⟩ ⟨cw_732, cw_733, cw_405⟩ rfl (hP.recvP (t := 3) (ci := 3) C.K (t20 (a := x5) (t := 3) hx5) (by decide) rfl rfl) rfl rfl (lv_room (Nat.le_of_ble_eq_true rfl)) ⟨Nat.le_of_ble_eq_true rfl, Nat.le_of_ble_eq_true rfl⟩ ⟨(Nat.le_of_ble_eq_true rfl), (Nat.le_of_ble_eq_true rfl)⟩ dX8_setField_19 (fun r6 u H locs hr6 hP hS => ?_)
    have hr6 : (NT κ.2.2.2.2 4 r6) := hr6
    refine lq_astore (lv' := [(4, va_rf r6), (0, .ref (ad 3)), (1, .ref k0), (2, .int k1), (3, .ref k2)]) C.x C.b dX8_setField_22 hl (by decide) (by cases r6 <;> rfl) (fun ls hl => ?_)
    refine lq_aload C.x C.b dX8_setField_24 (lv_at hl 0 rfl) ?_
    cases r6 with
    | none =>
      refine lv_ifnullN (tgt := 36) C.x C.b dX8_setField_26 (by decide) ?_
      refine lv_aload_n C.x C.b dX8_setField_36 rfl (lv_at hl 1 rfl) ?_
      refine lv_iconst (v := 5) C.x C.b dX8_setField_37 (by decide +kernel) ?_
      refine c_callVq (n := 1) (As := [.int 5]) (rest := []) C hP hS hl.1 (NX8_fail l D cy ad A sz0 sa κ H.size (SLT H) C.f (fun q h => C.a q (Nat.le_trans hS.1 h)) (5 : Int32) ) ⟨cw_702, cw_695, by decide +kernel⟩ ⟨cw_703, cw_704, cw_705⟩ rfl (hP.recvS (k := 3) (ci := 10) C.K rfl rfl) rfl rfl (lv_room (Nat.le_of_ble_eq_true rfl)) ⟨Nat.le_of_ble_eq_true rfl, Nat.le_of_ble_eq_true rfl⟩ ⟨(Nat.le_of_ble_eq_true rfl), (Nat.le_of_ble_eq_true rfl)⟩ dX8_setField_38 (fun r8 u H locs hr8 hP hS => ?_)
      obtain ⟨n9, rfl⟩ : ∃ z, z = u := ⟨_, rfl⟩
      have hP : CH D cy ad A (tI κ 9 n9) H := hP
      have hr8 : (NT κ.2.2.2.2 1 r8) := hr8
      have hP : CH D cy ad A (tP (tI κ 9 n9) κ.2.2.2.2) H := CH.cong hP rfl rfl rfl rfl rfl rfl rfl rfl rfl rfl rfl rfl rfl rfl rfl rfl rfl rfl rfl rfl rfl rfl rfl rfl rfl rfl rfl
      exact c_retq (v := r8) (Or.inl ⟨_, rfl⟩) C hsz hsl ⟨n9, κ.2.2.2.2⟩ ⟨EX.rf, hPV, hSV, hr8⟩ hP hS ⟨(Nat.le_of_ble_eq_true rfl), (Nat.le_of_ble_eq_true rfl)⟩ ⟨(Nat.le_of_ble_eq_true rfl), (Nat.le_of_ble_eq_true rfl)⟩ dX8_setField_41
    | some b7 =>
      have hb7 : oT κ.2.2.2.2 b7 = 4 := hr6 b7 rfl
      refine lv_ifnull C.x C.b dX8_setField_26 ?_
      refine lv_aload_n C.x C.b dX8_setField_29 rfl (lv_at hl 2 rfl) ?_
      refine pg_X10_4 (v := (some b2)) C hP (t20 (a := k0) (t := 1) ht0) ex1 cw_720 dX8_setField_30 ?_
      refine lv_ifnonnull (tgt := 42) C.x C.b dX8_setField_33 (by decide) ?_
      refine lv_aload_n C.x C.b dX8_setField_42 rfl (lv_at hl 1 rfl) ?_
      refine lv_aload_n C.x C.b dX8_setField_43 rfl (lv_at hl 4 rfl) ?_
      refine lv_aload C.x C.b dX8_setField_44 (lv_at hl 0 rfl) ?_
      obtain ⟨x10, ex10⟩ : ∃ z, oI κ.2.2.2.2 11 b7 = z := ⟨_, rfl⟩
      refine pg_X2_1 (v := x10) C hP (t20 (a := b7) (t := 4) hb7) ex10 cw_855 dX8_setField_46 ?_
      refine c_callVq (n := 2) (As := [.ref k2, .int x10]) (rest := []) C hP hS hl.1 (NX8_fit l D cy ad A sz0 sa κ H.size (SLT H) C.f (fun q h => C.a q (Nat.le_trans hS.1 h)) k2 x10 ht2 hPV hSV) ⟨cw_778, cw_781, by decide +kernel⟩ ⟨cw_779, cw_780, cw_705⟩ rfl (hP.recvS (k := 3) (ci := 10) C.K rfl rfl) rfl rfl (lv_room (Nat.le_of_ble_eq_true rfl)) ⟨Nat.le_of_ble_eq_true rfl, Nat.le_of_ble_eq_true rfl⟩ ⟨(Nat.le_of_ble_eq_true rfl), (Nat.le_of_ble_eq_true rfl)⟩ dX8_setField_49 (fun r11 u H locs hr11 hP hS => ?_)
      obtain ⟨n12, P13⟩ := u
      have hP : CH D cy ad A (tP (tI κ 9 n12) P13) H := hP
      have hr11 : (EX κ.2.2.2.2 P13) ∧ (PV sa P13) ∧ (SV ad P13 (κ.2.1 0) (κ.2.1 1) (κ.2.2.2.1 6) (κ.2.2.2.1 7) (κ.2.2.2.1 8) (κ.2.2.2.1 13) (κ.2.2.2.1 15) (κ.2.2.2.1 17) (κ.1 1).toInt) ∧ (NT P13 1 r11) := hr11
      obtain ⟨hr11_0, hr11_1, hr11_2, hr11_3⟩ := hr11
      refine lq_astore (lv' := [(5, va_rf r11), (4, .ref b7), (0, .ref (ad 3)), (1, .ref k0), (2, .int k1), (3, .ref k2)]) C.x C.b dX8_setField_52 hl (by decide) (by cases r11 <;> rfl) (fun ls hl => ?_)
      refine lq_aload C.x C.b dX8_setField_54 (lv_at hl 0 rfl) ?_
      cases r11 with
      | none =>
        refine lv_ifnullN (tgt := 70) C.x C.b dX8_setField_56 (by decide) ?_
        refine lv_aloadN C.x C.b dX8_setField_70 (lv_at hl 0 rfl) ?_
        exact c_retq (v := none) (Or.inl ⟨_, rfl⟩) C hsz hsl ⟨n12, P13⟩ ⟨hr11_0, hr11_1, hr11_2, nt_n⟩ hP hS ⟨(Nat.le_of_ble_eq_true rfl), (Nat.le_of_ble_eq_true rfl)⟩ ⟨(Nat.le_of_ble_eq_true rfl), (Nat.le_of_ble_eq_true rfl)⟩ dX8_setField_72
      | some b14 =>
        have hb14 : oT P13 b14 = 1 := hr11_3 b14 rfl
        refine lv_ifnull C.x C.b dX8_setField_56 ?_
        refine lv_aload_n C.x C.b dX8_setField_59 rfl (lv_at hl 3 rfl) ?_
        refine pg_X10_4 (v := (some b2)) C hP (t20 (a := k0) (t := 1) (hr11_0.T ht0 (by decide))) ((hr11_0.R (k := 1) ht0 (by decide) (by decide)).trans ex1) cw_720 dX8_setField_60 ?_
        refine lv_aload C.x C.b dX8_setField_63 (lv_at hl 1 rfl) ?_
        refine lv_aload C.x C.b dX8_setField_65 (lv_at hl 0 rfl) ?_
        refine c_callVv (n := 2) (As := [.ref b7, .ref b14]) (rest := []) C hP hS hl.1 (NX9_hold l D cy ad A sz0 sa (tP (tI κ 9 n12) P13) H.size (SLT H) C.f (fun q h => C.a q (Nat.le_trans hS.1 h)) b2 b7 b14 (hr11_0.T hb2 (by decide)) (hr11_0.T hb7 (by decide)) hb14 hr11_1) ⟨cw_857, cw_860, by decide +kernel⟩ ⟨cw_858, cw_859, cw_726⟩ rfl (hP.recvP (t := 6) (ci := 11) C.K (t20 (a := b2) (t := 6) (hr11_0.T hb2 (by decide))) (by decide) rfl rfl) rfl rfl (lv_room (Nat.le_of_ble_eq_true rfl)) ⟨Nat.le_of_ble_eq_true rfl, Nat.le_of_ble_eq_true rfl⟩ ⟨(Nat.le_of_ble_eq_true rfl), (Nat.le_of_ble_eq_true rfl)⟩ dX8_setField_67 (fun u H locs hr15 hP hS => ?_)
        obtain ⟨P16, rfl⟩ : ∃ z, z = u := ⟨_, rfl⟩
        have hP : CH D cy ad A (tP (tP (tI κ 9 n12) P13) P16) H := hP
        have hr15 : (EX P13 P16) ∧ (PV sa P16) := hr15
        obtain ⟨hr15_0, hr15_1⟩ := hr15
        have svz17 : SV ad P16 (κ.2.1 0) (κ.2.1 1) (κ.2.2.2.1 6) (κ.2.2.2.1 7) (κ.2.2.2.1 8) (κ.2.2.2.1 13) (κ.2.2.2.1 15) (κ.2.2.2.1 17) (κ.1 1).toInt := hr11_2.ex hr15_0
        refine lv_aload C.x C.b dX8_setField_70 (lv_at hl 0 rfl) ?_
        have hP : CH D cy ad A (tP (tI κ 9 n12) P16) H := CH.cong hP rfl rfl rfl rfl rfl rfl rfl rfl rfl rfl rfl rfl rfl rfl rfl rfl rfl rfl rfl rfl rfl rfl rfl rfl rfl rfl rfl
        exact c_retq (v := (some b14)) (Or.inl ⟨_, rfl⟩) C hsz hsl ⟨n12, P16⟩ ⟨(hr11_0.trans hr15_0), hr15_1, svz17, (nt_s (hr15_0.T hb14 (by decide)))⟩ hP hS ⟨(Nat.le_of_ble_eq_true rfl), (Nat.le_of_ble_eq_true rfl)⟩ ⟨(Nat.le_of_ble_eq_true rfl), (Nat.le_of_ble_eq_true rfl)⟩ dX8_setField_72
