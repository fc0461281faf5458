-- post @31
theorem vX11_familyAt_1 (κ : KS) (k0 : Int32) (hpre_0 : 0 ≤ (κ.1 1).toInt) (hpre_1 : (κ.1 1).toInt ≤ 5) (c1 : k0.toInt < 0) : ((0 ≤ k0.toInt ∧ k0.toInt < (κ.1 1).toInt) → on1 none = 1) ∧ (¬ (0 ≤ k0.toInt ∧ k0.toInt < (κ.1 1).toInt) → on1 none = 0) ∧ ((0 ≤ k0.toInt ∧ k0.toInt < (κ.1 1).toInt) → none = (κ.2.2.2.1 7) k0.toNatClampNeg) := by
  have zo0 : on1 none = 0 := rfl
  refine ⟨?_, ?_, ?_⟩
  · omega
  · omega
  · intro h9
    first | assumption | (exfalso; omega) | (subst_vars; rfl)
-- post @31
theorem vX11_familyAt_2 (κ : KS) (k0 : Int32) (hpre_0 : 0 ≤ (κ.1 1).toInt) (hpre_1 : (κ.1 1).toInt ≤ 5) (c1 : 0 ≤ k0.toInt) (c2 : (κ.1 1).toInt ≤ k0.toInt) : ((0 ≤ k0.toInt ∧ k0.toInt < (κ.1 1).toInt) → on1 none = 1) ∧ (¬ (0 ≤ k0.toInt ∧ k0.toInt < (κ.1 1).toInt) → on1 none = 0) ∧ ((0 ≤ k0.toInt ∧ k0.toInt < (κ.1 1).toInt) → none = (κ.2.2.2.1 7) k0.toNatClampNeg) := by
  have zo0 : on1 none = 0 := rfl
  refine ⟨?_, ?_, ?_⟩
  · omega
  · omega
  · intro h9
    first | assumption | (exfalso; omega) | (subst_vars; rfl)
-- post @31
theorem vX11_familyAt_3 (κ : KS) (k0 : Int32) (hpre_0 : 0 ≤ (κ.1 1).toInt) (hpre_1 : (κ.1 1).toInt ≤ 5) (c1 : 0 ≤ k0.toInt) (c2 : k0.toInt < (κ.1 1).toInt) (c4 : 5 ≤ k0.toInt) : ((0 ≤ k0.toInt ∧ k0.toInt < (κ.1 1).toInt) → on1 none = 1) ∧ (¬ (0 ≤ k0.toInt ∧ k0.toInt < (κ.1 1).toInt) → on1 none = 0) ∧ ((0 ≤ k0.toInt ∧ k0.toInt < (κ.1 1).toInt) → none = (κ.2.2.2.1 7) k0.toNatClampNeg) := by
  have zo0 : on1 none = 0 := rfl
  refine ⟨?_, ?_, ?_⟩
  · omega
  · omega
  · intro h9
    first | assumption | (exfalso; omega) | (subst_vars; rfl)
-- in@26 @26
theorem vX11_familyAt_4 (κ : KS) (k0 : Int32) (hpre_0 : 0 ≤ (κ.1 1).toInt) (hpre_1 : (κ.1 1).toInt ≤ 5) (c1 : 0 ≤ k0.toInt) (c2 : k0.toInt < (κ.1 1).toInt) (c4 : k0.toInt < 5) : vp_in k0 5 := by
  exact vp_in_iff.mpr ⟨by omega, by omega⟩
-- post @31
theorem vX11_familyAt_5 (κ : KS) (k0 : Int32) (x5 : Option Nat) (hpre_0 : 0 ≤ (κ.1 1).toInt) (hpre_1 : (κ.1 1).toInt ≤ 5) (c1 : 0 ≤ k0.toInt) (c2 : k0.toInt < (κ.1 1).toInt) (c4 : k0.toInt < 5) (ex5 : x5 = (κ.2.2.2.1 7) k0.toNatClampNeg) (fmx5 : k0.toInt < (κ.1 1).toInt → on1 x5 = 1) : ((0 ≤ k0.toInt ∧ k0.toInt < (κ.1 1).toInt) → on1 x5 = 1) ∧ (¬ (0 ≤ k0.toInt ∧ k0.toInt < (κ.1 1).toInt) → on1 x5 = 0) ∧ ((0 ≤ k0.toInt ∧ k0.toInt < (κ.1 1).toInt) → x5 = (κ.2.2.2.1 7) k0.toNatClampNeg) := by
  refine ⟨?_, ?_, ?_⟩
  · omega
  · omega
  · intro h9
    first | assumption | (exfalso; omega) | (subst_vars; rfl)
set_option maxHeartbeats 4000000 in
set_option maxRecDepth 100000 in
theorem NX11_familyAt (l : Launch) (D : va_G) (cy : Nat → ClassId) (ad : Nat → Nat) (A : Nat → Prop) (sz0 : Nat) (sa : Nat → Nat)  (κ : KS) (sz sl : Nat) (hAF : ∀ q, A q → Fr sz0 q) (hAn : ∀ q : Nat, sz ≤ q → A q) (k0 : Int32) (hPV : PV sa κ.2.2.2.2) (hSV : SV ad κ.2.2.2.2 (κ.2.1 0) (κ.2.1 1) (κ.2.2.2.1 6) (κ.2.2.2.1 7) (κ.2.2.2.1 8) (κ.2.2.2.1 13) (κ.2.2.2.1 15) (κ.2.2.2.1 17) (κ.1 1).toInt) (hpre : 0 ≤ (κ.1 1).toInt ∧ (κ.1 1).toInt ≤ 5) : Met l yX11_familyAt (Cond.code yX11_familyAt cX11_familyAt 2 (some (.object "PhraseDesk$Family")) :: GWc) ({ frames := 0, cells := 0, slots := 0, locals := 0 }) (PcC D cy ad A sz0 sa [.ref (ad 0), .int k0] κ sz sl) (va_Qq (fun (r : Option Nat) (u : Unit) => (NT κ.2.2.2.2 3 r) ∧ (((0 ≤ k0.toInt ∧ k0.toInt < (κ.1 1).toInt) → on1 r = 1) ∧ (¬ (0 ≤ k0.toInt ∧ k0.toInt < (κ.1 1).toInt) → on1 r = 0) ∧ ((0 ≤ k0.toInt ∧ k0.toInt < (κ.1 1).toInt) → r = (κ.2.2.2.1 7) k0.toNatClampNeg))) (fun (u : Unit) (t : State) => Bx D cy ad A sz sl κ (0) (0) t) A) (0) (0) A := by
  refine CM_of (loc0 := [(0, .ref (ad 0)), (1, .int k0)]) (own := RX11) (nm := "familyAt") (by decide) rfl rfl rfl (Nat.le_of_ble_eq_true rfl) hAF hAn ?_
  intro p e s m below meth c ls hsz hsl C hP hS hl
  obtain ⟨hpre_0, hpre_1⟩ := hpre
  refine lv_iload_n C.x C.b dX11_familyAt_0 rfl (lv_at hl 1 rfl) ?_
  refine lv_if_lt (tgt := 30) C.x C.b dX11_familyAt_1 (by decide) (fun c1 => ?_) (fun c1 => ?_)
  · have c1 : k0.toInt < 0 := by have h := z_lt c1; rw [show (0 : Int32).toInt = 0 from by decide +kernel] at h; exact h
    refine lv_null C.x C.b dX11_familyAt_30 ?_
    exact c_retq (v := none) (Or.inl ⟨_, rfl⟩) C hsz hsl () ⟨nt_n, (vX11_familyAt_1 κ k0 hpre_0 hpre_1 c1)⟩ hP hS ⟨(Nat.le_of_ble_eq_true rfl), (Nat.le_of_ble_eq_true rfl)⟩ ⟨(Nat.le_of_ble_eq_true rfl), (Nat.le_of_ble_eq_true rfl)⟩ dX11_familyAt_31
  · have c1 : 0 ≤ k0.toInt := by have h := z_nlt c1; rw [show (0 : Int32).toInt = 0 from by decide +kernel] at h; exact h
    refine lv_iload_n C.x C.b dX11_familyAt_4 rfl (lv_at hl 1 rfl) ?_
    refine lv_aload_n C.x C.b dX11_familyAt_5 rfl (lv_at hl 0 rfl) ?_
    refine cg_X11_5 (v := (κ.1 1)) C hP rfl cw_905 dX11_familyAt_6 ?_
    refine lv_icmp_ge (tgt := 30) C.x C.b dX11_familyAt_9 (by decide) (fun c2 => ?_) (fun c2 => ?_)
    · have c2 : (κ.1 1).toInt ≤ k0.toInt := by have h := z_le c2; exact h
      refine lv_null C.x C.b dX11_familyAt_30 ?_
      exact c_retq (v := none) (Or.inl ⟨_, rfl⟩) C hsz hsl () ⟨nt_n, (vX11_familyAt_2 κ k0 hpre_0 hpre_1 c1 c2)⟩ hP hS ⟨(Nat.le_of_ble_eq_true rfl), (Nat.le_of_ble_eq_true rfl)⟩ ⟨(Nat.le_of_ble_eq_true rfl), (Nat.le_of_ble_eq_true rfl)⟩ dX11_familyAt_31
    · have c2 : k0.toInt < (κ.1 1).toInt := by have h := z_nle c2; exact h
      refine lv_iload_n C.x C.b dX11_familyAt_12 rfl (lv_at hl 1 rfl) ?_
      refine lv_aload_n C.x C.b dX11_familyAt_13 rfl (lv_at hl 0 rfl) ?_
      refine cg_X11_4 C hP cw_878 dX11_familyAt_14 ?_
      refine cl_7 C hP dX11_familyAt_17 ?_
      refine lv_icmp_ge (tgt := 30) C.x C.b dX11_familyAt_18 (by decide) (fun c4 => ?_) (fun c4 => ?_)
      · have c4 : 5 ≤ k0.toInt := by have h := z_le c4; rw [show (5 : Int32).toInt = 5 from by decide +kernel] at h; exact h
        refine lv_null C.x C.b dX11_familyAt_30 ?_
        exact c_retq (v := none) (Or.inl ⟨_, rfl⟩) C hsz hsl () ⟨nt_n, (vX11_familyAt_3 κ k0 hpre_0 hpre_1 c1 c2 c4)⟩ hP hS ⟨(Nat.le_of_ble_eq_true rfl), (Nat.le_of_ble_eq_true rfl)⟩ ⟨(Nat.le_of_ble_eq_true rfl), (Nat.le_of_ble_eq_true rfl)⟩ dX11_familyAt_31
      · have c4 : k0.toInt < 5 := by have h := z_nle c4; rw [show (5 : Int32).toInt = 5 from by decide +kernel] at h; exact h
        refine lv_aload_n C.x C.b dX11_familyAt_21 rfl (lv_at hl 0 rfl) ?_
        refine cg_X11_4 C hP cw_878 dX11_familyAt_22 ?_
        refine lv_iload_n C.x C.b dX11_familyAt_25 rfl (lv_at hl 1 rfl) ?_
        refine ca_7 (f := (κ.2.2.2.1 7)) C hP rfl (vX11_familyAt_4 κ k0 hpre_0 hpre_1 c1 c2 c4) dX11_familyAt_26 (fun x5 ex5 => ?_)
        have tx5 : NT κ.2.2.2.2 3 x5 := by rw [ex5]; exact hSV.n7 _
        have fmx5 : k0.toInt < (κ.1 1).toInt → on1 x5 = 1 := by intro h9; obtain ⟨b, hb⟩ := hSV.fam (k0.toNatClampNeg) (by rw [clampZ (by omega)]; exact h9); rw [ex5, hb]; rfl
        refine lv_goto (tgt := 31) C.x C.b dX11_familyAt_27 (by decide) ?_
        exact c_retq (v := x5) (Or.inl ⟨_, rfl⟩) C hsz hsl () ⟨tx5, (vX11_familyAt_5 κ k0 x5 hpre_0 hpre_1 c1 c2 c4 ex5 fmx5)⟩ hP hS ⟨(Nat.le_of_ble_eq_true rfl), (Nat.le_of_ble_eq_true rfl)⟩ ⟨(Nat.le_of_ble_eq_true rfl), (Nat.le_of_ble_eq_true rfl)⟩ dX11_familyAt_31

-- in@26 @26
theorem vX11_objectAt_1 (κ : KS) (k0 : Int32) (c1 : 0 ≤ k0.toInt) (c2 : k0.toInt < (κ.1 2).toInt) (c4 : k0.toInt < 30) : vp_in k0 30 := by
  exact vp_in_iff.mpr ⟨by omega, by omega⟩
set_option maxHeartbeats 4000000 in
set_option maxRecDepth 100000 in
theorem NX11_objectAt (l : Launch) (D : va_G) (cy : Nat → ClassId) (ad : Nat → Nat) (A : Nat → Prop) (sz0 : Nat) (sa : Nat → Nat)  (κ : KS) (sz sl : Nat) (hAF : ∀ q, A q → Fr sz0 q) (hAn : ∀ q : Nat, sz ≤ q → A q) (k0 : Int32) (hPV : PV sa κ.2.2.2.2) (hSV : SV ad κ.2.2.2.2 (κ.2.1 0) (κ.2.1 1) (κ.2.2.2.1 6) (κ.2.2.2.1 7) (κ.2.2.2.1 8) (κ.2.2.2.1 13) (κ.2.2.2.1 15) (κ.2.2.2.1 17) (κ.1 1).toInt) : Met l yX11_objectAt (Cond.code yX11_objectAt cX11_objectAt 2 (some (.object "PhraseDesk$Value")) :: GWc) ({ frames := 0, cells := 0, slots := 0, locals := 0 }) (PcC D cy ad A sz0 sa [.ref (ad 0), .int k0] κ sz sl) (va_Qq (fun (r : Option Nat) (u : Unit) => (NT κ.2.2.2.2 1 r)) (fun (u : Unit) (t : State) => Bx D cy ad A sz sl κ (0) (0) t) A) (0) (0) A := by
  refine CM_of (loc0 := [(0, .ref (ad 0)), (1, .int k0)]) (own := RX11) (nm := "objectAt") (by decide) rfl rfl rfl (Nat.le_of_ble_eq_true rfl) hAF hAn ?_
  intro p e s m below meth c ls hsz hsl C hP hS hl
  refine lv_iload_n C.x C.b dX11_objectAt_0 rfl (lv_at hl 1 rfl) ?_
  refine lv_if_lt (tgt := 30) C.x C.b dX11_objectAt_1 (by decide) (fun c1 => ?_) (fun c1 => ?_)
  · have c1 : k0.toInt < 0 := by have h := z_lt c1; rw [show (0 : Int32).toInt = 0 from by decide +kernel] at h; exact h
    refine lv_null C.x C.b dX11_objectAt_30 ?_
    exact c_retq (v := none) (Or.inl ⟨_, rfl⟩) C hsz hsl () nt_n hP hS ⟨(Nat.le_of_ble_eq_true rfl), (Nat.le_of_ble_eq_true rfl)⟩ ⟨(Nat.le_of_ble_eq_true rfl), (Nat.le_of_ble_eq_true rfl)⟩ dX11_objectAt_31
  · have c1 : 0 ≤ k0.toInt := by have h := z_nlt c1; rw [show (0 : Int32).toInt = 0 from by decide +kernel] at h; exact h
    refine lv_iload_n C.x C.b dX11_objectAt_4 rfl (lv_at hl 1 rfl) ?_
    refine lv_aload_n C.x C.b dX11_objectAt_5 rfl (lv_at hl 0 rfl) ?_
    refine cg_X11_7 (v := (κ.1 2)) C hP rfl cw_916 dX11_objectAt_6 ?_
    refine lv_icmp_ge (tgt := 30) C.x C.b dX11_objectAt_9 (by decide) (fun c2 => ?_) (fun c2 => ?_)
    · have c2 : (κ.1 2).toInt ≤ k0.toInt := by have h := z_le c2; exact h
      refine lv_null C.x C.b dX11_objectAt_30 ?_
      exact c_retq (v := none) (Or.inl ⟨_, rfl⟩) C hsz hsl () nt_n hP hS ⟨(Nat.le_of_ble_eq_true rfl), (Nat.le_of_ble_eq_true rfl)⟩ ⟨(Nat.le_of_ble_eq_true rfl), (Nat.le_of_ble_eq_true rfl)⟩ dX11_objectAt_31
    · have c2 : k0.toInt < (κ.1 2).toInt := by have h := z_nle c2; exact h
      refine lv_iload_n C.x C.b dX11_objectAt_12 rfl (lv_at hl 1 rfl) ?_
      refine lv_aload_n C.x C.b dX11_objectAt_13 rfl (lv_at hl 0 rfl) ?_
      refine cg_X11_6 C hP cw_880 dX11_objectAt_14 ?_
      refine cl_8 C hP dX11_objectAt_17 ?_
      refine lv_icmp_ge (tgt := 30) C.x C.b dX11_objectAt_18 (by decide) (fun c4 => ?_) (fun c4 => ?_)
      · have c4 : 30 ≤ k0.toInt := by have h := z_le c4; rw [show (30 : Int32).toInt = 30 from by decide +kernel] at h; exact h
        refine lv_null C.x C.b dX11_objectAt_30 ?_
        exact c_retq (v := none) (Or.inl ⟨_, rfl⟩) C hsz hsl () nt_n hP hS ⟨(Nat.le_of_ble_eq_true rfl), (Nat.le_of_ble_eq_true rfl)⟩ ⟨(Nat.le_of_ble_eq_true rfl), (Nat.le_of_ble_eq_true rfl)⟩ dX11_objectAt_31
      · have c4 : k0.toInt < 30 := by have h := z_nle c4; rw [show (30 : Int32).toInt = 30 from by decide +kernel] at h; exact h
        refine lv_aload_n C.x C.b dX11_objectAt_21 rfl (lv_at hl 0 rfl) ?_
        refine cg_X11_6 C hP cw_880 dX11_objectAt_22 ?_
        refine lv_iload_n C.x C.b dX11_objectAt_25 rfl (lv_at hl 1 rfl) ?_
        refine ca_8 (f := (κ.2.2.2.1 8)) C hP rfl (vX11_objectAt_1 κ k0 c1 c2 c4) dX11_objectAt_26 (fun x5 ex5 => ?_)
        have tx5 : NT κ.2.2.2.2 1 x5 := by rw [ex5]; exact hSV.n8 _
        refine lv_goto (tgt := 31) C.x C.b dX11_objectAt_27 (by decide) ?_
        exact c_retq (v := x5) (Or.inl ⟨_, rfl⟩) C hsz hsl () tx5 hP hS ⟨(Nat.le_of_ble_eq_true rfl), (Nat.le_of_ble_eq_true rfl)⟩ ⟨(Nat.le_of_ble_eq_true rfl), (Nat.le_of_ble_eq_true rfl)⟩ dX11_objectAt_31

-- retz @16
theorem vX11_isName_1   : 0 ≤ (0 : Int32).toInt ∧ (0 : Int32).toInt ≤ 1 := by
  have q0 : (0 : Int32).toInt = 0 := by decide +kernel
  refine ⟨?_, ?_⟩ <;> first | assumption | omega | (subst_vars; omega) | trivial
-- post @16
theorem vX11_isName_2 (k0 : Int32) (c1 : k0.toInt < 1) : ((1 ≤ k0.toInt ∧ k0.toInt ≤ 14348906) → (0 : Int32).toInt = 1) ∧ (¬ (1 ≤ k0.toInt ∧ k0.toInt ≤ 14348906) → (0 : Int32).toInt = 0) := by
  have q0 : (0 : Int32).toInt = 0 := by decide +kernel
  refine ⟨?_, ?_⟩ <;> first | assumption | omega | (subst_vars; omega) | trivial
-- post @16
theorem vX11_isName_3 (k0 : Int32) (c1 : 1 ≤ k0.toInt) (c2 : 14348906 < k0.toInt) : ((1 ≤ k0.toInt ∧ k0.toInt ≤ 14348906) → (0 : Int32).toInt = 1) ∧ (¬ (1 ≤ k0.toInt ∧ k0.toInt ≤ 14348906) → (0 : Int32).toInt = 0) := by
  have q0 : (0 : Int32).toInt = 0 := by decide +kernel
  refine ⟨?_, ?_⟩ <;> first | assumption | omega | (subst_vars; omega) | trivial
-- retz @16
theorem vX11_isName_4   : 0 ≤ (1 : Int32).toInt ∧ (1 : Int32).toInt ≤ 1 := by
  have q1 : (1 : Int32).toInt = 1 := by decide +kernel
  refine ⟨?_, ?_⟩ <;> first | assumption | omega | (subst_vars; omega) | trivial
-- post @16
theorem vX11_isName_5 (k0 : Int32) (c1 : 1 ≤ k0.toInt) (c2 : k0.toInt ≤ 14348906) : ((1 ≤ k0.toInt ∧ k0.toInt ≤ 14348906) → (1 : Int32).toInt = 1) ∧ (¬ (1 ≤ k0.toInt ∧ k0.toInt ≤ 14348906) → (1 : Int32).toInt = 0) := by
  have q1 : (1 : Int32).toInt = 1 := by decide +kernel
  refine ⟨?_, ?_⟩ <;> first | assumption | omega | (subst_vars; omega) | trivial
set_option maxHeartbeats 4000000 in
set_option maxRecDepth 100000 in
theorem NX11_isName (l : Launch) (D : va_G) (cy : Nat → ClassId) (ad : Nat → Nat) (A : Nat → Prop) (sz0 : Nat) (sa : Nat → Nat)  (κ : KS) (sz sl : Nat) (hAF : ∀ q, A q → Fr sz0 q) (hAn : ∀ q : Nat, sz ≤ q → A q) (k0 : Int32)  : Met l yX11_isName (Cond.code yX11_isName cX11_isName 1 (some .boolean) :: GWc) ({ frames := 0, cells := 0, slots := 0, locals := 0 }) (PcC D cy ad A sz0 sa [.int k0] κ sz sl) (va_Qi (fun (r : Int32) (u : Unit) => (0 ≤ r.toInt ∧ r.toInt ≤ 1) ∧ (((1 ≤ k0.toInt ∧ k0.toInt ≤ 14348906) → r.toInt = 1) ∧ (¬ (1 ≤ k0.toInt ∧ k0.toInt ≤ 14348906) → r.toInt = 0))) (fun (u : Unit) (t : State) => Bx D cy ad A sz sl κ (0) (0) t) A) (0) (0) A := by
  refine CM_of (loc0 := [(0, .int k0)]) (own := RX11) (nm := "isName") (by decide) rfl rfl rfl (Nat.le_of_ble_eq_true rfl) hAF hAn ?_
  intro p e s m below meth c ls hsz hsl C hP hS hl
  refine lv_iload_n C.x C.b dX11_isName_0 rfl (lv_at hl 0 rfl) ?_
  refine lv_iconst (v := 1) C.x C.b dX11_isName_1 (by decide +kernel) ?_
  refine lv_icmp_lt (tgt := 15) C.x C.b dX11_isName_2 (by decide) (fun c1 => ?_) (fun c1 => ?_)
  · have c1 : k0.toInt < 1 := by have h := z_lt c1; rw [show (1 : Int32).toInt = 1 from by decide +kernel] at h; exact h
    refine lv_iconst (v := 0) C.x C.b dX11_isName_15 (by decide +kernel) ?_
    exact c_retz (ty := .boolean) (hv := rfl) C hsz hsl () ⟨(vX11_isName_1  ), (vX11_isName_2 k0 c1)⟩ hP hS ⟨(Nat.le_of_ble_eq_true rfl), (Nat.le_of_ble_eq_true rfl)⟩ ⟨(Nat.le_of_ble_eq_true rfl), (Nat.le_of_ble_eq_true rfl)⟩ dX11_isName_16
  · have c1 : 1 ≤ k0.toInt := by have h := z_nlt c1; rw [show (1 : Int32).toInt = 1 from by decide +kernel] at h; exact h
    refine lv_iload_n C.x C.b dX11_isName_5 rfl (lv_at hl 0 rfl) ?_
    refine lv_ldc (v := 14348906) C.x C.b C.o (C.w _ cw_920) dX11_isName_6 ?_
    refine lv_icmp_gt (tgt := 15) C.x C.b dX11_isName_8 (by decide) (fun c2 => ?_) (fun c2 => ?_)
    · have c2 : 14348906 < k0.toInt := by have h := z_lt c2; rw [show (14348906 : Int32).toInt = 14348906 from by decide +kernel] at h; exact h
      refine lv_iconst (v := 0) C.x C.b dX11_isName_15 (by decide +kernel) ?_
      exact c_retz (ty := .boolean) (hv := rfl) C hsz hsl () ⟨(vX11_isName_1  ), (vX11_isName_3 k0 c1 c2)⟩ hP hS ⟨(Nat.le_of_ble_eq_true rfl), (Nat.le_of_ble_eq_true rfl)⟩ ⟨(Nat.le_of_ble_eq_true rfl), (Nat.le_of_ble_eq_true rfl)⟩ dX11_isName_16
    · have c2 : k0.toInt ≤ 14348906 := by have h := z_nlt c2; rw [show (14348906 : Int32).toInt = 14348906 from by decide +kernel] at h; exact h
      refine lv_iconst (v := 1) C.x C.b dX11_isName_11 (by decide +kernel) ?_
      refine lv_goto (tgt := 16) C.x C.b dX11_isName_12 (by decide) ?_
      exact c_retz (ty := .boolean) (hv := rfl) C hsz hsl () ⟨(vX11_isName_4  ), (vX11_isName_5 k0 c1 c2)⟩ hP hS ⟨(Nat.le_of_ble_eq_true rfl), (Nat.le_of_ble_eq_true rfl)⟩ ⟨(Nat.le_of_ble_eq_true rfl), (Nat.le_of_ble_eq_true rfl)⟩ dX11_isName_16

-- retz @32
theorem vX11_isType_1   : 0 ≤ (0 : Int32).toInt ∧ (0 : Int32).toInt ≤ 1 := by
  have q0 : (0 : Int32).toInt = 0 := by decide +kernel
  refine ⟨?_, ?_⟩ <;> first | assumption | omega | (subst_vars; omega) | trivial
-- post @32
theorem vX11_isType_2 (κ : KS) (k0 : Int32) (hpre_0 : 0 ≤ (κ.1 1).toInt) (hpre_1 : (κ.1 1).toInt ≤ 5) (c1 : k0.toInt < 1) (c2 : k0.toInt < 8) : (((1 ≤ k0.toInt ∧ k0.toInt ≤ 5) ∨ (8 ≤ k0.toInt ∧ k0.toInt < 8 + (κ.1 1).toInt)) → (0 : Int32).toInt = 1) ∧ (¬ ((1 ≤ k0.toInt ∧ k0.toInt ≤ 5) ∨ (8 ≤ k0.toInt ∧ k0.toInt < 8 + (κ.1 1).toInt)) → (0 : Int32).toInt = 0) := by
  have q0 : (0 : Int32).toInt = 0 := by decide +kernel
  refine ⟨?_, ?_⟩ <;> first | assumption | omega | (subst_vars; omega) | trivial
-- dead@13 @16
theorem vX11_isType_3 (k0 : Int32) (c1 : k0.toInt < 1) (c2 : 8 ≤ k0.toInt) : False := by
  first | assumption | omega | (subst_vars; omega) | trivial
-- retz @32
theorem vX11_isType_4   : 0 ≤ (1 : Int32).toInt ∧ (1 : Int32).toInt ≤ 1 := by
  have q1 : (1 : Int32).toInt = 1 := by decide +kernel
  refine ⟨?_, ?_⟩ <;> first | assumption | omega | (subst_vars; omega) | trivial
-- post @32
theorem vX11_isType_5 (κ : KS) (k0 : Int32) (hpre_0 : 0 ≤ (κ.1 1).toInt) (hpre_1 : (κ.1 1).toInt ≤ 5) (c1 : 1 ≤ k0.toInt) (c3 : k0.toInt ≤ 5) : (((1 ≤ k0.toInt ∧ k0.toInt ≤ 5) ∨ (8 ≤ k0.toInt ∧ k0.toInt < 8 + (κ.1 1).toInt)) → (1 : Int32).toInt = 1) ∧ (¬ ((1 ≤ k0.toInt ∧ k0.toInt ≤ 5) ∨ (8 ≤ k0.toInt ∧ k0.toInt < 8 + (κ.1 1).toInt)) → (1 : Int32).toInt = 0) := by
  have q1 : (1 : Int32).toInt = 1 := by decide +kernel
  refine ⟨?_, ?_⟩ <;> first | assumption | omega | (subst_vars; omega) | trivial
-- post @32
theorem vX11_isType_6 (κ : KS) (k0 : Int32) (hpre_0 : 0 ≤ (κ.1 1).toInt) (hpre_1 : (κ.1 1).toInt ≤ 5) (c1 : 1 ≤ k0.toInt) (c3 : 5 < k0.toInt) (c4 : k0.toInt < 8) : (((1 ≤ k0.toInt ∧ k0.toInt ≤ 5) ∨ (8 ≤ k0.toInt ∧ k0.toInt < 8 + (κ.1 1).toInt)) → (0 : Int32).toInt = 1) ∧ (¬ ((1 ≤ k0.toInt ∧ k0.toInt ≤ 5) ∨ (8 ≤ k0.toInt ∧ k0.toInt < 8 + (κ.1 1).toInt)) → (0 : Int32).toInt = 0) := by
  have q0 : (0 : Int32).toInt = 0 := by decide +kernel
  refine ⟨?_, ?_⟩ <;> first | assumption | omega | (subst_vars; omega) | trivial
-- nw@23 @23
theorem vX11_isType_7 (κ : KS) (x5 : Int32) (hpre_0 : 0 ≤ (κ.1 1).toInt) (hpre_1 : (κ.1 1).toInt ≤ 5) (ex5 : x5 = (8 : Int32) + (κ.1 1)) : x5.toInt = 8 + (κ.1 1).toInt := by
  have q8 : (8 : Int32).toInt = 8 := by decide +kernel
  have w0 : (8 : Int32).toInt = 8 := by decide +kernel
  rw [ex5, z_add (by omega) (by omega)]; first | done | omega
-- post @32
theorem vX11_isType_8 (κ : KS) (k0 : Int32) (x5 : Int32) (hpre_0 : 0 ≤ (κ.1 1).toInt) (hpre_1 : (κ.1 1).toInt ≤ 5) (c1 : 1 ≤ k0.toInt) (c3 : 5 < k0.toInt) (c4 : 8 ≤ k0.toInt) (ex5 : x5 = (8 : Int32) + (κ.1 1)) (tx5 : x5.toInt = 8 + (κ.1 1).toInt) (c6 : x5.toInt ≤ k0.toInt) : (((1 ≤ k0.toInt ∧ k0.toInt ≤ 5) ∨ (8 ≤ k0.toInt ∧ k0.toInt < 8 + (κ.1 1).toInt)) → (0 : Int32).toInt = 1) ∧ (¬ ((1 ≤ k0.toInt ∧ k0.toInt ≤ 5) ∨ (8 ≤ k0.toInt ∧ k0.toInt < 8 + (κ.1 1).toInt)) → (0 : Int32).toInt = 0) := by
  have q0 : (0 : Int32).toInt = 0 := by decide +kernel
  have q8 : (8 : Int32).toInt = 8 := by decide +kernel
  refine ⟨?_, ?_⟩ <;> first | assumption | omega | (subst_vars; omega) | trivial
-- post @32
theorem vX11_isType_9 (κ : KS) (k0 : Int32) (x5 : Int32) (hpre_0 : 0 ≤ (κ.1 1).toInt) (hpre_1 : (κ.1 1).toInt ≤ 5) (c1 : 1 ≤ k0.toInt) (c3 : 5 < k0.toInt) (c4 : 8 ≤ k0.toInt) (ex5 : x5 = (8 : Int32) + (κ.1 1)) (tx5 : x5.toInt = 8 + (κ.1 1).toInt) (c6 : k0.toInt < x5.toInt) : (((1 ≤ k0.toInt ∧ k0.toInt ≤ 5) ∨ (8 ≤ k0.toInt ∧ k0.toInt < 8 + (κ.1 1).toInt)) → (1 : Int32).toInt = 1) ∧ (¬ ((1 ≤ k0.toInt ∧ k0.toInt ≤ 5) ∨ (8 ≤ k0.toInt ∧ k0.toInt < 8 + (κ.1 1).toInt)) → (1 : Int32).toInt = 0) := by
  have q1 : (1 : Int32).toInt = 1 := by decide +kernel
  have q8 : (8 : Int32).toInt = 8 := by decide +kernel
  refine ⟨?_, ?_⟩ <;> first | assumption | omega | (subst_vars; omega) | trivial
set_option maxHeartbeats 4000000 in
set_option maxRecDepth 100000 in
theorem NX11_isType (l : Launch) (D : va_G) (cy : Nat → ClassId) (ad : Nat → Nat) (A : Nat → Prop) (sz0 : Nat) (sa : Nat → Nat)  (κ : KS) (sz sl : Nat) (hAF : ∀ q, A q → Fr sz0 q) (hAn : ∀ q : Nat, sz ≤ q → A q) (k0 : Int32) (hpre : 0 ≤ (κ.1 1).toInt ∧ (κ.1 1).toInt ≤ 5) : Met l yX11_isType (Cond.code yX11_isType cX11_isType 2 (some .boolean) :: GWc) ({ frames := 0, cells := 0, slots := 0, locals := 0 }) (PcC D cy ad A sz0 sa [.ref (ad 0), .int k0] κ sz sl) (va_Qi (fun (r : Int32) (u : Unit) => (0 ≤ r.toInt ∧ r.toInt ≤ 1) ∧ ((((1 ≤ k0.toInt ∧ k0.toInt ≤ 5) ∨ (8 ≤ k0.toInt ∧ k0.toInt < 8 + (κ.1 1).toInt)) → r.toInt = 1) ∧ (¬ ((1 ≤ k0.toInt ∧ k0.toInt ≤ 5) ∨ (8 ≤ k0.toInt ∧ k0.toInt < 8 + (κ.1 1).toInt)) → r.toInt = 0))) (fun (u : Unit) (t : State) => Bx D cy ad A sz sl κ (0) (0) t) A) (0) (0) A := by
  refine CM_of (loc0 := [(0, .ref (ad 0)), (1, .int k0)]) (own := RX11) (nm := "isType") (by decide) rfl rfl rfl (Nat.le_of_ble_eq_true rfl) hAF hAn ?_
  intro p e s m below meth c ls hsz hsl C hP hS hl
  obtain ⟨hpre_0, hpre_1⟩ := hpre
  refine lv_iload_n C.x C.b dX11_isType_0 rfl (lv_at hl 1 rfl) ?_
  refine lv_iconst (v := 1) C.x C.b dX11_isType_1 (by decide +kernel) ?_
  refine lv_icmp_lt (tgt := 10) C.x C.b dX11_isType_2 (by decide) (fun c1 => ?_) (fun c1 => ?_)
  · have c1 : k0.toInt < 1 := by have h := z_lt c1; rw [show (1 : Int32).toInt = 1 from by decide +kernel] at h; exact h
    refine lv_iload_n C.x C.b dX11_isType_10 rfl (lv_at hl 1 rfl) ?_
    refine lv_bipush (v := 8) C.x C.b dX11_isType_11 (by decide +kernel) ?_
    refine lv_icmp_lt (tgt := 31) C.x C.b dX11_isType_13 (by decide) (fun c2 => ?_) (fun c2 => ?_)
    · have c2 : k0.toInt < 8 := by have h := z_lt c2; rw [show (8 : Int32).toInt = 8 from by decide +kernel] at h; exact h
      refine lv_iconst (v := 0) C.x C.b dX11_isType_31 (by decide +kernel) ?_
      exact c_retz (ty := .boolean) (hv := rfl) C hsz hsl () ⟨(vX11_isType_1  ), (vX11_isType_2 κ k0 hpre_0 hpre_1 c1 c2)⟩ hP hS ⟨(Nat.le_of_ble_eq_true rfl), (Nat.le_of_ble_eq_true rfl)⟩ ⟨(Nat.le_of_ble_eq_true rfl), (Nat.le_of_ble_eq_true rfl)⟩ dX11_isType_32
    · have c2 : 8 ≤ k0.toInt := by have h := z_nlt c2; rw [show (8 : Int32).toInt = 8 from by decide +kernel] at h; exact h
      exact absurd (vX11_isType_3 k0 c1 c2) id
  · have c1 : 1 ≤ k0.toInt := by have h := z_nlt c1; rw [show (1 : Int32).toInt = 1 from by decide +kernel] at h; exact h
    refine lv_iload_n C.x C.b dX11_isType_5 rfl (lv_at hl 1 rfl) ?_
    refine lv_iconst (v := 5) C.x C.b dX11_isType_6 (by decide +kernel) ?_
    refine lv_icmp_le (tgt := 27) C.x C.b dX11_isType_7 (by decide) (fun c3 => ?_) (fun c3 => ?_)
    · have c3 : k0.toInt ≤ 5 := by have h := z_le c3; rw [show (5 : Int32).toInt = 5 from by decide +kernel] at h; exact h
      refine lv_iconst (v := 1) C.x C.b dX11_isType_27 (by decide +kernel) ?_
      refine lv_goto (tgt := 32) C.x C.b dX11_isType_28 (by decide) ?_
      exact c_retz (ty := .boolean) (hv := rfl) C hsz hsl () ⟨(vX11_isType_4  ), (vX11_isType_5 κ k0 hpre_0 hpre_1 c1 c3)⟩ hP hS ⟨(Nat.le_of_ble_eq_true rfl), (Nat.le_of_ble_eq_true rfl)⟩ ⟨(Nat.le_of_ble_eq_true rfl), (Nat.le_of_ble_eq_true rfl)⟩ dX11_isType_32
    · have c3 : 5 < k0.toInt := by have h := z_nle c3; rw [show (5 : Int32).toInt = 5 from by decide +kernel] at h; exact h
      refine lv_iload_n C.x C.b dX11_isType_10 rfl (lv_at hl 1 rfl) ?_
      refine lv_bipush (v := 8) C.x C.b dX11_isType_11 (by decide +kernel) ?_
      refine lv_icmp_lt (tgt := 31) C.x C.b dX11_isType_13 (by decide) (fun c4 => ?_) (fun c4 => ?_)
      · have c4 : k0.toInt < 8 := by have h := z_lt c4; rw [show (8 : Int32).toInt = 8 from by decide +kernel] at h; exact h
        refine lv_iconst (v := 0) C.x C.b dX11_isType_31 (by decide +kernel) ?_
        exact c_retz (ty := .boolean) (hv := rfl) C hsz hsl () ⟨(vX11_isType_1  ), (vX11_isType_6 κ k0 hpre_0 hpre_1 c1 c3 c4)⟩ hP hS ⟨(Nat.le_of_ble_eq_true rfl), (Nat.le_of_ble_eq_true rfl)⟩ ⟨(Nat.le_of_ble_eq_true rfl), (Nat.le_of_ble_eq_true rfl)⟩ dX11_isType_32
      · have c4 : 8 ≤ k0.toInt := by have h := z_nlt c4; rw [show (8 : Int32).toInt = 8 from by decide +kernel] at h; exact h
        refine lv_iload_n C.x C.b dX11_isType_16 rfl (lv_at hl 1 rfl) ?_
        refine lv_bipush (v := 8) C.x C.b dX11_isType_17 (by decide +kernel) ?_
        refine lv_aload_n C.x C.b dX11_isType_19 rfl (lv_at hl 0 rfl) ?_
        refine cg_X11_5 (v := (κ.1 1)) C hP rfl cw_905 dX11_isType_20 ?_
        refine lv_iadd C.x C.b dX11_isType_23 ?_
        refine lv_topi (fun x5 ex5 => ?_)
        have tx5 : x5.toInt = 8 + (κ.1 1).toInt := (vX11_isType_7 κ x5 hpre_0 hpre_1 ex5)
        refine lv_icmp_ge (tgt := 31) C.x C.b dX11_isType_24 (by decide) (fun c6 => ?_) (fun c6 => ?_)
        · have c6 : x5.toInt ≤ k0.toInt := by have h := z_le c6; exact h
          refine lv_iconst (v := 0) C.x C.b dX11_isType_31 (by decide +kernel) ?_
          exact c_retz (ty := .boolean) (hv := rfl) C hsz hsl () ⟨(vX11_isType_1  ), (vX11_isType_8 κ k0 x5 hpre_0 hpre_1 c1 c3 c4 ex5 tx5 c6)⟩ hP hS ⟨(Nat.le_of_ble_eq_true rfl), (Nat.le_of_ble_eq_true rfl)⟩ ⟨(Nat.le_of_ble_eq_true rfl), (Nat.le_of_ble_eq_true rfl)⟩ dX11_isType_32
        · have c6 : k0.toInt < x5.toInt := by have h := z_nle c6; exact h
          refine lv_iconst (v := 1) C.x C.b dX11_isType_27 (by decide +kernel) ?_
          refine lv_goto (tgt := 32) C.x C.b dX11_isType_28 (by decide) ?_
          exact c_retz (ty := .boolean) (hv := rfl) C hsz hsl () ⟨(vX11_isType_4  ), (vX11_isType_9 κ k0 x5 hpre_0 hpre_1 c1 c3 c4 ex5 tx5 c6)⟩ hP hS ⟨(Nat.le_of_ble_eq_true rfl), (Nat.le_of_ble_eq_true rfl)⟩ ⟨(Nat.le_of_ble_eq_true rfl), (Nat.le_of_ble_eq_true rfl)⟩ dX11_isType_32

-- pre:X11_isType@16 @16
theorem vX11_areParameters_1 (κ : KS) (hpre_0 : 0 ≤ (κ.1 1).toInt) (hpre_1 : (κ.1 1).toInt ≤ 5) : 0 ≤ (κ.1 1).toInt ∧ (κ.1 1).toInt ≤ 5 := by
  refine ⟨?_, ?_⟩ <;> first | assumption | omega | (subst_vars; omega) | trivial
-- retz @39
theorem vX11_areParameters_2   : 0 ≤ (0 : Int32).toInt ∧ (0 : Int32).toInt ≤ 1 := by
  have q0 : (0 : Int32).toInt = 0 := by decide +kernel
  refine ⟨?_, ?_⟩ <;> first | assumption | omega | (subst_vars; omega) | trivial
-- post @39
theorem vX11_areParameters_3 (κ : KS) (k0 : Int32) (k1 : Int32) (r2 : Int32) (hpre_0 : 0 ≤ (κ.1 1).toInt) (hpre_1 : (κ.1 1).toInt ≤ 5) (c1 : ¬ k0.toInt = 0) (hr2_0_0 : 0 ≤ r2.toInt) (hr2_0_1 : r2.toInt ≤ 1) (hr2_1_0 : ((1 ≤ k0.toInt ∧ k0.toInt ≤ 5) ∨ (8 ≤ k0.toInt ∧ k0.toInt < 8 + (κ.1 1).toInt)) → r2.toInt = 1) (hr2_1_1 : ¬ ((1 ≤ k0.toInt ∧ k0.toInt ≤ 5) ∨ (8 ≤ k0.toInt ∧ k0.toInt < 8 + (κ.1 1).toInt)) → r2.toInt = 0) (c3 : r2.toInt = 0) : (((k0.toInt = 0 ∧ k1.toInt = 0) ∨ (¬ k0.toInt = 0 ∧ ((1 ≤ k0.toInt ∧ k0.toInt ≤ 5) ∨ (8 ≤ k0.toInt ∧ k0.toInt < 8 + (κ.1 1).toInt)) ∧ (k1.toInt = 0 ∨ ((1 ≤ k1.toInt ∧ k1.toInt ≤ 5) ∨ (8 ≤ k1.toInt ∧ k1.toInt < 8 + (κ.1 1).toInt))))) → (0 : Int32).toInt = 1) ∧ (¬ ((k0.toInt = 0 ∧ k1.toInt = 0) ∨ (¬ k0.toInt = 0 ∧ ((1 ≤ k0.toInt ∧ k0.toInt ≤ 5) ∨ (8 ≤ k0.toInt ∧ k0.toInt < 8 + (κ.1 1).toInt)) ∧ (k1.toInt = 0 ∨ ((1 ≤ k1.toInt ∧ k1.toInt ≤ 5) ∨ (8 ≤ k1.toInt ∧ k1.toInt < 8 + (κ.1 1).toInt))))) → (0 : Int32).toInt = 0) := by
  have q0 : (0 : Int32).toInt = 0 := by decide +kernel
  refine ⟨?_, ?_⟩ <;> first | assumption | omega | (subst_vars; omega) | trivial
-- retz @39
theorem vX11_areParameters_4   : 0 ≤ (1 : Int32).toInt ∧ (1 : Int32).toInt ≤ 1 := by
  have q1 : (1 : Int32).toInt = 1 := by decide +kernel
  refine ⟨?_, ?_⟩ <;> first | assumption | omega | (subst_vars; omega) | trivial
-- post @39
theorem vX11_areParameters_5 (κ : KS) (k0 : Int32) (k1 : Int32) (r2 : Int32) (hpre_0 : 0 ≤ (κ.1 1).toInt) (hpre_1 : (κ.1 1).toInt ≤ 5) (c1 : ¬ k0.toInt = 0) (hr2_0_0 : 0 ≤ r2.toInt) (hr2_0_1 : r2.toInt ≤ 1) (hr2_1_0 : ((1 ≤ k0.toInt ∧ k0.toInt ≤ 5) ∨ (8 ≤ k0.toInt ∧ k0.toInt < 8 + (κ.1 1).toInt)) → r2.toInt = 1) (hr2_1_1 : ¬ ((1 ≤ k0.toInt ∧ k0.toInt ≤ 5) ∨ (8 ≤ k0.toInt ∧ k0.toInt < 8 + (κ.1 1).toInt)) → r2.toInt = 0) (c3 : ¬ r2.toInt = 0) (c4 : k1.toInt = 0) : (((k0.toInt = 0 ∧ k1.toInt = 0) ∨ (¬ k0.toInt = 0 ∧ ((1 ≤ k0.toInt ∧ k0.toInt ≤ 5) ∨ (8 ≤ k0.toInt ∧ k0.toInt < 8 + (κ.1 1).toInt)) ∧ (k1.toInt = 0 ∨ ((1 ≤ k1.toInt ∧ k1.toInt ≤ 5) ∨ (8 ≤ k1.toInt ∧ k1.toInt < 8 + (κ.1 1).toInt))))) → (1 : Int32).toInt = 1) ∧ (¬ ((k0.toInt = 0 ∧ k1.toInt = 0) ∨ (¬ k0.toInt = 0 ∧ ((1 ≤ k0.toInt ∧ k0.toInt ≤ 5) ∨ (8 ≤ k0.toInt ∧ k0.toInt < 8 + (κ.1 1).toInt)) ∧ (k1.toInt = 0 ∨ ((1 ≤ k1.toInt ∧ k1.toInt ≤ 5) ∨ (8 ≤ k1.toInt ∧ k1.toInt < 8 + (κ.1 1).toInt))))) → (1 : Int32).toInt = 0) := by
  have q1 : (1 : Int32).toInt = 1 := by decide +kernel
  refine ⟨?_, ?_⟩ <;> first | assumption | omega | (subst_vars; omega) | trivial
-- pre:X11_isType@28 @28
theorem vX11_areParameters_6 (κ : KS) (k0 : Int32) (r2 : Int32) (hpre_0 : 0 ≤ (κ.1 1).toInt) (hpre_1 : (κ.1 1).toInt ≤ 5) (c1 : ¬ k0.toInt = 0) (hr2_0_0 : 0 ≤ r2.toInt) (hr2_0_1 : r2.toInt ≤ 1) (hr2_1_0 : ((1 ≤ k0.toInt ∧ k0.toInt ≤ 5) ∨ (8 ≤ k0.toInt ∧ k0.toInt < 8 + (κ.1 1).toInt)) → r2.toInt = 1) (hr2_1_1 : ¬ ((1 ≤ k0.toInt ∧ k0.toInt ≤ 5) ∨ (8 ≤ k0.toInt ∧ k0.toInt < 8 + (κ.1 1).toInt)) → r2.toInt = 0) (c3 : ¬ r2.toInt = 0) : 0 ≤ (κ.1 1).toInt ∧ (κ.1 1).toInt ≤ 5 := by
  refine ⟨?_, ?_⟩ <;> first | assumption | omega | (subst_vars; omega) | trivial
-- post @39
theorem vX11_areParameters_7 (κ : KS) (k0 : Int32) (k1 : Int32) (r2 : Int32) (r5 : Int32) (hpre_0 : 0 ≤ (κ.1 1).toInt) (hpre_1 : (κ.1 1).toInt ≤ 5) (c1 : ¬ k0.toInt = 0) (hr2_0_0 : 0 ≤ r2.toInt) (hr2_0_1 : r2.toInt ≤ 1) (hr2_1_0 : ((1 ≤ k0.toInt ∧ k0.toInt ≤ 5) ∨ (8 ≤ k0.toInt ∧ k0.toInt < 8 + (κ.1 1).toInt)) → r2.toInt = 1) (hr2_1_1 : ¬ ((1 ≤ k0.toInt ∧ k0.toInt ≤ 5) ∨ (8 ≤ k0.toInt ∧ k0.toInt < 8 + (κ.1 1).toInt)) → r2.toInt = 0) (c3 : ¬ r2.toInt = 0) (c4 : ¬ k1.toInt = 0) (hr5_0_0 : 0 ≤ r5.toInt) (hr5_0_1 : r5.toInt ≤ 1) (hr5_1_0 : ((1 ≤ k1.toInt ∧ k1.toInt ≤ 5) ∨ (8 ≤ k1.toInt ∧ k1.toInt < 8 + (κ.1 1).toInt)) → r5.toInt = 1) (hr5_1_1 : ¬ ((1 ≤ k1.toInt ∧ k1.toInt ≤ 5) ∨ (8 ≤ k1.toInt ∧ k1.toInt < 8 + (κ.1 1).toInt)) → r5.toInt = 0) (c6 : r5.toInt = 0) : (((k0.toInt = 0 ∧ k1.toInt = 0) ∨ (¬ k0.toInt = 0 ∧ ((1 ≤ k0.toInt ∧ k0.toInt ≤ 5) ∨ (8 ≤ k0.toInt ∧ k0.toInt < 8 + (κ.1 1).toInt)) ∧ (k1.toInt = 0 ∨ ((1 ≤ k1.toInt ∧ k1.toInt ≤ 5) ∨ (8 ≤ k1.toInt ∧ k1.toInt < 8 + (κ.1 1).toInt))))) → (0 : Int32).toInt = 1) ∧ (¬ ((k0.toInt = 0 ∧ k1.toInt = 0) ∨ (¬ k0.toInt = 0 ∧ ((1 ≤ k0.toInt ∧ k0.toInt ≤ 5) ∨ (8 ≤ k0.toInt ∧ k0.toInt < 8 + (κ.1 1).toInt)) ∧ (k1.toInt = 0 ∨ ((1 ≤ k1.toInt ∧ k1.toInt ≤ 5) ∨ (8 ≤ k1.toInt ∧ k1.toInt < 8 + (κ.1 1).toInt))))) → (0 : Int32).toInt = 0) := by
  have q0 : (0 : Int32).toInt = 0 := by decide +kernel
  refine ⟨?_, ?_⟩ <;> first | assumption | omega | (subst_vars; omega) | trivial
-- post @39
theorem vX11_areParameters_8 (κ : KS) (k0 : Int32) (k1 : Int32) (r2 : Int32) (r5 : Int32) (hpre_0 : 0 ≤ (κ.1 1).toInt) (hpre_1 : (κ.1 1).toInt ≤ 5) (c1 : ¬ k0.toInt = 0) (hr2_0_0 : 0 ≤ r2.toInt) (hr2_0_1 : r2.toInt ≤ 1) (hr2_1_0 : ((1 ≤ k0.toInt ∧ k0.toInt ≤ 5) ∨ (8 ≤ k0.toInt ∧ k0.toInt < 8 + (κ.1 1).toInt)) → r2.toInt = 1) (hr2_1_1 : ¬ ((1 ≤ k0.toInt ∧ k0.toInt ≤ 5) ∨ (8 ≤ k0.toInt ∧ k0.toInt < 8 + (κ.1 1).toInt)) → r2.toInt = 0) (c3 : ¬ r2.toInt = 0) (c4 : ¬ k1.toInt = 0) (hr5_0_0 : 0 ≤ r5.toInt) (hr5_0_1 : r5.toInt ≤ 1) (hr5_1_0 : ((1 ≤ k1.toInt ∧ k1.toInt ≤ 5) ∨ (8 ≤ k1.toInt ∧ k1.toInt < 8 + (κ.1 1).toInt)) → r5.toInt = 1) (hr5_1_1 : ¬ ((1 ≤ k1.toInt ∧ k1.toInt ≤ 5) ∨ (8 ≤ k1.toInt ∧ k1.toInt < 8 + (κ.1 1).toInt)) → r5.toInt = 0) (c6 : ¬ r5.toInt = 0) : (((k0.toInt = 0 ∧ k1.toInt = 0) ∨ (¬ k0.toInt = 0 ∧ ((1 ≤ k0.toInt ∧ k0.toInt ≤ 5) ∨ (8 ≤ k0.toInt ∧ k0.toInt < 8 + (κ.1 1).toInt)) ∧ (k1.toInt = 0 ∨ ((1 ≤ k1.toInt ∧ k1.toInt ≤ 5) ∨ (8 ≤ k1.toInt ∧ k1.toInt < 8 + (κ.1 1).toInt))))) → (1 : Int32).toInt = 1) ∧ (¬ ((k0.toInt = 0 ∧ k1.toInt = 0) ∨ (¬ k0.toInt = 0 ∧ ((1 ≤ k0.toInt ∧ k0.toInt ≤ 5) ∨ (8 ≤ k0.toInt ∧ k0.toInt < 8 + (κ.1 1).toInt)) ∧ (k1.toInt = 0 ∨ ((1 ≤ k1.toInt ∧ k1.toInt ≤ 5) ∨ (8 ≤ k1.toInt ∧ k1.toInt < 8 + (κ.1 1).toInt))))) → (1 : Int32).toInt = 0) := by
  have q1 : (1 : Int32).toInt = 1 := by decide +kernel
  refine ⟨?_, ?_⟩ <;> first | assumption | omega | (subst_vars; omega) | trivial
-- post @13
theorem vX11_areParameters_9 (κ : KS) (k0 : Int32) (k1 : Int32) (hpre_0 : 0 ≤ (κ.1 1).toInt) (hpre_1 : (κ.1 1).toInt ≤ 5) (c1 : k0.toInt = 0) (c7 : ¬ k1.toInt = 0) : (((k0.toInt = 0 ∧ k1.toInt = 0) ∨ (¬ k0.toInt = 0 ∧ ((1 ≤ k0.toInt ∧ k0.toInt ≤ 5) ∨ (8 ≤ k0.toInt ∧ k0.toInt < 8 + (κ.1 1).toInt)) ∧ (k1.toInt = 0 ∨ ((1 ≤ k1.toInt ∧ k1.toInt ≤ 5) ∨ (8 ≤ k1.toInt ∧ k1.toInt < 8 + (κ.1 1).toInt))))) → (0 : Int32).toInt = 1) ∧ (¬ ((k0.toInt = 0 ∧ k1.toInt = 0) ∨ (¬ k0.toInt = 0 ∧ ((1 ≤ k0.toInt ∧ k0.toInt ≤ 5) ∨ (8 ≤ k0.toInt ∧ k0.toInt < 8 + (κ.1 1).toInt)) ∧ (k1.toInt = 0 ∨ ((1 ≤ k1.toInt ∧ k1.toInt ≤ 5) ∨ (8 ≤ k1.toInt ∧ k1.toInt < 8 + (κ.1 1).toInt))))) → (0 : Int32).toInt = 0) := by
  have q0 : (0 : Int32).toInt = 0 := by decide +kernel
  refine ⟨?_, ?_⟩ <;> first | assumption | omega | (subst_vars; omega) | trivial
-- post @13
theorem vX11_areParameters_10 (κ : KS) (k0 : Int32) (k1 : Int32) (hpre_0 : 0 ≤ (κ.1 1).toInt) (hpre_1 : (κ.1 1).toInt ≤ 5) (c1 : k0.toInt = 0) (c7 : k1.toInt = 0) : (((k0.toInt = 0 ∧ k1.toInt = 0) ∨ (¬ k0.toInt = 0 ∧ ((1 ≤ k0.toInt ∧ k0.toInt ≤ 5) ∨ (8 ≤ k0.toInt ∧ k0.toInt < 8 + (κ.1 1).toInt)) ∧ (k1.toInt = 0 ∨ ((1 ≤ k1.toInt ∧ k1.toInt ≤ 5) ∨ (8 ≤ k1.toInt ∧ k1.toInt < 8 + (κ.1 1).toInt))))) → (1 : Int32).toInt = 1) ∧ (¬ ((k0.toInt = 0 ∧ k1.toInt = 0) ∨ (¬ k0.toInt = 0 ∧ ((1 ≤ k0.toInt ∧ k0.toInt ≤ 5) ∨ (8 ≤ k0.toInt ∧ k0.toInt < 8 + (κ.1 1).toInt)) ∧ (k1.toInt = 0 ∨ ((1 ≤ k1.toInt ∧ k1.toInt ≤ 5) ∨ (8 ≤ k1.toInt ∧ k1.toInt < 8 + (κ.1 1).toInt))))) → (1 : Int32).toInt = 0) := by
  have q1 : (1 : Int32).toInt = 1 := by decide +kernel
  refine ⟨?_, ?_⟩ <;> first | assumption | omega | (subst_vars; omega) | trivial
set_option maxHeartbeats 4000000 in
set_option maxRecDepth 100000 in
theorem NX11_areParameters (l : Launch) (D : va_G) (cy : Nat → ClassId) (ad : Nat → Nat) (A : Nat → Prop) (sz0 : Nat) (sa : Nat → Nat)  (κ : KS) (sz sl : Nat) (hAF : ∀ q, A q → Fr sz0 q) (hAn : ∀ q : Nat, sz ≤ q → A q) (k0 : Int32) (k1 : Int32) (hpre : 0 ≤ (κ.1 1).toInt ∧ (κ.1 1).toInt ≤ 5) : Met l yX11_areParameters (Cond.code yX11_areParameters cX11_areParameters 3 (some .boolean) :: GWc) ({ frames := 1, cells := 0, slots := 0, locals := 21 }) (PcC D cy ad A sz0 sa [.ref (ad 0), .int k0, .int k1] κ sz sl) (va_Qi (fun (r : Int32) (u : Unit) => (0 ≤ r.toInt ∧ r.toInt ≤ 1) ∧ ((((k0.toInt = 0 ∧ k1.toInt = 0) ∨ (¬ k0.toInt = 0 ∧ ((1 ≤ k0.toInt ∧ k0.toInt ≤ 5) ∨ (8 ≤ k0.toInt ∧ k0.toInt < 8 + (κ.1 1).toInt)) ∧ (k1.toInt = 0 ∨ ((1 ≤ k1.toInt ∧ k1.toInt ≤ 5) ∨ (8 ≤ k1.toInt ∧ k1.toInt < 8 + (κ.1 1).toInt))))) → r.toInt = 1) ∧ (¬ ((k0.toInt = 0 ∧ k1.toInt = 0) ∨ (¬ k0.toInt = 0 ∧ ((1 ≤ k0.toInt ∧ k0.toInt ≤ 5) ∨ (8 ≤ k0.toInt ∧ k0.toInt < 8 + (κ.1 1).toInt)) ∧ (k1.toInt = 0 ∨ ((1 ≤ k1.toInt ∧ k1.toInt ≤ 5) ∨ (8 ≤ k1.toInt ∧ k1.toInt < 8 + (κ.1 1).toInt))))) → r.toInt = 0))) (fun (u : Unit) (t : State) => Bx D cy ad A sz sl κ (0) (0) t) A) (0) (0) A := by
  refine CM_of (loc0 := [(0, .ref (ad 0)), (1, .int k0), (2, .int k1)]) (own := RX11) (nm := "areParameters") (by decide) rfl rfl rfl (Nat.le_of_ble_eq_true rfl) hAF hAn ?_
  intro p e s m below meth c ls hsz hsl C hP hS hl
  obtain ⟨hpre_0, hpre_1⟩ := hpre
  refine lv_iload_n C.x C.b dX11_areParameters_0 rfl (lv_at hl 1 rfl) ?_
  refine lv_if_ne (tgt := 14) C.x C.b dX11_areParameters_1 (by decide) (fun c1 => ?_) (fun c1 => ?_)
  · have c1 : ¬ k0.toInt = 0 := by have h := z_ne c1; rw [show (0 : Int32).toInt = 0 from by decide +kernel] at h; exact h
    refine lv_aload_n C.x C.b dX11_areParameters_14 rfl (lv_at hl 0 rfl) ?_
    refine lv_iload_n C.x C.b dX11_areParameters_15 rfl (lv_at hl 1 rfl) ?_
    refine c_callVi (n := 1) (As := [.int k0]) (rest := []) C hP hS hl.1 (NX11_isType l D cy ad A sz0 sa κ s.heap.size (SLT s.heap) C.f (fun q h => C.a q (Nat.le_trans hS.1 h)) k0 (vX11_areParameters_1 κ hpre_0 hpre_1)) ⟨cw_921, cw_924, by decide +kernel⟩ ⟨cw_922, cw_923, cw_910⟩ rfl (hP.recvS (k := 0) (ci := 13) C.K rfl rfl) rfl rfl (lv_room (Nat.le_of_ble_eq_true rfl)) ⟨Nat.le_of_ble_eq_true rfl, Nat.le_of_ble_eq_true rfl⟩ ⟨(Nat.le_of_ble_eq_true rfl), (Nat.le_of_ble_eq_true rfl)⟩ dX11_areParameters_16 (fun r2 u H locs hr2 hP hS => ?_)
    have hr2 : (0 ≤ r2.toInt ∧ r2.toInt ≤ 1) ∧ ((((1 ≤ k0.toInt ∧ k0.toInt ≤ 5) ∨ (8 ≤ k0.toInt ∧ k0.toInt < 8 + (κ.1 1).toInt)) → r2.toInt = 1) ∧ (¬ ((1 ≤ k0.toInt ∧ k0.toInt ≤ 5) ∨ (8 ≤ k0.toInt ∧ k0.toInt < 8 + (κ.1 1).toInt)) → r2.toInt = 0)) := hr2
    obtain ⟨hr2_0, hr2_1⟩ := hr2
    obtain ⟨hr2_0_0, hr2_0_1⟩ := hr2_0
    obtain ⟨hr2_1_0, hr2_1_1⟩ := hr2_1
    refine lv_if_eq (tgt := 38) C.x C.b dX11_areParameters_19 (by decide) (fun c3 => ?_) (fun c3 => ?_)
    · have c3 : r2.toInt = 0 := by have h := z_eq c3; rw [show (0 : Int32).toInt = 0 from by decide +kernel] at h; exact h
      refine lv_iconst (v := 0) C.x C.b dX11_areParameters_38 (by decide +kernel) ?_
      exact c_retz (ty := .boolean) (hv := rfl) C hsz hsl () ⟨(vX11_areParameters_2  ), (vX11_areParameters_3 κ k0 k1 r2 hpre_0 hpre_1 c1 hr2_0_0 hr2_0_1 hr2_1_0 hr2_1_1 c3)⟩ hP hS ⟨(Nat.le_of_ble_eq_true rfl), (Nat.le_of_ble_eq_true rfl)⟩ ⟨(Nat.le_of_ble_eq_true rfl), (Nat.le_of_ble_eq_true rfl)⟩ dX11_areParameters_39
    · have c3 : ¬ r2.toInt = 0 := by have h := z_ne c3; rw [show (0 : Int32).toInt = 0 from by decide +kernel] at h; exact h
      refine lv_iload_n C.x C.b dX11_areParameters_22 rfl (lv_at hl 2 rfl) ?_
      refine lv_if_eq (tgt := 34) C.x C.b dX11_areParameters_23 (by decide) (fun c4 => ?_) (fun c4 => ?_)
      · have c4 : k1.toInt = 0 := by have h := z_eq c4; rw [show (0 : Int32).toInt = 0 from by decide +kernel] at h; exact h
        refine lv_iconst (v := 1) C.x C.b dX11_areParameters_34 (by decide +kernel) ?_
        refine lv_goto (tgt := 39) C.x C.b dX11_areParameters_35 (by decide) ?_
        exact c_retz (ty := .boolean) (hv := rfl) C hsz hsl () ⟨(vX11_areParameters_4  ), (vX11_areParameters_5 κ k0 k1 r2 hpre_0 hpre_1 c1 hr2_0_0 hr2_0_1 hr2_1_0 hr2_1_1 c3 c4)⟩ hP hS ⟨(Nat.le_of_ble_eq_true rfl), (Nat.le_of_ble_eq_true rfl)⟩ ⟨(Nat.le_of_ble_eq_true rfl), (Nat.le_of_ble_eq_true rfl)⟩ dX11_areParameters_39
      · have c4 : ¬ k1.toInt = 0 := by have h := z_ne c4; rw [show (0 : Int32).toInt = 0 from by decide +kernel] at h; exact h
        refine lv_aload_n C.x C.b dX11_areParameters_26 rfl (lv_at hl 0 rfl) ?_
        refine lv_iload_n C.x C.b dX11_areParameters_27 rfl (lv_at hl 2 rfl) ?_
        refine c_callVi (n := 1) (As := [.int k1]) (rest := []) C hP hS hl.1 (NX11_isType l D cy ad A sz0 sa κ H.size (SLT H) C.f (fun q h => C.a q (Nat.le_trans hS.1 h)) k1 (vX11_areParameters_6 κ k0 r2 hpre_0 hpre_1 c1 hr2_0_0 hr2_0_1 hr2_1_0 hr2_1_1 c3)) ⟨cw_921, cw_924, by decide +kernel⟩ ⟨cw_922, cw_923, cw_910⟩ rfl (hP.recvS (k := 0) (ci := 13) C.K rfl rfl) rfl rfl (lv_room (Nat.le_of_ble_eq_true rfl)) ⟨Nat.le_of_ble_eq_true rfl, Nat.le_of_ble_eq_true rfl⟩ ⟨(Nat.le_of_ble_eq_true rfl), (Nat.le_of_ble_eq_true rfl)⟩ dX11_areParameters_28 (fun r5 u H locs hr5 hP hS => ?_)
        have hr5 : (0 ≤ r5.toInt ∧ r5.toInt ≤ 1) ∧ ((((1 ≤ k1.toInt ∧ k1.toInt ≤ 5) ∨ (8 ≤ k1.toInt ∧ k1.toInt < 8 + (κ.1 1).toInt)) → r5.toInt = 1) ∧ (¬ ((1 ≤ k1.toInt ∧ k1.toInt ≤ 5) ∨ (8 ≤ k1.toInt ∧ k1.toInt < 8 + (κ.1 1).toInt)) → r5.toInt = 0)) := hr5
        obtain ⟨hr5_0, hr5_1⟩ := hr5
        obtain ⟨hr5_0_0, hr5_0_1⟩ := hr5_0
        obtain ⟨hr5_1_0, hr5_1_1⟩ := hr5_1
        refine lv_if_eq (tgt := 38) C.x C.b dX11_areParameters_31 (by decide) (fun c6 => ?_) (fun c6 => ?_)
        · have c6 : r5.toInt = 0 := by have h := z_eq c6; rw [show (0 : Int32).toInt = 0 from by decide +kernel] at h; exact h
          refine lv_iconst (v := 0) C.x C.b dX11_areParameters_38 (by decide +kernel) ?_
          exact c_retz (ty := .boolean) (hv := rfl) C hsz hsl () ⟨(vX11_areParameters_2  ), (vX11_areParameters_7 κ k0 k1 r2 r5 hpre_0 hpre_1 c1 hr2_0_0 hr2_0_1 hr2_1_0 hr2_1_1 c3 c4 hr5_0_0 hr5_0_1 hr5_1_0 hr5_1_1 c6)⟩ hP hS ⟨(Nat.le_of_ble_eq_true rfl), (Nat.le_of_ble_eq_true rfl)⟩ ⟨(Nat.le_of_ble_eq_true rfl), (Nat.le_of_ble_eq_true rfl)⟩ dX11_areParameters_39
        · have c6 : ¬ r5.toInt = 0 := by have h := z_ne c6; rw [show (0 : Int32).toInt = 0 from by decide +kernel] at h; exact h
          refine lv_iconst (v := 1) C.x C.b dX11_areParameters_34 (by decide +kernel) ?_
          refine lv_goto (tgt := 39) C.x C.b dX11_areParameters_35 (by decide) ?_
          exact c_retz (ty := .boolean) (hv := rfl) C hsz hsl () ⟨(vX11_areParameters_4  ), (vX11_areParameters_8 κ k0 k1 r2 r5 hpre_0 hpre_1 c1 hr2_0_0 hr2_0_1 hr2_1_0 hr2_1_1 c3 c4 hr5_0_0 hr5_0_1 hr5_1_0 hr5_1_1 c6)⟩ hP hS ⟨(Nat.le_of_ble_eq_true rfl), (Nat.le_of_ble_eq_true rfl)⟩ ⟨(Nat.le_of_ble_eq_true rfl), (Nat.le_of_ble_eq_true rfl)⟩ dX11_areParameters_39
  · have c1 : k0.toInt = 0 := by have h := z_eq c1; rw [show (0 : Int32).toInt = 0 from by decide +kernel] at h; exact h
    refine lv_iload_n C.x C.b dX11_areParameters_4 rfl (lv_at hl 2 rfl) ?_
    refine lv_if_ne (tgt := 12) C.x C.b dX11_areParameters_5 (by decide) (fun c7 => ?_) (fun c7 => ?_)
    · have c7 : ¬ k1.toInt = 0 := by have h := z_ne c7; rw [show (0 : Int32).toInt = 0 from by decide +kernel] at h; exact h
      refine lv_iconst (v := 0) C.x C.b dX11_areParameters_12 (by decide +kernel) ?_
      exact c_retz (ty := .boolean) (hv := rfl) C hsz hsl () ⟨(vX11_areParameters_2  ), (vX11_areParameters_9 κ k0 k1 hpre_0 hpre_1 c1 c7)⟩ hP hS ⟨(Nat.le_of_ble_eq_true rfl), (Nat.le_of_ble_eq_true rfl)⟩ ⟨(Nat.le_of_ble_eq_true rfl), (Nat.le_of_ble_eq_true rfl)⟩ dX11_areParameters_13
    · have c7 : k1.toInt = 0 := by have h := z_eq c7; rw [show (0 : Int32).toInt = 0 from by decide +kernel] at h; exact h
      refine lv_iconst (v := 1) C.x C.b dX11_areParameters_8 (by decide +kernel) ?_
      refine lv_goto (tgt := 13) C.x C.b dX11_areParameters_9 (by decide) ?_
      exact c_retz (ty := .boolean) (hv := rfl) C hsz hsl () ⟨(vX11_areParameters_4  ), (vX11_areParameters_10 κ k0 k1 hpre_0 hpre_1 c1 c7)⟩ hP hS ⟨(Nat.le_of_ble_eq_true rfl), (Nat.le_of_ble_eq_true rfl)⟩ ⟨(Nat.le_of_ble_eq_true rfl), (Nat.le_of_ble_eq_true rfl)⟩ dX11_areParameters_13

-- nan@65 @65
theorem vX11_result_1 (κ : KS) (k0 : Int32) (o6 : Nat) (x7 : Int32) (x9 : UInt64) (c1_0 : ¬ k0.toInt = 0) (c1_1 : ¬ k0.toInt = 1) (c1_2 : k0.toInt = 2) (ex7 : oI κ.2.2.2.2 0 o6 = x7) (c8 : x7.toInt = 3) (fx9 : FN x9) : vf_n64 (FP.dmul (4652007308841189376 : UInt64) x9) := by
  obtain ⟨d, g1, g2⟩ := fp_mul fp_k1000 (show FN x9 by assumption)
  exact fp_n g1 g2
set_option maxHeartbeats 4000000 in
set_option maxRecDepth 100000 in
theorem NX11_result (l : Launch) (D : va_G) (cy : Nat → ClassId) (ad : Nat → Nat) (A : Nat → Prop) (sz0 : Nat) (sa : Nat → Nat)  (κ : KS) (sz sl : Nat) (hAF : ∀ q, A q → Fr sz0 q) (hAn : ∀ q : Nat, sz ≤ q → A q) (k0 : Int32) (hPV : PV sa κ.2.2.2.2) (hSV : SV ad κ.2.2.2.2 (κ.2.1 0) (κ.2.1 1) (κ.2.2.2.1 6) (κ.2.2.2.1 7) (κ.2.2.2.1 8) (κ.2.2.2.1 13) (κ.2.2.2.1 15) (κ.2.2.2.1 17) (κ.1 1).toInt) : Met l yX11_result (Cond.code yX11_result cX11_result 2 (some .int) :: GWc) ({ frames := 0, cells := 0, slots := 0, locals := 0 }) (PcC D cy ad A sz0 sa [.ref (ad 0), .int k0] κ sz sl) (va_Qi (fun (r : Int32) (u : Unit) => True) (fun (u : Unit) (t : State) => Bx D cy ad A sz sl κ (0) (0) t) A) (0) (0) A := by
  refine CM_of (loc0 := [(0, .ref (ad 0)), (1, .int k0)]) (own := RX11) (nm := "result") (by decide) rfl rfl rfl (Nat.le_of_ble_eq_true rfl) hAF hAn ?_
  intro p e s m below meth c ls hsz hsl C hP hS hl
  refine lv_iload_n C.x C.b dX11_result_0 rfl (lv_at hl 1 rfl) ?_
  by_cases c1_0 : k0.toInt = 0
  · refine lv_tableIn (off := 27) (tgt := 28) C.x C.b dX11_result_1 (by rw [c1_0]; decide +kernel) (by rw [c1_0]; decide +kernel) (by rw [c1_0]; decide +kernel) (by decide) ?_
    refine lv_aload_n C.x C.b dX11_result_28 rfl (lv_at hl 0 rfl) ?_
    obtain ⟨o2, eo2, ho2⟩ := hSV.n0
    refine cg_X11_8 (v := some o2) C hP eo2 cw_881 dX11_result_29 ?_
    obtain ⟨x3, ex3⟩ : ∃ z, oI κ.2.2.2.2 0 o2 = z := ⟨_, rfl⟩
    refine pg_X10_0 (v := x3) C hP (t20 (a := o2) (t := 1) ho2) ex3 cw_966 dX11_result_32 ?_
    exact c_reti C hsz hsl () trivial hP hS ⟨(Nat.le_of_ble_eq_true rfl), (Nat.le_of_ble_eq_true rfl)⟩ ⟨(Nat.le_of_ble_eq_true rfl), (Nat.le_of_ble_eq_true rfl)⟩ dX11_result_35
  · by_cases c1_1 : k0.toInt = 1
    · refine lv_tableIn (off := 35) (tgt := 36) C.x C.b dX11_result_1 (by rw [c1_1]; decide +kernel) (by rw [c1_1]; decide +kernel) (by rw [c1_1]; decide +kernel) (by decide) ?_
      refine lv_aload_n C.x C.b dX11_result_36 rfl (lv_at hl 0 rfl) ?_
      obtain ⟨o4, eo4, ho4⟩ := hSV.n0
      refine cg_X11_8 (v := some o4) C hP eo4 cw_881 dX11_result_37 ?_
      obtain ⟨x5, ex5⟩ : ∃ z, oI κ.2.2.2.2 1 o4 = z := ⟨_, rfl⟩
      refine pg_X10_1 (v := x5) C hP (t20 (a := o4) (t := 1) ho4) ex5 cw_969 dX11_result_40 ?_
      exact c_reti C hsz hsl () trivial hP hS ⟨(Nat.le_of_ble_eq_true rfl), (Nat.le_of_ble_eq_true rfl)⟩ ⟨(Nat.le_of_ble_eq_true rfl), (Nat.le_of_ble_eq_true rfl)⟩ dX11_result_43
    · by_cases c1_2 : k0.toInt = 2
      · refine lv_tableIn (off := 43) (tgt := 44) C.x C.b dX11_result_1 (by rw [c1_2]; decide +kernel) (by rw [c1_2]; decide +kernel) (by rw [c1_2]; decide +kernel) (by decide) ?_
        refine lv_aload_n C.x C.b dX11_result_44 rfl (lv_at hl 0 rfl) ?_
        obtain ⟨o6, eo6, ho6⟩ := hSV.n0
        refine cg_X11_8 (v := some o6) C hP eo6 cw_881 dX11_result_45 ?_
        obtain ⟨x7, ex7⟩ : ∃ z, oI κ.2.2.2.2 0 o6 = z := ⟨_, rfl⟩
        refine pg_X10_0 (v := x7) C hP (t20 (a := o6) (t := 1) ho6) ex7 cw_966 dX11_result_48 ?_
        refine lv_iconst (v := 3) C.x C.b dX11_result_51 (by decide +kernel) ?_
        refine lv_icmp_ne (tgt := 70) C.x C.b dX11_result_52 (by decide) (fun c8 => ?_) (fun c8 => ?_)
        · have c8 : ¬ x7.toInt = 3 := by have h := z_ne c8; rw [show (3 : Int32).toInt = 3 from by decide +kernel] at h; exact h
          refine lv_iconst (v := 0) C.x C.b dX11_result_70 (by decide +kernel) ?_
          exact c_reti C hsz hsl () trivial hP hS ⟨(Nat.le_of_ble_eq_true rfl), (Nat.le_of_ble_eq_true rfl)⟩ ⟨(Nat.le_of_ble_eq_true rfl), (Nat.le_of_ble_eq_true rfl)⟩ dX11_result_71
        · have c8 : x7.toInt = 3 := by have h := z_eq c8; rw [show (3 : Int32).toInt = 3 from by decide +kernel] at h; exact h
          refine lv_ldc2d (v := 4652007308841189376) C.x C.b C.o (C.w _ cw_970) dX11_result_55 ?_
          refine lv_aload_n C.x C.b dX11_result_58 rfl (lv_at hl 0 rfl) ?_
          refine cg_X11_8 (v := some o6) C hP eo6 cw_881 dX11_result_59 ?_
          obtain ⟨x9, ex9⟩ : ∃ z, oD κ.2.2.2.2 o6 = z := ⟨_, rfl⟩
          refine pg_X10_2 (v := x9) C hP (t20 (a := o6) (t := 1) ho6) ex9 cw_971 dX11_result_62 ?_
          have fx9 : FN x9 := by rw [← ex9]; exact (hPV.t1 ho6).2.2
          refine lv_dmul C.x C.b dX11_result_65 (vX11_result_1 κ k0 o6 x7 x9 c1_0 c1_1 c1_2 ex7 c8 fx9) ?_
          refine lv_topd (fun x10 ex10 => ?_)
          refine lv_d2i C.x C.b dX11_result_66 ?_
          refine lv_topi (fun x11 ex11 => ?_)
          refine lv_goto (tgt := 71) C.x C.b dX11_result_67 (by decide) ?_
          exact c_reti C hsz hsl () trivial hP hS ⟨(Nat.le_of_ble_eq_true rfl), (Nat.le_of_ble_eq_true rfl)⟩ ⟨(Nat.le_of_ble_eq_true rfl), (Nat.le_of_ble_eq_true rfl)⟩ dX11_result_71
      · refine lv_tableOut (tgt := 72) C.x C.b dX11_result_1 (by omega) (by decide) ?_
        refine lv_iconst (v := (-1)) C.x C.b dX11_result_72 (by decide +kernel) ?_
        exact c_reti C hsz hsl () trivial hP hS ⟨(Nat.le_of_ble_eq_true rfl), (Nat.le_of_ble_eq_true rfl)⟩ ⟨(Nat.le_of_ble_eq_true rfl), (Nat.le_of_ble_eq_true rfl)⟩ dX11_result_73

-- pre:J0_charAt_5068e@26 @26
theorem vX11_text_1 (k0 : Int32) (n4 : Nat) (r5 : Int32) (c1 : 0 ≤ k0.toInt) (len4 : n4 ≤ 40) (hr5 : r5.toInt = ((n4 : Nat) : Int)) (c6 : k0.toInt < r5.toInt) : 0 ≤ k0.toInt ∧ k0.toInt < ((n4 : Nat) : Int) := by
  refine ⟨?_, ?_⟩ <;> first | assumption | omega | (subst_vars; omega) | trivial
set_option maxHeartbeats 4000000 in
set_option maxRecDepth 100000 in
theorem NX11_text (l : Launch) (D : va_G) (cy : Nat → ClassId) (ad : Nat → Nat) (A : Nat → Prop) (sz0 : Nat) (sa : Nat → Nat)  (κ : KS) (sz sl : Nat) (hAF : ∀ q, A q → Fr sz0 q) (hAn : ∀ q : Nat, sz ≤ q → A q) (k0 : Int32) (hPV : PV sa κ.2.2.2.2) (hSV : SV ad κ.2.2.2.2 (κ.2.1 0) (κ.2.1 1) (κ.2.2.2.1 6) (κ.2.2.2.1 7) (κ.2.2.2.1 8) (κ.2.2.2.1 13) (κ.2.2.2.1 15) (κ.2.2.2.1 17) (κ.1 1).toInt) : Met l yX11_text (Cond.code yX11_text cX11_text 2 (some .int) :: GWc) ({ frames := 4, cells := 0, slots := 0, locals := 85 }) (PcC D cy ad A sz0 sa [.ref (ad 0), .int k0] κ sz sl) (va_Qi (fun (r : Int32) (u : Unit) => True) (fun (u : Unit) (t : State) => Bx D cy ad A sz sl κ (0) (0) t) A) (0) (0) A := by
  refine CM_of (loc0 := [(0, .ref (ad 0)), (1, .int k0)]) (own := RX11) (nm := "text") (by decide) rfl rfl rfl (Nat.le_of_ble_eq_true rfl) hAF hAn ?_
  intro p e s m below meth c ls hsz hsl C hP hS hl
  refine lv_iload_n C.x C.b dX11_text_0 rfl (lv_at hl 1 rfl) ?_
  refine lv_if_lt (tgt := 32) C.x C.b dX11_text_1 (by decide) (fun c1 => ?_) (fun c1 => ?_)
  · have c1 : k0.toInt < 0 := by have h := z_lt c1; rw [show (0 : Int32).toInt = 0 from by decide +kernel] at h; exact h
    refine lv_iconst (v := (-1)) C.x C.b dX11_text_32 (by decide +kernel) ?_
    exact c_reti C hsz hsl () trivial hP hS ⟨(Nat.le_of_ble_eq_true rfl), (Nat.le_of_ble_eq_true rfl)⟩ ⟨(Nat.le_of_ble_eq_true rfl), (Nat.le_of_ble_eq_true rfl)⟩ dX11_text_33
  · have c1 : 0 ≤ k0.toInt := by have h := z_nlt c1; rw [show (0 : Int32).toInt = 0 from by decide +kernel] at h; exact h
    refine lv_iload_n C.x C.b dX11_text_4 rfl (lv_at hl 1 rfl) ?_
    refine lv_aload_n C.x C.b dX11_text_5 rfl (lv_at hl 0 rfl) ?_
    obtain ⟨o2, eo2, ho2⟩ := hSV.n0
    refine cg_X11_8 (v := some o2) C hP eo2 cw_881 dX11_text_6 ?_
    obtain ⟨x3, ex3, hx3⟩ := (hPV.t1 ho2).1
    refine pg_X10_3 (v := some x3) C hP (t20 (a := o2) (t := 1) ho2) ex3 cw_973 dX11_text_9 ?_
    obtain ⟨n4, sln4, len4⟩ := hx3.sl hPV C
    refine c_callVi (n := 0) (As := []) (rest := [.int k0]) C hP hS hl.1 (NJ0_length_8abf5 l D cy ad A sz0 sa κ s.heap.size (SLT s.heap) C.f (fun q h => C.a q (Nat.le_trans hS.1 h)) x3 n4 sln4 hPV) ⟨cw_974, cw_101, by decide +kernel⟩ ⟨cw_99, cw_100, cw_70⟩ rfl (c_srecv C hP hS hx3) rfl rfl (lv_room (Nat.le_of_ble_eq_true rfl)) ⟨Nat.le_of_ble_eq_true rfl, Nat.le_of_ble_eq_true rfl⟩ ⟨(Nat.le_of_ble_eq_true rfl), (Nat.le_of_ble_eq_true rfl)⟩ dX11_text_12 (fun r5 u H locs hr5 hP hS => ?_)
    have hr5 : (r5.toInt = ((n4 : Nat) : Int)) := hr5
    refine lv_icmp_ge (tgt := 32) C.x C.b dX11_text_15 (by decide) (fun c6 => ?_) (fun c6 => ?_)
    · have c6 : r5.toInt ≤ k0.toInt := by have h := z_le c6; exact h
      refine lv_iconst (v := (-1)) C.x C.b dX11_text_32 (by decide +kernel) ?_
      exact c_reti C hsz hsl () trivial hP hS ⟨(Nat.le_of_ble_eq_true rfl), (Nat.le_of_ble_eq_true rfl)⟩ ⟨(Nat.le_of_ble_eq_true rfl), (Nat.le_of_ble_eq_true rfl)⟩ dX11_text_33
    · have c6 : k0.toInt < r5.toInt := by have h := z_nle c6; exact h
      refine lv_aload_n C.x C.b dX11_text_18 rfl (lv_at hl 0 rfl) ?_
      refine cg_X11_8 (v := some o2) C hP eo2 cw_881 dX11_text_19 ?_
      refine pg_X10_3 (v := (some x3)) C hP (t20 (a := o2) (t := 1) ho2) ex3 cw_973 dX11_text_22 ?_
      refine lv_iload_n C.x C.b dX11_text_25 rfl (lv_at hl 1 rfl) ?_
      refine c_callVi (n := 1) (As := [.int k0]) (rest := []) C hP hS hl.1 (NJ0_charAt_5068e l D cy ad A sz0 sa κ H.size (SLT H) C.f (fun q h => C.a q (Nat.le_trans hS.1 h)) x3 n4 k0 sln4 hPV (vX11_text_1 k0 n4 r5 c1 len4 hr5 c6)) ⟨cw_975, cw_109, by decide +kernel⟩ ⟨cw_107, cw_108, cw_70⟩ rfl (c_srecv C hP hS hx3) rfl rfl (lv_room (Nat.le_of_ble_eq_true rfl)) ⟨Nat.le_of_ble_eq_true rfl, Nat.le_of_ble_eq_true rfl⟩ ⟨(Nat.le_of_ble_eq_true rfl), (Nat.le_of_ble_eq_true rfl)⟩ dX11_text_26 (fun r7 u H locs hr7 hP hS => ?_)
      have hr7 : (0 ≤ r7.toInt ∧ r7.toInt ≤ 65535) := hr7
      obtain ⟨hr7_0, hr7_1⟩ := hr7
      refine lv_goto (tgt := 33) C.x C.b dX11_text_29 (by decide) ?_
      exact c_reti C hsz hsl () trivial hP hS ⟨(Nat.le_of_ble_eq_true rfl), (Nat.le_of_ble_eq_true rfl)⟩ ⟨(Nat.le_of_ble_eq_true rfl), (Nat.le_of_ble_eq_true rfl)⟩ dX11_text_33

set_option maxHeartbeats 4000000 in
set_option maxRecDepth 100000 in
theorem NX11_about (l : Launch) (D : va_G) (cy : Nat → ClassId) (ad : Nat → Nat) (A : Nat → Prop) (sz0 : Nat) (sa : Nat → Nat)  (κ : KS) (sz sl : Nat) (hAF : ∀ q, A q → Fr sz0 q) (hAn : ∀ q : Nat, sz ≤ q → A q) (k0 : Int32)  : Met l yX11_about (Cond.code yX11_about cX11_about 2 (some .int) :: GWc) ({ frames := 0, cells := 0, slots := 0, locals := 0 }) (PcC D cy ad A sz0 sa [.ref (ad 0), .int k0] κ sz sl) (va_Qi (fun (r : Int32) (u : Unit) => True) (fun (u : Unit) (t : State) => Bx D cy ad A sz sl κ (0) (0) t) A) (0) (0) A := by
  refine CM_of (loc0 := [(0, .ref (ad 0)), (1, .int k0)]) (own := RX11) (nm := "about") (by decide) rfl rfl rfl (Nat.le_of_ble_eq_true rfl) hAF hAn ?_
  intro p e s m below meth c ls hsz hsl C hP hS hl
  refine lv_iload_n C.x C.b dX11_about_0 rfl (lv_at hl 1 rfl) ?_
  by_cases c1_0 : k0.toInt = 0
  · refine lv_tableIn (off := 35) (tgt := 36) C.x C.b dX11_about_1 (by rw [c1_0]; decide +kernel) (by rw [c1_0]; decide +kernel) (by rw [c1_0]; decide +kernel) (by decide) ?_
    refine lv_aload_n C.x C.b dX11_about_36 rfl (lv_at hl 0 rfl) ?_
    refine cg_X11_0 C hP cw_871 dX11_about_37 ?_
    refine cg_X6_0 C hP cw_892 dX11_about_40 ?_
    refine cg_X4_1 (v := (κ.1 6)) C hP rfl cw_893 dX11_about_43 ?_
    exact c_reti C hsz hsl () trivial hP hS ⟨(Nat.le_of_ble_eq_true rfl), (Nat.le_of_ble_eq_true rfl)⟩ ⟨(Nat.le_of_ble_eq_true rfl), (Nat.le_of_ble_eq_true rfl)⟩ dX11_about_46
  · by_cases c1_1 : k0.toInt = 1
    · refine lv_tableIn (off := 46) (tgt := 47) C.x C.b dX11_about_1 (by rw [c1_1]; decide +kernel) (by rw [c1_1]; decide +kernel) (by rw [c1_1]; decide +kernel) (by decide) ?_
      refine lv_aload_n C.x C.b dX11_about_47 rfl (lv_at hl 0 rfl) ?_
      refine cg_X11_3 (v := (κ.1 0)) C hP rfl cw_898 dX11_about_48 ?_
      exact c_reti C hsz hsl () trivial hP hS ⟨(Nat.le_of_ble_eq_true rfl), (Nat.le_of_ble_eq_true rfl)⟩ ⟨(Nat.le_of_ble_eq_true rfl), (Nat.le_of_ble_eq_true rfl)⟩ dX11_about_51
    · by_cases c1_2 : k0.toInt = 2
      · refine lv_tableIn (off := 51) (tgt := 52) C.x C.b dX11_about_1 (by rw [c1_2]; decide +kernel) (by rw [c1_2]; decide +kernel) (by rw [c1_2]; decide +kernel) (by decide) ?_
        refine lv_aload_n C.x C.b dX11_about_52 rfl (lv_at hl 0 rfl) ?_
        refine cg_X11_5 (v := (κ.1 1)) C hP rfl cw_905 dX11_about_53 ?_
        exact c_reti C hsz hsl () trivial hP hS ⟨(Nat.le_of_ble_eq_true rfl), (Nat.le_of_ble_eq_true rfl)⟩ ⟨(Nat.le_of_ble_eq_true rfl), (Nat.le_of_ble_eq_true rfl)⟩ dX11_about_56
      · by_cases c1_3 : k0.toInt = 3
        · refine lv_tableIn (off := 56) (tgt := 57) C.x C.b dX11_about_1 (by rw [c1_3]; decide +kernel) (by rw [c1_3]; decide +kernel) (by rw [c1_3]; decide +kernel) (by decide) ?_
          refine lv_aload_n C.x C.b dX11_about_57 rfl (lv_at hl 0 rfl) ?_
          refine cg_X11_7 (v := (κ.1 2)) C hP rfl cw_916 dX11_about_58 ?_
          exact c_reti C hsz hsl () trivial hP hS ⟨(Nat.le_of_ble_eq_true rfl), (Nat.le_of_ble_eq_true rfl)⟩ ⟨(Nat.le_of_ble_eq_true rfl), (Nat.le_of_ble_eq_true rfl)⟩ dX11_about_61
        · by_cases c1_4 : k0.toInt = 4
          · refine lv_tableIn (off := 61) (tgt := 62) C.x C.b dX11_about_1 (by rw [c1_4]; decide +kernel) (by rw [c1_4]; decide +kernel) (by rw [c1_4]; decide +kernel) (by decide) ?_
            refine lv_aload_n C.x C.b dX11_about_62 rfl (lv_at hl 0 rfl) ?_
            refine cg_X11_1 C hP cw_874 dX11_about_63 ?_
            refine cg_X8_5 (v := (κ.1 8)) C hP rfl cw_978 dX11_about_66 ?_
            exact c_reti C hsz hsl () trivial hP hS ⟨(Nat.le_of_ble_eq_true rfl), (Nat.le_of_ble_eq_true rfl)⟩ ⟨(Nat.le_of_ble_eq_true rfl), (Nat.le_of_ble_eq_true rfl)⟩ dX11_about_69
          · refine lv_tableOut (tgt := 70) C.x C.b dX11_about_1 (by omega) (by decide) ?_
            refine lv_iconst (v := (-1)) C.x C.b dX11_about_70 (by decide +kernel) ?_
            exact c_reti C hsz hsl () trivial hP hS ⟨(Nat.le_of_ble_eq_true rfl), (Nat.le_of_ble_eq_true rfl)⟩ ⟨(Nat.le_of_ble_eq_true rfl), (Nat.le_of_ble_eq_true rfl)⟩ dX11_about_71
