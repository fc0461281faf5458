-- thrown @12
theorem vX11_letter_1 (k0 : Int32) (c1 : k0.toInt < 32) : k0.toInt < 32 ∨ 126 < k0.toInt := by
  first | assumption | omega | (subst_vars; omega) | trivial
-- xpost @12
theorem vX11_letter_2 (κ : KS) (hpre_0 : L9 (κ.2.2.1 9)) (hpre_1 : 0 ≤ (κ.1 6).toInt) (hpre_2 : (κ.1 6).toInt ≤ 40) : L9 (κ.2.2.1 9) ∧ (κ.1 6).toInt = (κ.1 6).toInt ∧ (κ.2.2.1 9) = (κ.2.2.1 9) := by
  refine ⟨?_, ?_, ?_⟩ <;> first | assumption | omega | (subst_vars; omega) | trivial
-- fact@55 @55
theorem vX11_letter_3 (k0 : Int32) (x4 : Int32) (c1 : 32 ≤ k0.toInt) (c2 : k0.toInt ≤ 126) (ex4 : x4 = (k0.toUInt32 % 65536).toInt32) : x4.toInt = k0.toInt := by
  rw [ex4]; exact z_c8 ⟨by omega, by omega⟩
-- pre:X4_append@56 @56
theorem vX11_letter_4 (κ : KS) (k0 : Int32) (x4 : Int32) (hpre_0 : L9 (κ.2.2.1 9)) (hpre_1 : 0 ≤ (κ.1 6).toInt) (hpre_2 : (κ.1 6).toInt ≤ 40) (c1 : 32 ≤ k0.toInt) (c2 : k0.toInt ≤ 126) (c3 : (κ.1 6).toInt < 40) (ex4 : x4 = (k0.toUInt32 % 65536).toInt32) (fx4 : x4.toInt = k0.toInt) : L9 (κ.2.2.1 9) ∧ 0 ≤ (κ.1 6).toInt ∧ (κ.1 6).toInt ≤ 40 ∧ 32 ≤ x4.toInt ∧ x4.toInt ≤ 126 := by
  refine ⟨?_, ?_, ?_, ?_, ?_⟩ <;> first | assumption | omega | (subst_vars; omega) | trivial
-- post @69
theorem vX11_letter_5 (κ : KS) (k0 : Int32) (x4 : Int32) (F6 : (Nat → Int32)) (n7 : Int32) (hpre_0 : L9 (κ.2.2.1 9)) (hpre_1 : 0 ≤ (κ.1 6).toInt) (hpre_2 : (κ.1 6).toInt ≤ 40) (c1 : 32 ≤ k0.toInt) (c2 : k0.toInt ≤ 126) (c3 : (κ.1 6).toInt < 40) (ex4 : x4 = (k0.toUInt32 % 65536).toInt32) (fx4 : x4.toInt = k0.toInt) (hr5_0 : L9 F6) (hr5_1 : (κ.1 6).toInt < 40 → n7.toInt = (κ.1 6).toInt + 1) (hr5_2 : 40 ≤ (κ.1 6).toInt → n7.toInt = (κ.1 6).toInt) : L9 F6 ∧ n7.toInt = n7.toInt ∧ n7.toInt = (κ.1 6).toInt + 1 ∧ (κ.1 6).toInt < 40 ∧ 32 ≤ k0.toInt ∧ k0.toInt ≤ 126 := by
  refine ⟨?_, ?_, ?_, ?_, ?_, ?_⟩ <;> first | assumption | omega | (subst_vars; omega) | trivial
-- post2 @69
theorem vX11_letter_6 (κ : KS) (k0 : Int32) (x4 : Int32) (F6 : (Nat → Int32)) (n7 : Int32) (hpre_0 : L9 (κ.2.2.1 9)) (hpre_1 : 0 ≤ (κ.1 6).toInt) (hpre_2 : (κ.1 6).toInt ≤ 40) (c1 : 32 ≤ k0.toInt) (c2 : k0.toInt ≤ 126) (c3 : (κ.1 6).toInt < 40) (ex4 : x4 = (k0.toUInt32 % 65536).toInt32) (fx4 : x4.toInt = k0.toInt) (hr5y : (κ.1 6).toInt < 40 → F6 = upd (κ.2.2.1 9) (κ.1 6).toNatClampNeg x4) (hr5_0 : L9 F6) (hr5_1 : (κ.1 6).toInt < 40 → n7.toInt = (κ.1 6).toInt + 1) (hr5_2 : 40 ≤ (κ.1 6).toInt → n7.toInt = (κ.1 6).toInt) : F6 = upd (κ.2.2.1 9) (κ.1 6).toNatClampNeg k0 := by
  have e9 : x4 = k0 := Int32.toInt_inj.mp (by assumption)
  rw [hr5y (by omega), e9]
-- thrown @37
theorem vX11_letter_7 (κ : KS) (k0 : Int32) (hpre_1 : 0 ≤ (κ.1 6).toInt) (hpre_2 : (κ.1 6).toInt ≤ 40) (c1 : 32 ≤ k0.toInt) (c2 : k0.toInt ≤ 126) (c3 : 40 ≤ (κ.1 6).toInt) : 32 ≤ k0.toInt ∧ k0.toInt ≤ 126 ∧ 40 ≤ (κ.1 6).toInt := by
  refine ⟨?_, ?_, ?_⟩ <;> first | assumption | omega | (subst_vars; omega) | trivial
-- xpost @37
theorem vX11_letter_8 (κ : KS) (hpre_0 : L9 (κ.2.2.1 9)) (hpre_1 : 0 ≤ (κ.1 6).toInt) (hpre_2 : (κ.1 6).toInt ≤ 40) (c3 : 40 ≤ (κ.1 6).toInt) : L9 (κ.2.2.1 9) ∧ (κ.1 6).toInt = (κ.1 6).toInt ∧ (κ.2.2.1 9) = (κ.2.2.1 9) := by
  refine ⟨?_, ?_, ?_⟩ <;> first | assumption | omega | (subst_vars; omega) | trivial
-- thrown @12
theorem vX11_letter_9 (k0 : Int32) (c1 : 32 ≤ k0.toInt) (c2 : 126 < k0.toInt) : k0.toInt < 32 ∨ 126 < k0.toInt := by
  first | assumption | omega | (subst_vars; omega) | trivial
set_option maxHeartbeats 4000000 in
set_option maxRecDepth 100000 in
theorem NX11_letter (l : Launch) (D : va_G) (cy : Nat → ClassId) (ad : Nat → Nat) (A : Nat → Prop) (sz0 : Nat) (sa : Nat → Nat) (hfl : l.stackTraces = false) (κ : KS) (sz sl : Nat) (hAF : ∀ q, A q → Fr sz0 q) (hAn : ∀ q : Nat, sz ≤ q → A q) (k0 : Int32) (hpre : L9 (κ.2.2.1 9) ∧ 0 ≤ (κ.1 6).toInt ∧ (κ.1 6).toInt ≤ 40) : vx_Met l yX11_letter (Cond.code yX11_letter cX11_letter 2 (some .int) :: GWc) ({ frames := 6, cells := 1, slots := 6, locals := 90 }) (PcC D cy ad A sz0 sa [.ref (ad 0), .int k0] κ sz sl) (va_Qi (fun (r : Int32) (u : (Nat → Int32) × Int32) => ((L9 u.1 ∧ r.toInt = u.2.toInt ∧ u.2.toInt = (κ.1 6).toInt + 1 ∧ (κ.1 6).toInt < 40 ∧ 32 ≤ k0.toInt ∧ k0.toInt ≤ 126)) ∧ (u.1 = upd (κ.2.2.1 9) (κ.1 6).toNatClampNeg k0)) (fun (u : (Nat → Int32) × Int32) (t : State) => Bx D cy ad A sz sl (tI (tA κ 9 u.1) 6 u.2) (0) (0) t) A) (TX D cy ad A (fun (E : String) (u : (Nat → Int32) × Int32) => ((E = tIAE ∧ (k0.toInt < 32 ∨ 126 < k0.toInt)) ∨ (E = tISE ∧ (32 ≤ k0.toInt ∧ k0.toInt ≤ 126 ∧ 40 ≤ (κ.1 6).toInt))) ∧ (L9 u.1 ∧ u.2.toInt = (κ.1 6).toInt ∧ u.1 = (κ.2.2.1 9))) (fun (u : (Nat → Int32) × Int32) => (tI (tA κ 9 u.1) 6 u.2))) (1) (6) A := by
  refine CM_ofX (loc0 := [(0, .ref (ad 0)), (1, .int k0)]) (own := RX11) (nm := "letter") (by decide) rfl rfl rfl (Nat.le_of_ble_eq_true rfl) hAF hAn ?_
  intro p e s m below meth c ls hsz hsl hout C hP hS hl
  obtain ⟨hpre_0, hpre_1, hpre_2⟩ := hpre
  refine lv_iload_n C.x C.b dX11_letter_0 rfl (lv_at hl 1 rfl) ?_
  refine lv_bipush (v := 32) C.x C.b dX11_letter_1 (by decide +kernel) ?_
  refine lv_icmp_lt (tgt := 12) C.x C.b dX11_letter_3 (by decide) (fun c1 => ?_) (fun c1 => ?_)
  · have c1 : k0.toInt < 32 := by have h := z_lt c1; rw [show (32 : Int32).toInt = 32 from by decide +kernel] at h; exact h
    have hP : CH D cy ad A (tI (tA κ 9 (κ.2.2.1 9)) 6 (κ.1 6)) s.heap := CH.cong hP rfl rfl rfl rfl rfl rfl rfl rfl rfl rfl rfl rfl rfl rfl rfl rfl rfl rfl rfl rfl rfl rfl rfl rfl rfl rfl rfl
    exact c_iae C hfl hout ⟨(κ.2.2.1 9), (κ.1 6)⟩ ⟨(Or.inl ⟨rfl, (vX11_letter_1 k0 c1)⟩), (vX11_letter_2 κ hpre_0 hpre_1 hpre_2)⟩ hP hS hl.1 cw_888 cw_889 (is := 51) (text := "no character 32 .. 126") (by decide +kernel) dX11_letter_12 dX11_letter_15 dX11_letter_16 dX11_letter_18 dX11_letter_21 (Nat.le_of_ble_eq_true rfl) (Nat.le_of_ble_eq_true rfl) ⟨(Nat.le_of_ble_eq_true rfl), (Nat.le_of_ble_eq_true rfl)⟩ ⟨(Nat.le_of_ble_eq_true rfl), (Nat.le_of_ble_eq_true rfl)⟩
  · have c1 : 32 ≤ k0.toInt := by have h := z_nlt c1; rw [show (32 : Int32).toInt = 32 from by decide +kernel] at h; exact h
    refine lv_iload_n C.x C.b dX11_letter_6 rfl (lv_at hl 1 rfl) ?_
    refine lv_bipush (v := 126) C.x C.b dX11_letter_7 (by decide +kernel) ?_
    refine lv_icmp_le (tgt := 22) C.x C.b dX11_letter_9 (by decide) (fun c2 => ?_) (fun c2 => ?_)
    · have c2 : k0.toInt ≤ 126 := by have h := z_le c2; rw [show (126 : Int32).toInt = 126 from by decide +kernel] at h; exact h
      refine lv_aload_n C.x C.b dX11_letter_22 rfl (lv_at hl 0 rfl) ?_
      refine cg_X11_0 C hP cw_871 dX11_letter_23 ?_
      refine cg_X6_0 C hP cw_892 dX11_letter_26 ?_
      refine cg_X4_1 (v := (κ.1 6)) C hP rfl cw_893 dX11_letter_29 ?_
      refine lv_bipush (v := 40) C.x C.b dX11_letter_32 (by decide +kernel) ?_
      refine lv_icmp_lt (tgt := 47) C.x C.b dX11_letter_34 (by decide) (fun c3 => ?_) (fun c3 => ?_)
      · have c3 : (κ.1 6).toInt < 40 := by have h := z_lt c3; rw [show (40 : Int32).toInt = 40 from by decide +kernel] at h; exact h
        refine lv_aload_n C.x C.b dX11_letter_47 rfl (lv_at hl 0 rfl) ?_
        refine cg_X11_0 C hP cw_871 dX11_letter_48 ?_
        refine cg_X6_0 C hP cw_892 dX11_letter_51 ?_
        refine lv_iload_n C.x C.b dX11_letter_54 rfl (lv_at hl 1 rfl) ?_
        refine lv_i2c C.x C.b dX11_letter_55 rfl ?_
        refine lv_topi (fun x4 ex4 => ?_)
        have fx4 : x4.toInt = k0.toInt := (vX11_letter_3 k0 x4 c1 c2 ex4)
        refine c_callVv (n := 1) (As := [.int x4]) (rest := []) C hP hS hl.1 (NX4_append l D cy ad A sz0 sa κ s.heap.size (SLT s.heap) C.f (fun q h => C.a q (Nat.le_trans hS.1 h)) x4 (vX11_letter_4 κ k0 x4 hpre_0 hpre_1 hpre_2 c1 c2 c3 ex4 fx4)) ⟨cw_894, cw_473, by decide +kernel⟩ ⟨cw_895, cw_896, cw_484⟩ rfl (hP.recvS (k := 2) (ci := 6) C.K rfl rfl) rfl rfl (lv_room (Nat.le_of_ble_eq_true rfl)) ⟨Nat.le_of_ble_eq_true rfl, Nat.le_of_ble_eq_true rfl⟩ ⟨(Nat.le_of_ble_eq_true rfl), (Nat.le_of_ble_eq_true rfl)⟩ dX11_letter_56 (fun u H locs hr5 hP hS => ?_)
        obtain ⟨F6, n7⟩ := u
        have hP : CH D cy ad A (tI (tA κ 9 F6) 6 n7) H := hP
        obtain ⟨hr5, hr5y⟩ := hr5
        have hr5y : (κ.1 6).toInt < 40 → F6 = upd (κ.2.2.1 9) (κ.1 6).toNatClampNeg x4 := hr5y
        have hr5 : (L9 F6 ∧ ((κ.1 6).toInt < 40 → n7.toInt = (κ.1 6).toInt + 1) ∧ (40 ≤ (κ.1 6).toInt → n7.toInt = (κ.1 6).toInt)) := hr5
        obtain ⟨hr5_0, hr5_1, hr5_2⟩ := hr5
        refine lv_aload_n C.x C.b dX11_letter_59 rfl (lv_at hl 0 rfl) ?_
        refine cg_X11_0 C hP cw_871 dX11_letter_60 ?_
        refine cg_X6_0 C hP cw_892 dX11_letter_63 ?_
        refine cg_X4_1 (v := n7) C hP rfl cw_893 dX11_letter_66 ?_
        refine vx_ret ?_
        exact c_reti C hsz hsl ⟨F6, n7⟩ ⟨(vX11_letter_5 κ k0 x4 F6 n7 hpre_0 hpre_1 hpre_2 c1 c2 c3 ex4 fx4 hr5_0 hr5_1 hr5_2), (vX11_letter_6 κ k0 x4 F6 n7 hpre_0 hpre_1 hpre_2 c1 c2 c3 ex4 fx4 hr5y hr5_0 hr5_1 hr5_2)⟩ hP hS ⟨(Nat.le_of_ble_eq_true rfl), (Nat.le_of_ble_eq_true rfl)⟩ ⟨(Nat.le_of_ble_eq_true rfl), (Nat.le_of_ble_eq_true rfl)⟩ dX11_letter_69
      · have c3 : 40 ≤ (κ.1 6).toInt := by have h := z_nlt c3; rw [show (40 : Int32).toInt = 40 from by decide +kernel] at h; exact h
        have hP : CH D cy ad A (tI (tA κ 9 (κ.2.2.1 9)) 6 (κ.1 6)) s.heap := CH.cong hP rfl rfl rfl rfl rfl rfl rfl rfl rfl rfl rfl rfl rfl rfl rfl rfl rfl rfl rfl rfl rfl rfl rfl rfl rfl rfl rfl
        exact c_ise C hfl hout ⟨(κ.2.2.1 9), (κ.1 6)⟩ ⟨(Or.inr ⟨rfl, (vX11_letter_7 κ k0 hpre_1 hpre_2 c1 c2 c3)⟩), (vX11_letter_8 κ hpre_0 hpre_1 hpre_2 c3)⟩ hP hS hl.1 cw_890 cw_891 (is := 68) (text := "the text has 40 characters") (by decide +kernel) dX11_letter_37 dX11_letter_40 dX11_letter_41 dX11_letter_43 dX11_letter_46 (Nat.le_of_ble_eq_true rfl) (Nat.le_of_ble_eq_true rfl) ⟨(Nat.le_of_ble_eq_true rfl), (Nat.le_of_ble_eq_true rfl)⟩ ⟨(Nat.le_of_ble_eq_true rfl), (Nat.le_of_ble_eq_true rfl)⟩
    · have c2 : 126 < k0.toInt := by have h := z_nle c2; rw [show (126 : Int32).toInt = 126 from by decide +kernel] at h; exact h
      have hP : CH D cy ad A (tI (tA κ 9 (κ.2.2.1 9)) 6 (κ.1 6)) s.heap := CH.cong hP rfl rfl rfl rfl rfl rfl rfl rfl rfl rfl rfl rfl rfl rfl rfl rfl rfl rfl rfl rfl rfl rfl rfl rfl rfl rfl rfl
      exact c_iae C hfl hout ⟨(κ.2.2.1 9), (κ.1 6)⟩ ⟨(Or.inl ⟨rfl, (vX11_letter_9 k0 c1 c2)⟩), (vX11_letter_2 κ hpre_0 hpre_1 hpre_2)⟩ hP hS hl.1 cw_888 cw_889 (is := 51) (text := "no character 32 .. 126") (by decide +kernel) dX11_letter_12 dX11_letter_15 dX11_letter_16 dX11_letter_18 dX11_letter_21 (Nat.le_of_ble_eq_true rfl) (Nat.le_of_ble_eq_true rfl) ⟨(Nat.le_of_ble_eq_true rfl), (Nat.le_of_ble_eq_true rfl)⟩ ⟨(Nat.le_of_ble_eq_true rfl), (Nat.le_of_ble_eq_true rfl)⟩
