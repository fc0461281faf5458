-- post @4
theorem vJ5_length_8abf5_1 (κ : KS) (k0 : Nat) (b1 : Nat) (x2 : Int32) (sbb1 : sbL κ.2.2.2.2 k0 = oL κ.2.2.2.2 b1) (lbb1 : (oL κ.2.2.2.2 b1 = 16 ∨ oL κ.2.2.2.2 b1 = 34 ∨ oL κ.2.2.2.2 b1 = 70)) (cbb1 : (oI κ.2.2.2.2 25 k0).toInt ≤ ((oL κ.2.2.2.2 b1 : Nat) : Int)) (nbb1 : 0 ≤ (oI κ.2.2.2.2 25 k0).toInt) (tx2 : (oI κ.2.2.2.2 25 k0).toInt = x2.toInt) : x2.toInt = (oI κ.2.2.2.2 25 k0).toInt := by
  first | assumption | omega | (subst_vars; omega) | trivial
set_option maxHeartbeats 4000000 in
set_option maxRecDepth 100000 in
theorem NJ5_length_8abf5 (l : Launch) (D : va_G) (cy : Nat → ClassId) (ad : Nat → Nat) (A : Nat → Prop) (sz0 : Nat) (sa : Nat → Nat)  (κ : KS) (sz sl : Nat) (hAF : ∀ q, A q → Fr sz0 q) (hAn : ∀ q : Nat, sz ≤ q → A q) (k0 : Nat) (ht0 : oT κ.2.2.2.2 k0 = 12) (hPV : PV sa κ.2.2.2.2) : Met l yJ5_length_8abf5 (Cond.code yJ5_length_8abf5 cJ5_length_8abf5 1 (some .int) :: GWc) ({ frames := 0, cells := 0, slots := 0, locals := 0 }) (PcC D cy ad A sz0 sa [.ref k0] κ sz sl) (va_Qi (fun (r : Int32) (u : Unit) => (r.toInt = (oI κ.2.2.2.2 25 k0).toInt)) (fun (u : Unit) (t : State) => Bx D cy ad A sz sl κ (0) (0) t) A) (0) (0) A := by
  refine CM_of (loc0 := [(0, .ref k0)]) (own := RJ5) (nm := "length") (by decide) rfl rfl rfl (Nat.le_of_ble_eq_true rfl) hAF hAn ?_
  intro p e s m below meth c ls hsz hsl C hP hS hl
  refine lv_aload_n C.x C.b dJ5_length_8abf5_0 rfl (lv_at hl 0 rfl) ?_
  obtain ⟨b1, ebb1, tbb1, sbb1, lbb1, cbb1, nbb1, zbb1⟩ : ∃ b, oR κ.2.2.2.2 12 k0 = some b ∧ oT κ.2.2.2.2 b = 8 ∧ sbL κ.2.2.2.2 k0 = oL κ.2.2.2.2 b ∧ (oL κ.2.2.2.2 b = 16 ∨ oL κ.2.2.2.2 b = 34 ∨ oL κ.2.2.2.2 b = 70) ∧ (oI κ.2.2.2.2 25 k0).toInt ≤ ((oL κ.2.2.2.2 b : Nat) : Int) ∧ 0 ≤ (oI κ.2.2.2.2 25 k0).toInt ∧ oI κ.2.2.2.2 23 k0 = 0 := hPV.sb ht0
  obtain ⟨x2, ex2⟩ : ∃ z, oI κ.2.2.2.2 25 k0 = z := ⟨_, rfl⟩
  have tx2 : (oI κ.2.2.2.2 25 k0).toInt = x2.toInt := by rw [ex2]
  refine pg_J4_3 (v := x2) C hP (t20 (a := k0) (t := 12) ht0) ex2 cw_157 dJ5_length_8abf5_1 ?_
  exact c_reti C hsz hsl () (vJ5_length_8abf5_1 κ k0 b1 x2 sbb1 lbb1 cbb1 nbb1 tx2) hP hS ⟨(Nat.le_of_ble_eq_true rfl), (Nat.le_of_ble_eq_true rfl)⟩ ⟨(Nat.le_of_ble_eq_true rfl), (Nat.le_of_ble_eq_true rfl)⟩ dJ5_length_8abf5_4

set_option maxHeartbeats 4000000 in
set_option maxRecDepth 100000 in
theorem NJ5_isLatin1_aae02 (l : Launch) (D : va_G) (cy : Nat → ClassId) (ad : Nat → Nat) (A : Nat → Prop) (sz0 : Nat) (sa : Nat → Nat)  (κ : KS) (sz sl : Nat) (hAF : ∀ q, A q → Fr sz0 q) (hAn : ∀ q : Nat, sz ≤ q → A q) (k0 : Nat) (ht0 : oT κ.2.2.2.2 k0 = 12) (hPV : PV sa κ.2.2.2.2) : Met l yJ5_isLatin1_aae02 (Cond.code yJ5_isLatin1_aae02 cJ5_isLatin1_aae02 1 (some .boolean) :: GWc) ({ frames := 0, cells := 0, slots := 0, locals := 0 }) (PcC D cy ad A sz0 sa [.ref k0] κ sz sl) (va_Qi (fun (r : Int32) (u : Unit) => (r = (1 : Int32))) (fun (u : Unit) (t : State) => Bx D cy ad A sz sl κ (0) (0) t) A) (0) (0) A := by
  refine CM_of (loc0 := [(0, .ref k0)]) (own := RJ5) (nm := "isLatin1") (by decide) rfl rfl rfl (Nat.le_of_ble_eq_true rfl) hAF hAn ?_
  intro p e s m below meth c ls hsz hsl C hP hS hl
  refine va_gets (C := "java/lang/String") (n := "COMPACT_STRINGS") (d := "Z") (A := A) (v := .int 1) C.x C.b (C.cs) hS C.o (C.w _ cw_18) (fun _ h9 => h9) dJ5_isLatin1_aae02_0 ?_
  refine lv_if_eq (tgt := 17) C.x C.b dJ5_isLatin1_aae02_3 (by decide) (fun c1 => absurd c1 (by decide +kernel)) (fun _ => ?_)
  refine lv_aload_n C.x C.b dJ5_isLatin1_aae02_6 rfl (lv_at hl 0 rfl) ?_
  obtain ⟨b2, ebb2, tbb2, sbb2, lbb2, cbb2, nbb2, zbb2⟩ : ∃ b, oR κ.2.2.2.2 12 k0 = some b ∧ oT κ.2.2.2.2 b = 8 ∧ sbL κ.2.2.2.2 k0 = oL κ.2.2.2.2 b ∧ (oL κ.2.2.2.2 b = 16 ∨ oL κ.2.2.2.2 b = 34 ∨ oL κ.2.2.2.2 b = 70) ∧ (oI κ.2.2.2.2 25 k0).toInt ≤ ((oL κ.2.2.2.2 b : Nat) : Int) ∧ 0 ≤ (oI κ.2.2.2.2 25 k0).toInt ∧ oI κ.2.2.2.2 23 k0 = 0 := hPV.sb ht0
  refine pg_J4_1 (v := 0) C hP (t20 (a := k0) (t := 12) ht0) zbb2 cw_21 dJ5_isLatin1_aae02_7 ?_
  refine lv_if_ne (tgt := 17) C.x C.b dJ5_isLatin1_aae02_10 (by decide) (fun c3 => absurd (by decide +kernel) c3) (fun _ => ?_)
  refine lv_iconst (v := 1) C.x C.b dJ5_isLatin1_aae02_13 (by decide +kernel) ?_
  refine lv_goto (tgt := 18) C.x C.b dJ5_isLatin1_aae02_14 (by decide) ?_
  exact c_retz (ty := .boolean) (hv := rfl) C hsz hsl () rfl hP hS ⟨(Nat.le_of_ble_eq_true rfl), (Nat.le_of_ble_eq_true rfl)⟩ ⟨(Nat.le_of_ble_eq_true rfl), (Nat.le_of_ble_eq_true rfl)⟩ dJ5_isLatin1_aae02_18

-- post @4
theorem vJ5_getValue_6d5f1_1 (κ : KS) (k0 : Nat) (b1 : Nat) (sbb1 : sbL κ.2.2.2.2 k0 = oL κ.2.2.2.2 b1) (lbb1 : (oL κ.2.2.2.2 b1 = 16 ∨ oL κ.2.2.2.2 b1 = 34 ∨ oL κ.2.2.2.2 b1 = 70)) (cbb1 : (oI κ.2.2.2.2 25 k0).toInt ≤ ((oL κ.2.2.2.2 b1 : Nat) : Int)) (nbb1 : 0 ≤ (oI κ.2.2.2.2 25 k0).toInt) : (oI κ.2.2.2.2 25 k0).toInt ≤ ((oL κ.2.2.2.2 b1 : Nat) : Int) := by
  first | assumption | omega | (subst_vars; omega) | trivial
set_option maxHeartbeats 4000000 in
set_option maxRecDepth 100000 in
theorem NJ5_getValue_6d5f1 (l : Launch) (D : va_G) (cy : Nat → ClassId) (ad : Nat → Nat) (A : Nat → Prop) (sz0 : Nat) (sa : Nat → Nat)  (κ : KS) (sz sl : Nat) (hAF : ∀ q, A q → Fr sz0 q) (hAn : ∀ q : Nat, sz ≤ q → A q) (k0 : Nat) (ht0 : oT κ.2.2.2.2 k0 = 12) (hPV : PV sa κ.2.2.2.2) : Met l yJ5_getValue_6d5f1 (Cond.code yJ5_getValue_6d5f1 cJ5_getValue_6d5f1 1 (some (.array .byte)) :: GWc) ({ frames := 0, cells := 0, slots := 0, locals := 0 }) (PcC D cy ad A sz0 sa [.ref k0] κ sz sl) (va_Qq (fun (r : Option Nat) (u : Unit) => (NN κ.2.2.2.2 8 r) ∧ ((oI κ.2.2.2.2 25 k0).toInt ≤ ((oL κ.2.2.2.2 ((r).getD 0) : Nat) : Int))) (fun (u : Unit) (t : State) => Bx D cy ad A sz sl κ (0) (0) t) A) (0) (0) A := by
  refine CM_of (loc0 := [(0, .ref k0)]) (own := RJ5) (nm := "getValue") (by decide) rfl rfl rfl (Nat.le_of_ble_eq_true rfl) hAF hAn ?_
  intro p e s m below meth c ls hsz hsl C hP hS hl
  refine lv_aload_n C.x C.b dJ5_getValue_6d5f1_0 rfl (lv_at hl 0 rfl) ?_
  obtain ⟨b1, ebb1, tbb1, sbb1, lbb1, cbb1, nbb1, zbb1⟩ : ∃ b, oR κ.2.2.2.2 12 k0 = some b ∧ oT κ.2.2.2.2 b = 8 ∧ sbL κ.2.2.2.2 k0 = oL κ.2.2.2.2 b ∧ (oL κ.2.2.2.2 b = 16 ∨ oL κ.2.2.2.2 b = 34 ∨ oL κ.2.2.2.2 b = 70) ∧ (oI κ.2.2.2.2 25 k0).toInt ≤ ((oL κ.2.2.2.2 b : Nat) : Int) ∧ 0 ≤ (oI κ.2.2.2.2 25 k0).toInt ∧ oI κ.2.2.2.2 23 k0 = 0 := hPV.sb ht0
  refine pg_J4_0 (v := some b1) C hP (t20 (a := k0) (t := 12) ht0) ebb1 cw_20 dJ5_getValue_6d5f1_1 ?_
  exact c_retq (v := (some b1)) (Or.inr ⟨_, rfl⟩) C hsz hsl () ⟨⟨b1, rfl, tbb1⟩, (vJ5_getValue_6d5f1_1 κ k0 b1 sbb1 lbb1 cbb1 nbb1)⟩ hP hS ⟨(Nat.le_of_ble_eq_true rfl), (Nat.le_of_ble_eq_true rfl)⟩ ⟨(Nat.le_of_ble_eq_true rfl), (Nat.le_of_ble_eq_true rfl)⟩ dJ5_getValue_6d5f1_4

-- nw@6 @6
theorem vJ8_newLength_cabcc_1 (k0 : Int32) (k1 : Int32) (k2 : Int32) (x1 : Int32) (x2 : Int32) (hpre_0 : 0 ≤ k0.toInt) (hpre_1 : k0.toInt ≤ 100) (hpre_2 : 0 ≤ k1.toInt) (hpre_3 : k1.toInt ≤ 100) (hpre_4 : 1 ≤ k2.toInt) (hpre_5 : k2.toInt ≤ 100) (hx1 : x1.toInt = max k1.toInt k2.toInt) (ex2 : x2 = k0 + x1) : x2.toInt = k0.toInt + x1.toInt := by
  rw [ex2, z_add (by omega) (by omega)]; first | done | omega
-- dead@10 @21
theorem vJ8_newLength_cabcc_2 (k0 : Int32) (k1 : Int32) (k2 : Int32) (x1 : Int32) (x2 : Int32) (hpre_0 : 0 ≤ k0.toInt) (hpre_1 : k0.toInt ≤ 100) (hpre_2 : 0 ≤ k1.toInt) (hpre_3 : k1.toInt ≤ 100) (hpre_4 : 1 ≤ k2.toInt) (hpre_5 : k2.toInt ≤ 100) (hx1 : x1.toInt = max k1.toInt k2.toInt) (ex2 : x2 = k0 + x1) (tx2 : x2.toInt = k0.toInt + x1.toInt) (c3 : x2.toInt ≤ 0) : False := by
  first | assumption | omega | (subst_vars; omega) | trivial
-- dead@16 @21
theorem vJ8_newLength_cabcc_3 (k0 : Int32) (k1 : Int32) (k2 : Int32) (x1 : Int32) (x2 : Int32) (hpre_0 : 0 ≤ k0.toInt) (hpre_1 : k0.toInt ≤ 100) (hpre_2 : 0 ≤ k1.toInt) (hpre_3 : k1.toInt ≤ 100) (hpre_4 : 1 ≤ k2.toInt) (hpre_5 : k2.toInt ≤ 100) (hx1 : x1.toInt = max k1.toInt k2.toInt) (ex2 : x2 = k0 + x1) (tx2 : x2.toInt = k0.toInt + x1.toInt) (c3 : 0 < x2.toInt) (c4 : 2147483639 < x2.toInt) : False := by
  first | assumption | omega | (subst_vars; omega) | trivial
-- post @20
theorem vJ8_newLength_cabcc_4 (k0 : Int32) (k1 : Int32) (k2 : Int32) (x1 : Int32) (x2 : Int32) (hpre_0 : 0 ≤ k0.toInt) (hpre_1 : k0.toInt ≤ 100) (hpre_2 : 0 ≤ k1.toInt) (hpre_3 : k1.toInt ≤ 100) (hpre_4 : 1 ≤ k2.toInt) (hpre_5 : k2.toInt ≤ 100) (hx1 : x1.toInt = max k1.toInt k2.toInt) (ex2 : x2 = k0 + x1) (tx2 : x2.toInt = k0.toInt + x1.toInt) (c3 : 0 < x2.toInt) (c4 : x2.toInt ≤ 2147483639) : x2.toInt = k0.toInt + max k1.toInt k2.toInt := by
  first | assumption | omega | (subst_vars; omega) | trivial
set_option maxHeartbeats 4000000 in
set_option maxRecDepth 100000 in
theorem NJ8_newLength_cabcc (l : Launch) (D : va_G) (cy : Nat → ClassId) (ad : Nat → Nat) (A : Nat → Prop) (sz0 : Nat) (sa : Nat → Nat)  (κ : KS) (sz sl : Nat) (hAF : ∀ q, A q → Fr sz0 q) (hAn : ∀ q : Nat, sz ≤ q → A q) (k0 : Int32) (k1 : Int32) (k2 : Int32) (hPV : PV sa κ.2.2.2.2) (hpre : 0 ≤ k0.toInt ∧ k0.toInt ≤ 100 ∧ 0 ≤ k1.toInt ∧ k1.toInt ≤ 100 ∧ 1 ≤ k2.toInt ∧ k2.toInt ≤ 100) : Met l yJ8_newLength_cabcc (Cond.code yJ8_newLength_cabcc cJ8_newLength_cabcc 4 (some .int) :: GWc) ({ frames := 1, cells := 0, slots := 0, locals := 30 }) (PcC D cy ad A sz0 sa [.int k0, .int k1, .int k2] κ sz sl) (va_Qi (fun (r : Int32) (u : Unit) => (r.toInt = k0.toInt + max k1.toInt k2.toInt)) (fun (u : Unit) (t : State) => Bx D cy ad A sz sl κ (0) (0) t) A) (0) (0) A := by
  refine CM_of (loc0 := [(0, .int k0), (1, .int k1), (2, .int k2)]) (own := RJ8) (nm := "newLength") (by decide) rfl rfl rfl (Nat.le_of_ble_eq_true rfl) hAF hAn ?_
  intro p e s m below meth c ls hsz hsl C hP hS hl
  obtain ⟨hpre_0, hpre_1, hpre_2, hpre_3, hpre_4, hpre_5⟩ := hpre
  refine lv_iload_n C.x C.b dJ8_newLength_cabcc_0 rfl (lv_at hl 0 rfl) ?_
  refine lv_iload_n C.x C.b dJ8_newLength_cabcc_1 rfl (lv_at hl 1 rfl) ?_
  refine lv_iload_n C.x C.b dJ8_newLength_cabcc_2 rfl (lv_at hl 2 rfl) ?_
  refine c_max C hl.1 cw_174 cw_175 cw_176 cw_177 (Nat.le_of_ble_eq_true rfl) (Nat.le_of_ble_eq_true rfl) (Nat.le_of_ble_eq_true rfl) (Nat.le_of_ble_eq_true rfl) dJ8_newLength_cabcc_3 (fun x1 hx1 => ?_)
  have hx1 : x1.toInt = max k1.toInt k2.toInt := by have h := hx1; exact h
  refine lv_iadd C.x C.b dJ8_newLength_cabcc_6 ?_
  refine lv_topi (fun x2 ex2 => ?_)
  have tx2 : x2.toInt = k0.toInt + x1.toInt := (vJ8_newLength_cabcc_1 k0 k1 k2 x1 x2 hpre_0 hpre_1 hpre_2 hpre_3 hpre_4 hpre_5 hx1 ex2)
  refine lv_istore_n (lv' := [(3, .int x2), (0, .int k0), (1, .int k1), (2, .int k2)]) C.x C.b dJ8_newLength_cabcc_7 rfl hl (by decide) rfl (fun ls hl => ?_)
  refine lv_iconst (v := 0) C.x C.b dJ8_newLength_cabcc_8 (by decide +kernel) ?_
  refine lv_iload_n C.x C.b dJ8_newLength_cabcc_9 rfl (lv_at hl 0 rfl) ?_
  refine lv_icmp_ge (tgt := 21) C.x C.b dJ8_newLength_cabcc_10 (by decide) (fun c3 => ?_) (fun c3 => ?_)
  · have c3 : x2.toInt ≤ 0 := by have h := z_le c3; rw [show (0 : Int32).toInt = 0 from by decide +kernel] at h; exact h
    exact absurd (vJ8_newLength_cabcc_2 k0 k1 k2 x1 x2 hpre_0 hpre_1 hpre_2 hpre_3 hpre_4 hpre_5 hx1 ex2 tx2 c3) id
  · have c3 : 0 < x2.toInt := by have h := z_nle c3; rw [show (0 : Int32).toInt = 0 from by decide +kernel] at h; exact h
    refine lv_iload_n C.x C.b dJ8_newLength_cabcc_13 rfl (lv_at hl 0 rfl) ?_
    refine lv_ldc (v := 2147483639) C.x C.b C.o (C.w _ cw_178) dJ8_newLength_cabcc_14 ?_
    refine lv_icmp_gt (tgt := 21) C.x C.b dJ8_newLength_cabcc_16 (by decide) (fun c4 => ?_) (fun c4 => ?_)
    · have c4 : 2147483639 < x2.toInt := by have h := z_lt c4; rw [show (2147483639 : Int32).toInt = 2147483639 from by decide +kernel] at h; exact h
      exact absurd (vJ8_newLength_cabcc_3 k0 k1 k2 x1 x2 hpre_0 hpre_1 hpre_2 hpre_3 hpre_4 hpre_5 hx1 ex2 tx2 c3 c4) id
    · have c4 : x2.toInt ≤ 2147483639 := by have h := z_nlt c4; rw [show (2147483639 : Int32).toInt = 2147483639 from by decide +kernel] at h; exact h
      refine lv_iload_n C.x C.b dJ8_newLength_cabcc_19 rfl (lv_at hl 0 rfl) ?_
      exact c_reti C hsz hsl () (vJ8_newLength_cabcc_4 k0 k1 k2 x1 x2 hpre_0 hpre_1 hpre_2 hpre_3 hpre_4 hpre_5 hx1 ex2 tx2 c3 c4) hP hS ⟨(Nat.le_of_ble_eq_true rfl), (Nat.le_of_ble_eq_true rfl)⟩ ⟨(Nat.le_of_ble_eq_true rfl), (Nat.le_of_ble_eq_true rfl)⟩ dJ8_newLength_cabcc_20

-- nw@15 @15
theorem vJ5_newCapacity_0f7a4_1 (κ : KS) (k0 : Nat) (k1 : Int32) (b1 : Nat) (x2 : Int32) (x4 : Int32) (hpre_0 : ((sbL κ.2.2.2.2 k0 : Nat) : Int) < k1.toInt) (hpre_1 : k1.toInt ≤ ((sbL κ.2.2.2.2 k0 : Nat) : Int) + 1) (hpre_2 : k1.toInt ≤ 70) (sbb1 : sbL κ.2.2.2.2 k0 = oL κ.2.2.2.2 b1) (lbb1 : (oL κ.2.2.2.2 b1 = 16 ∨ oL κ.2.2.2.2 b1 = 34 ∨ oL κ.2.2.2.2 b1 = 70)) (cbb1 : (oI κ.2.2.2.2 25 k0).toInt ≤ ((oL κ.2.2.2.2 b1 : Nat) : Int)) (nbb1 : 0 ≤ (oI κ.2.2.2.2 25 k0).toInt) (ex2 : x2 = Int32.ofNat (oL κ.2.2.2.2 b1)) (tx2 : x2.toInt = ((oL κ.2.2.2.2 b1 : Nat) : Int)) (lx2 : oL κ.2.2.2.2 b1 ≤ 100) (ex4 : x4 = k1 - x2) : x4.toInt = k1.toInt - x2.toInt := by
  rw [ex4, z_sub (by omega) (by omega)]; first | done | omega
-- nw@28 @28
theorem vJ5_newCapacity_0f7a4_2 (κ : KS) (k0 : Nat) (k1 : Int32) (b1 : Nat) (x2 : Int32) (x4 : Int32) (x6 : Int32) (hpre_0 : ((sbL κ.2.2.2.2 k0 : Nat) : Int) < k1.toInt) (hpre_1 : k1.toInt ≤ ((sbL κ.2.2.2.2 k0 : Nat) : Int) + 1) (hpre_2 : k1.toInt ≤ 70) (sbb1 : sbL κ.2.2.2.2 k0 = oL κ.2.2.2.2 b1) (lbb1 : (oL κ.2.2.2.2 b1 = 16 ∨ oL κ.2.2.2.2 b1 = 34 ∨ oL κ.2.2.2.2 b1 = 70)) (cbb1 : (oI κ.2.2.2.2 25 k0).toInt ≤ ((oL κ.2.2.2.2 b1 : Nat) : Int)) (nbb1 : 0 ≤ (oI κ.2.2.2.2 25 k0).toInt) (ex2 : x2 = Int32.ofNat (oL κ.2.2.2.2 b1)) (tx2 : x2.toInt = ((oL κ.2.2.2.2 b1 : Nat) : Int)) (lx2 : oL κ.2.2.2.2 b1 ≤ 100) (ex4 : x4 = k1 - x2) (tx4 : x4.toInt = k1.toInt - x2.toInt) (ex6 : x6 = x2 + (2 : Int32)) : x6.toInt = x2.toInt + 2 := by
  have q2 : (2 : Int32).toInt = 2 := by decide +kernel
  have w1 : (2 : Int32).toInt = 2 := by decide +kernel
  rw [ex6, z_add (by omega) (by omega)]; first | done | omega
-- pre:J8_newLength_cabcc@29 @29
theorem vJ5_newCapacity_0f7a4_3 (κ : KS) (k0 : Nat) (k1 : Int32) (b1 : Nat) (x2 : Int32) (x4 : Int32) (x6 : Int32) (hpre_0 : ((sbL κ.2.2.2.2 k0 : Nat) : Int) < k1.toInt) (hpre_1 : k1.toInt ≤ ((sbL κ.2.2.2.2 k0 : Nat) : Int) + 1) (hpre_2 : k1.toInt ≤ 70) (sbb1 : sbL κ.2.2.2.2 k0 = oL κ.2.2.2.2 b1) (lbb1 : (oL κ.2.2.2.2 b1 = 16 ∨ oL κ.2.2.2.2 b1 = 34 ∨ oL κ.2.2.2.2 b1 = 70)) (cbb1 : (oI κ.2.2.2.2 25 k0).toInt ≤ ((oL κ.2.2.2.2 b1 : Nat) : Int)) (nbb1 : 0 ≤ (oI κ.2.2.2.2 25 k0).toInt) (ex2 : x2 = Int32.ofNat (oL κ.2.2.2.2 b1)) (tx2 : x2.toInt = ((oL κ.2.2.2.2 b1 : Nat) : Int)) (lx2 : oL κ.2.2.2.2 b1 ≤ 100) (ex4 : x4 = k1 - x2) (tx4 : x4.toInt = k1.toInt - x2.toInt) (ex6 : x6 = x2 + (2 : Int32)) (tx6 : x6.toInt = x2.toInt + 2) : 0 ≤ x2.toInt ∧ x2.toInt ≤ 100 ∧ 0 ≤ x4.toInt ∧ x4.toInt ≤ 100 ∧ 1 ≤ x6.toInt ∧ x6.toInt ≤ 100 := by
  have q2 : (2 : Int32).toInt = 2 := by decide +kernel
  refine ⟨?_, ?_, ?_, ?_, ?_, ?_⟩ <;> first | assumption | omega | (subst_vars; omega) | trivial
-- post @58
theorem vJ5_newCapacity_0f7a4_4 (κ : KS) (k0 : Nat) (k1 : Int32) (b1 : Nat) (x2 : Int32) (x4 : Int32) (x6 : Int32) (r7 : Int32) (hpre_0 : ((sbL κ.2.2.2.2 k0 : Nat) : Int) < k1.toInt) (hpre_1 : k1.toInt ≤ ((sbL κ.2.2.2.2 k0 : Nat) : Int) + 1) (hpre_2 : k1.toInt ≤ 70) (sbb1 : sbL κ.2.2.2.2 k0 = oL κ.2.2.2.2 b1) (lbb1 : (oL κ.2.2.2.2 b1 = 16 ∨ oL κ.2.2.2.2 b1 = 34 ∨ oL κ.2.2.2.2 b1 = 70)) (cbb1 : (oI κ.2.2.2.2 25 k0).toInt ≤ ((oL κ.2.2.2.2 b1 : Nat) : Int)) (nbb1 : 0 ≤ (oI κ.2.2.2.2 25 k0).toInt) (ex2 : x2 = Int32.ofNat (oL κ.2.2.2.2 b1)) (tx2 : x2.toInt = ((oL κ.2.2.2.2 b1 : Nat) : Int)) (lx2 : oL κ.2.2.2.2 b1 ≤ 100) (ex4 : x4 = k1 - x2) (tx4 : x4.toInt = k1.toInt - x2.toInt) (ex6 : x6 = x2 + (2 : Int32)) (tx6 : x6.toInt = x2.toInt + 2) (hr7 : r7.toInt = x2.toInt + max x4.toInt x6.toInt) (c8 : ¬ r7.toInt = 2147483647) : r7.toInt = 2 * ((sbL κ.2.2.2.2 k0 : Nat) : Int) + 2 ∧ ((sbL κ.2.2.2.2 k0 : Nat) : Int) ≤ 34 := by
  have q2 : (2 : Int32).toInt = 2 := by decide +kernel
  refine ⟨?_, ?_⟩ <;> first | assumption | omega | (subst_vars; omega) | trivial
-- dead@38 @41
theorem vJ5_newCapacity_0f7a4_5 (κ : KS) (k0 : Nat) (k1 : Int32) (b1 : Nat) (x2 : Int32) (x4 : Int32) (x6 : Int32) (r7 : Int32) (hpre_0 : ((sbL κ.2.2.2.2 k0 : Nat) : Int) < k1.toInt) (hpre_1 : k1.toInt ≤ ((sbL κ.2.2.2.2 k0 : Nat) : Int) + 1) (hpre_2 : k1.toInt ≤ 70) (sbb1 : sbL κ.2.2.2.2 k0 = oL κ.2.2.2.2 b1) (lbb1 : (oL κ.2.2.2.2 b1 = 16 ∨ oL κ.2.2.2.2 b1 = 34 ∨ oL κ.2.2.2.2 b1 = 70)) (cbb1 : (oI κ.2.2.2.2 25 k0).toInt ≤ ((oL κ.2.2.2.2 b1 : Nat) : Int)) (nbb1 : 0 ≤ (oI κ.2.2.2.2 25 k0).toInt) (ex2 : x2 = Int32.ofNat (oL κ.2.2.2.2 b1)) (tx2 : x2.toInt = ((oL κ.2.2.2.2 b1 : Nat) : Int)) (lx2 : oL κ.2.2.2.2 b1 ≤ 100) (ex4 : x4 = k1 - x2) (tx4 : x4.toInt = k1.toInt - x2.toInt) (ex6 : x6 = x2 + (2 : Int32)) (tx6 : x6.toInt = x2.toInt + 2) (hr7 : r7.toInt = x2.toInt + max x4.toInt x6.toInt) (c8 : r7.toInt = 2147483647) : False := by
  have q2 : (2 : Int32).toInt = 2 := by decide +kernel
  first | assumption | omega | (subst_vars; omega) | trivial
set_option maxHeartbeats 4000000 in
set_option maxRecDepth 100000 in
theorem NJ5_newCapacity_0f7a4 (l : Launch) (D : va_G) (cy : Nat → ClassId) (ad : Nat → Nat) (A : Nat → Prop) (sz0 : Nat) (sa : Nat → Nat)  (κ : KS) (sz sl : Nat) (hAF : ∀ q, A q → Fr sz0 q) (hAn : ∀ q : Nat, sz ≤ q → A q) (k0 : Nat) (k1 : Int32) (ht0 : oT κ.2.2.2.2 k0 = 12) (hPV : PV sa κ.2.2.2.2) (hpre : ((sbL κ.2.2.2.2 k0 : Nat) : Int) < k1.toInt ∧ k1.toInt ≤ ((sbL κ.2.2.2.2 k0 : Nat) : Int) + 1 ∧ k1.toInt ≤ 70) : Met l yJ5_newCapacity_0f7a4 (Cond.code yJ5_newCapacity_0f7a4 cJ5_newCapacity_0f7a4 6 (some .int) :: GWc) ({ frames := 2, cells := 0, slots := 0, locals := 53 }) (PcC D cy ad A sz0 sa [.ref k0, .int k1] κ sz sl) (va_Qi (fun (r : Int32) (u : Unit) => (r.toInt = 2 * ((sbL κ.2.2.2.2 k0 : Nat) : Int) + 2 ∧ ((sbL κ.2.2.2.2 k0 : Nat) : Int) ≤ 34)) (fun (u : Unit) (t : State) => Bx D cy ad A sz sl κ (0) (0) t) A) (0) (0) A := by
  refine CM_of (loc0 := [(0, .ref k0), (1, .int k1)]) (own := RJ5) (nm := "newCapacity") (by decide) rfl rfl rfl (Nat.le_of_ble_eq_true rfl) hAF hAn ?_
  intro p e s m below meth c ls hsz hsl C hP hS hl
  obtain ⟨hpre_0, hpre_1, hpre_2⟩ := hpre
  refine lv_aload_n C.x C.b dJ5_newCapacity_0f7a4_0 rfl (lv_at hl 0 rfl) ?_
  obtain ⟨b1, ebb1, tbb1, sbb1, lbb1, cbb1, nbb1, zbb1⟩ : ∃ b, oR κ.2.2.2.2 12 k0 = some b ∧ oT κ.2.2.2.2 b = 8 ∧ sbL κ.2.2.2.2 k0 = oL κ.2.2.2.2 b ∧ (oL κ.2.2.2.2 b = 16 ∨ oL κ.2.2.2.2 b = 34 ∨ oL κ.2.2.2.2 b = 70) ∧ (oI κ.2.2.2.2 25 k0).toInt ≤ ((oL κ.2.2.2.2 b : Nat) : Int) ∧ 0 ≤ (oI κ.2.2.2.2 25 k0).toInt ∧ oI κ.2.2.2.2 23 k0 = 0 := hPV.sb ht0
  refine pg_J4_0 (v := some b1) C hP (t20 (a := k0) (t := 12) ht0) ebb1 cw_20 dJ5_newCapacity_0f7a4_1 ?_
  refine pl_8 C hP (t20 (a := b1) (t := 8) tbb1) rfl dJ5_newCapacity_0f7a4_4 (fun x2 ex2 => ?_)
  have lx2 : oL κ.2.2.2.2 b1 ≤ 100 := (hPV.t8 tbb1).1
  have tx2 : x2.toInt = ((oL κ.2.2.2.2 b1 : Nat) : Int) := by rw [ex2]; exact nI_toInt (n := oL κ.2.2.2.2 b1) (by omega)
  refine lv_istore_n (lv' := [(2, .int x2), (0, .ref k0), (1, .int k1)]) C.x C.b dJ5_newCapacity_0f7a4_5 rfl hl (by decide) rfl (fun ls hl => ?_)
  refine lv_iload_n C.x C.b dJ5_newCapacity_0f7a4_6 rfl (lv_at hl 2 rfl) ?_
  refine lv_aload_n C.x C.b dJ5_newCapacity_0f7a4_7 rfl (lv_at hl 1 rfl) ?_
  refine pg_J4_1 (v := 0) C hP (t20 (a := k0) (t := 12) ht0) zbb1 cw_21 dJ5_newCapacity_0f7a4_8 ?_
  refine lv_ishl C.x C.b dJ5_newCapacity_0f7a4_11 ?_
  refine lv_topi (fun x3 ex3 => ?_)
  obtain rfl : k1 = x3 := (ex3.trans (sb_shl0 _)).symm
  refine lv_istore_n (lv' := [(3, .int k1), (2, .int x2), (0, .ref k0), (1, .int k1)]) C.x C.b dJ5_newCapacity_0f7a4_12 rfl hl (by decide) rfl (fun ls hl => ?_)
  refine lv_iload_n C.x C.b dJ5_newCapacity_0f7a4_13 rfl (lv_at hl 0 rfl) ?_
  refine lv_iload_n C.x C.b dJ5_newCapacity_0f7a4_14 rfl (lv_at hl 1 rfl) ?_
  refine lv_isub C.x C.b dJ5_newCapacity_0f7a4_15 ?_
  refine lv_topi (fun x4 ex4 => ?_)
  have tx4 : x4.toInt = k1.toInt - x2.toInt := (vJ5_newCapacity_0f7a4_1 κ k0 k1 b1 x2 x4 hpre_0 hpre_1 hpre_2 sbb1 lbb1 cbb1 nbb1 ex2 tx2 lx2 ex4)
  refine lv_istore (lv' := [(4, .int x4), (3, .int k1), (2, .int x2), (0, .ref k0), (1, .int k1)]) C.x C.b dJ5_newCapacity_0f7a4_16 hl (by decide) rfl (fun ls hl => ?_)
  refine lv_iload_n C.x C.b dJ5_newCapacity_0f7a4_18 rfl (lv_at hl 2 rfl) ?_
  refine lv_iload C.x C.b dJ5_newCapacity_0f7a4_19 (lv_at hl 0 rfl) ?_
  refine lv_iload_n C.x C.b dJ5_newCapacity_0f7a4_21 rfl (lv_at hl 2 rfl) ?_
  refine lv_iconst (v := 2) C.x C.b dJ5_newCapacity_0f7a4_22 (by decide +kernel) ?_
  refine lv_aload_n C.x C.b dJ5_newCapacity_0f7a4_23 rfl (lv_at hl 3 rfl) ?_
  refine pg_J4_1 (v := 0) C hP (t20 (a := k0) (t := 12) ht0) zbb1 cw_21 dJ5_newCapacity_0f7a4_24 ?_
  refine lv_ishl C.x C.b dJ5_newCapacity_0f7a4_27 ?_
  refine lv_topi (fun x5 ex5 => ?_)
  obtain rfl : (2 : Int32) = x5 := (ex5.trans (sb_shl0 _)).symm
  refine lv_iadd C.x C.b dJ5_newCapacity_0f7a4_28 ?_
  refine lv_topi (fun x6 ex6 => ?_)
  have tx6 : x6.toInt = x2.toInt + 2 := (vJ5_newCapacity_0f7a4_2 κ k0 k1 b1 x2 x4 x6 hpre_0 hpre_1 hpre_2 sbb1 lbb1 cbb1 nbb1 ex2 tx2 lx2 ex4 tx4 ex6)
  refine c_callSi (C2 := "") (b := 0) (n := 3) (As := [.int x2, .int x4, .int x6]) (rest := []) C hP hS hl.1 (NJ8_newLength_cabcc l D cy ad A sz0 sa κ s.heap.size (SLT s.heap) C.f (fun q h => C.a q (Nat.le_trans hS.1 h)) x2 x4 x6 hPV (vJ5_newCapacity_0f7a4_3 κ k0 k1 b1 x2 x4 x6 hpre_0 hpre_1 hpre_2 sbb1 lbb1 cbb1 nbb1 ex2 tx2 lx2 ex4 tx4 ex6 tx6)) ⟨cw_170, cw_173, by decide +kernel⟩ ⟨cw_171, cw_172⟩ rfl rfl (lv_room (Nat.le_of_ble_eq_true rfl)) ⟨Nat.le_of_ble_eq_true rfl, Nat.le_of_ble_eq_true rfl⟩ ⟨(Nat.le_of_ble_eq_true rfl), (Nat.le_of_ble_eq_true rfl)⟩ dJ5_newCapacity_0f7a4_29 (fun r7 u H locs hr7 hP hS => ?_)
  have hr7 : (r7.toInt = x2.toInt + max x4.toInt x6.toInt) := hr7
  refine lv_istore (lv' := [(5, .int r7), (4, .int x4), (3, .int k1), (2, .int x2), (0, .ref k0), (1, .int k1)]) C.x C.b dJ5_newCapacity_0f7a4_32 hl (by decide) rfl (fun ls hl => ?_)
  refine lv_iload C.x C.b dJ5_newCapacity_0f7a4_34 (lv_at hl 0 rfl) ?_
  refine lv_ldc (v := 2147483647) C.x C.b C.o (C.w _ cw_169) dJ5_newCapacity_0f7a4_36 ?_
  refine lv_icmp_ne (tgt := 51) C.x C.b dJ5_newCapacity_0f7a4_38 (by decide) (fun c8 => ?_) (fun c8 => ?_)
  · have c8 : ¬ r7.toInt = 2147483647 := by have h := z_ne c8; rw [show (2147483647 : Int32).toInt = 2147483647 from by decide +kernel] at h; exact h
    refine lv_iload C.x C.b dJ5_newCapacity_0f7a4_51 (lv_at hl 0 rfl) ?_
    refine lv_aload_n C.x C.b dJ5_newCapacity_0f7a4_53 rfl (lv_at hl 4 rfl) ?_
    refine pg_J4_1 (v := 0) C hP (t20 (a := k0) (t := 12) ht0) zbb1 cw_21 dJ5_newCapacity_0f7a4_54 ?_
    refine lv_ishr C.x C.b dJ5_newCapacity_0f7a4_57 ?_
    refine lv_topi (fun x9 ex9 => ?_)
    obtain rfl : r7 = x9 := (ex9.trans (sb_shr0 _)).symm
    exact c_reti C hsz hsl () (vJ5_newCapacity_0f7a4_4 κ k0 k1 b1 x2 x4 x6 r7 hpre_0 hpre_1 hpre_2 sbb1 lbb1 cbb1 nbb1 ex2 tx2 lx2 ex4 tx4 ex6 tx6 hr7 c8) hP hS ⟨(Nat.le_of_ble_eq_true rfl), (Nat.le_of_ble_eq_true rfl)⟩ ⟨(Nat.le_of_ble_eq_true rfl), (Nat.le_of_ble_eq_true rfl)⟩ dJ5_newCapacity_0f7a4_58
  · have c8 : r7.toInt = 2147483647 := by have h := z_eq c8; rw [show (2147483647 : Int32).toInt = 2147483647 from by decide +kernel] at h; exact h
    exact absurd (vJ5_newCapacity_0f7a4_5 κ k0 k1 b1 x2 x4 x6 r7 hpre_0 hpre_1 hpre_2 sbb1 lbb1 cbb1 nbb1 ex2 tx2 lx2 ex4 tx4 ex6 tx6 hr7 c8) id

-- nb@15 @15
theorem vJ7_copyOf_9075b_1 (κ : KS) (k0 : Nat) (k1 : Int32) (x1 : Int32) (hpre_0 : ((oL κ.2.2.2.2 k0 : Nat) : Int) < k1.toInt) (hpre_1 : k1.toInt ≤ 70) (hl8_0 : oL κ.2.2.2.2 k0 ≤ 100) (ex1 : x1 = Int32.ofNat (oL κ.2.2.2.2 k0)) (tx1 : x1.toInt = ((oL κ.2.2.2.2 k0 : Nat) : Int)) (lx1 : oL κ.2.2.2.2 k0 ≤ 100) (c2 : ¬ k1.toInt = x1.toInt) : k1.toInt = ((k1.toInt.toNat : Nat) : Int) := by
  first | assumption | omega | (subst_vars; omega) | trivial
-- nbl@15 @15
theorem vJ7_copyOf_9075b_2 (κ : KS) (k0 : Nat) (k1 : Int32) (x1 : Int32) (hpre_0 : ((oL κ.2.2.2.2 k0 : Nat) : Int) < k1.toInt) (hpre_1 : k1.toInt ≤ 70) (hl8_0 : oL κ.2.2.2.2 k0 ≤ 100) (ex1 : x1 = Int32.ofNat (oL κ.2.2.2.2 k0)) (tx1 : x1.toInt = ((oL κ.2.2.2.2 k0 : Nat) : Int)) (lx1 : oL κ.2.2.2.2 k0 ≤ 100) (c2 : ¬ k1.toInt = x1.toInt) : k1.toInt.toNat ≤ 100 := by
  first | assumption | omega | (subst_vars; omega) | trivial
-- room @15
theorem vJ7_copyOf_9075b_3 (κ : KS) (k0 : Nat) (k1 : Int32) (x1 : Int32) (hpre_0 : ((oL κ.2.2.2.2 k0 : Nat) : Int) < k1.toInt) (hpre_1 : k1.toInt ≤ 70) (hl8_0 : oL κ.2.2.2.2 k0 ≤ 100) (ex1 : x1 = Int32.ofNat (oL κ.2.2.2.2 k0)) (tx1 : x1.toInt = ((oL κ.2.2.2.2 k0 : Nat) : Int)) (lx1 : oL κ.2.2.2.2 k0 ≤ 100) (c2 : ¬ k1.toInt = x1.toInt) : 0 + k1.toInt.toNat ≤ k1.toInt.toNat := by
  first | assumption | omega | (subst_vars; omega) | trivial
-- room @25
theorem vJ7_copyOf_9075b_4 (κ : KS) (k0 : Nat) (k1 : Int32) (x1 : Int32) (q3 : Nat) (x6 : Int32) (hpre_0 : ((oL κ.2.2.2.2 k0 : Nat) : Int) < k1.toInt) (hpre_1 : k1.toInt ≤ 70) (hl8_0 : oL κ.2.2.2.2 k0 ≤ 100) (ex1 : x1 = Int32.ofNat (oL κ.2.2.2.2 k0)) (tx1 : x1.toInt = ((oL κ.2.2.2.2 k0 : Nat) : Int)) (lx1 : oL κ.2.2.2.2 k0 ≤ 100) (c2 : ¬ k1.toInt = x1.toInt) (kl5 : oL (newB κ.2.2.2.2 q3 (k1.toInt.toNat) (fun _ => 0)) k0 = oL κ.2.2.2.2 k0) (hlq3 : oL (newB κ.2.2.2.2 q3 (k1.toInt.toNat) (fun _ => 0)) q3 = k1.toInt.toNat) (ex6 : x6 = Int32.ofNat (oL (newB κ.2.2.2.2 q3 (k1.toInt.toNat) (fun _ => 0)) k0)) (tx6 : x6.toInt = ((oL (newB κ.2.2.2.2 q3 (k1.toInt.toNat) (fun _ => 0)) k0 : Nat) : Int)) (lx6 : oL (newB κ.2.2.2.2 q3 (k1.toInt.toNat) (fun _ => 0)) k0 ≤ 100) : 0 + k1.toInt.toNat ≤ k1.toInt.toNat := by
  first | assumption | omega | (subst_vars; omega) | trivial
-- cpy1 @28
theorem vJ7_copyOf_9075b_5 (κ : KS) (k0 : Nat) (k1 : Int32) (x1 : Int32) (q3 : Nat) (x6 : Int32) (x7 : Int32) (hpre_0 : ((oL κ.2.2.2.2 k0 : Nat) : Int) < k1.toInt) (hpre_1 : k1.toInt ≤ 70) (hl8_0 : oL κ.2.2.2.2 k0 ≤ 100) (ex1 : x1 = Int32.ofNat (oL κ.2.2.2.2 k0)) (tx1 : x1.toInt = ((oL κ.2.2.2.2 k0 : Nat) : Int)) (lx1 : oL κ.2.2.2.2 k0 ≤ 100) (c2 : ¬ k1.toInt = x1.toInt) (kl5 : oL (newB κ.2.2.2.2 q3 (k1.toInt.toNat) (fun _ => 0)) k0 = oL κ.2.2.2.2 k0) (hlq3 : oL (newB κ.2.2.2.2 q3 (k1.toInt.toNat) (fun _ => 0)) q3 = k1.toInt.toNat) (ex6 : x6 = Int32.ofNat (oL (newB κ.2.2.2.2 q3 (k1.toInt.toNat) (fun _ => 0)) k0)) (tx6 : x6.toInt = ((oL (newB κ.2.2.2.2 q3 (k1.toInt.toNat) (fun _ => 0)) k0 : Nat) : Int)) (lx6 : oL (newB κ.2.2.2.2 q3 (k1.toInt.toNat) (fun _ => 0)) k0 ≤ 100) (hx7 : x7.toInt = min x6.toInt k1.toInt) : (0 : Int32).toInt + x7.toInt ≤ (((oL (newB κ.2.2.2.2 q3 (k1.toInt.toNat) (fun _ => 0)) k0) : Nat) : Int) := by
  have q0 : (0 : Int32).toInt = 0 := by decide +kernel
  first | assumption | omega | (subst_vars; omega) | trivial
-- cpy2 @28
theorem vJ7_copyOf_9075b_6 (κ : KS) (k0 : Nat) (k1 : Int32) (x1 : Int32) (q3 : Nat) (x6 : Int32) (x7 : Int32) (hpre_0 : ((oL κ.2.2.2.2 k0 : Nat) : Int) < k1.toInt) (hpre_1 : k1.toInt ≤ 70) (hl8_0 : oL κ.2.2.2.2 k0 ≤ 100) (ex1 : x1 = Int32.ofNat (oL κ.2.2.2.2 k0)) (tx1 : x1.toInt = ((oL κ.2.2.2.2 k0 : Nat) : Int)) (lx1 : oL κ.2.2.2.2 k0 ≤ 100) (c2 : ¬ k1.toInt = x1.toInt) (kl5 : oL (newB κ.2.2.2.2 q3 (k1.toInt.toNat) (fun _ => 0)) k0 = oL κ.2.2.2.2 k0) (hlq3 : oL (newB κ.2.2.2.2 q3 (k1.toInt.toNat) (fun _ => 0)) q3 = k1.toInt.toNat) (ex6 : x6 = Int32.ofNat (oL (newB κ.2.2.2.2 q3 (k1.toInt.toNat) (fun _ => 0)) k0)) (tx6 : x6.toInt = ((oL (newB κ.2.2.2.2 q3 (k1.toInt.toNat) (fun _ => 0)) k0 : Nat) : Int)) (lx6 : oL (newB κ.2.2.2.2 q3 (k1.toInt.toNat) (fun _ => 0)) k0 ≤ 100) (hx7 : x7.toInt = min x6.toInt k1.toInt) : (0 : Int32).toInt + x7.toInt ≤ (((oL (newB κ.2.2.2.2 q3 (k1.toInt.toNat) (fun _ => 0)) q3) : Nat) : Int) := by
  have q0 : (0 : Int32).toInt = 0 := by decide +kernel
  first | assumption | omega | (subst_vars; omega) | trivial
-- cp0 @28
theorem vJ7_copyOf_9075b_7   : 0 ≤ (0 : Int32).toInt := by
  have q0 : (0 : Int32).toInt = 0 := by decide +kernel
  first | assumption | omega | (subst_vars; omega) | trivial
-- cp0 @28
theorem vJ7_copyOf_9075b_8 (κ : KS) (k0 : Nat) (k1 : Int32) (x1 : Int32) (q3 : Nat) (x6 : Int32) (x7 : Int32) (hpre_0 : ((oL κ.2.2.2.2 k0 : Nat) : Int) < k1.toInt) (hpre_1 : k1.toInt ≤ 70) (hl8_0 : oL κ.2.2.2.2 k0 ≤ 100) (ex1 : x1 = Int32.ofNat (oL κ.2.2.2.2 k0)) (tx1 : x1.toInt = ((oL κ.2.2.2.2 k0 : Nat) : Int)) (lx1 : oL κ.2.2.2.2 k0 ≤ 100) (c2 : ¬ k1.toInt = x1.toInt) (kl5 : oL (newB κ.2.2.2.2 q3 (k1.toInt.toNat) (fun _ => 0)) k0 = oL κ.2.2.2.2 k0) (hlq3 : oL (newB κ.2.2.2.2 q3 (k1.toInt.toNat) (fun _ => 0)) q3 = k1.toInt.toNat) (ex6 : x6 = Int32.ofNat (oL (newB κ.2.2.2.2 q3 (k1.toInt.toNat) (fun _ => 0)) k0)) (tx6 : x6.toInt = ((oL (newB κ.2.2.2.2 q3 (k1.toInt.toNat) (fun _ => 0)) k0 : Nat) : Int)) (lx6 : oL (newB κ.2.2.2.2 q3 (k1.toInt.toNat) (fun _ => 0)) k0 ≤ 100) (hx7 : x7.toInt = min x6.toInt k1.toInt) : 0 ≤ x7.toInt := by
  first | assumption | omega | (subst_vars; omega) | trivial
-- post @32
theorem vJ7_copyOf_9075b_9 (κ : KS) (k0 : Nat) (k1 : Int32) (x1 : Int32) (q3 : Nat) (x6 : Int32) (x7 : Int32) (hpre_0 : ((oL κ.2.2.2.2 k0 : Nat) : Int) < k1.toInt) (hpre_1 : k1.toInt ≤ 70) (hl8_0 : oL κ.2.2.2.2 k0 ≤ 100) (ex1 : x1 = Int32.ofNat (oL κ.2.2.2.2 k0)) (tx1 : x1.toInt = ((oL κ.2.2.2.2 k0 : Nat) : Int)) (lx1 : oL κ.2.2.2.2 k0 ≤ 100) (c2 : ¬ k1.toInt = x1.toInt) (kl5 : oL (newB κ.2.2.2.2 q3 (k1.toInt.toNat) (fun _ => 0)) k0 = oL κ.2.2.2.2 k0) (hlq3 : oL (newB κ.2.2.2.2 q3 (k1.toInt.toNat) (fun _ => 0)) q3 = k1.toInt.toNat) (ex6 : x6 = Int32.ofNat (oL (newB κ.2.2.2.2 q3 (k1.toInt.toNat) (fun _ => 0)) k0)) (tx6 : x6.toInt = ((oL (newB κ.2.2.2.2 q3 (k1.toInt.toNat) (fun _ => 0)) k0 : Nat) : Int)) (lx6 : oL (newB κ.2.2.2.2 q3 (k1.toInt.toNat) (fun _ => 0)) k0 ≤ 100) (hx7 : x7.toInt = min x6.toInt k1.toInt) : ((oL (newB κ.2.2.2.2 q3 (k1.toInt.toNat) (fun _ => 0)) q3 : Nat) : Int) = k1.toInt := by
  first | assumption | omega | (subst_vars; omega) | trivial
-- grow @32
theorem vJ7_copyOf_9075b_10 (κ : KS) (k0 : Nat) (k1 : Int32) (x1 : Int32) (q3 : Nat) (x6 : Int32) (x7 : Int32) (hpre_0 : ((oL κ.2.2.2.2 k0 : Nat) : Int) < k1.toInt) (hpre_1 : k1.toInt ≤ 70) (hl8_0 : oL κ.2.2.2.2 k0 ≤ 100) (ex1 : x1 = Int32.ofNat (oL κ.2.2.2.2 k0)) (tx1 : x1.toInt = ((oL κ.2.2.2.2 k0 : Nat) : Int)) (lx1 : oL κ.2.2.2.2 k0 ≤ 100) (c2 : ¬ k1.toInt = x1.toInt) (kl5 : oL (newB κ.2.2.2.2 q3 (k1.toInt.toNat) (fun _ => 0)) k0 = oL κ.2.2.2.2 k0) (hlq3 : oL (newB κ.2.2.2.2 q3 (k1.toInt.toNat) (fun _ => 0)) q3 = k1.toInt.toNat) (ex6 : x6 = Int32.ofNat (oL (newB κ.2.2.2.2 q3 (k1.toInt.toNat) (fun _ => 0)) k0)) (tx6 : x6.toInt = ((oL (newB κ.2.2.2.2 q3 (k1.toInt.toNat) (fun _ => 0)) k0 : Nat) : Int)) (lx6 : oL (newB κ.2.2.2.2 q3 (k1.toInt.toNat) (fun _ => 0)) k0 ≤ 100) (hx7 : x7.toInt = min x6.toInt k1.toInt) : 0 + k1.toInt.toNat ≤ k1.toInt.toNat := by
  first | assumption | omega | (subst_vars; omega) | trivial
-- growm @32
theorem vJ7_copyOf_9075b_11 (κ : KS) (k0 : Nat) (k1 : Int32) (x1 : Int32) (q3 : Nat) (x6 : Int32) (x7 : Int32) (hpre_0 : ((oL κ.2.2.2.2 k0 : Nat) : Int) < k1.toInt) (hpre_1 : k1.toInt ≤ 70) (hl8_0 : oL κ.2.2.2.2 k0 ≤ 100) (ex1 : x1 = Int32.ofNat (oL κ.2.2.2.2 k0)) (tx1 : x1.toInt = ((oL κ.2.2.2.2 k0 : Nat) : Int)) (lx1 : oL κ.2.2.2.2 k0 ≤ 100) (c2 : ¬ k1.toInt = x1.toInt) (kl5 : oL (newB κ.2.2.2.2 q3 (k1.toInt.toNat) (fun _ => 0)) k0 = oL κ.2.2.2.2 k0) (hlq3 : oL (newB κ.2.2.2.2 q3 (k1.toInt.toNat) (fun _ => 0)) q3 = k1.toInt.toNat) (ex6 : x6 = Int32.ofNat (oL (newB κ.2.2.2.2 q3 (k1.toInt.toNat) (fun _ => 0)) k0)) (tx6 : x6.toInt = ((oL (newB κ.2.2.2.2 q3 (k1.toInt.toNat) (fun _ => 0)) k0 : Nat) : Int)) (lx6 : oL (newB κ.2.2.2.2 q3 (k1.toInt.toNat) (fun _ => 0)) k0 ≤ 100) (hx7 : x7.toInt = min x6.toInt k1.toInt) : k1.toInt.toNat ≤ k1.toInt.toNat := by
  first | assumption | omega | (subst_vars; omega) | trivial
-- dead@3 @6
theorem vJ7_copyOf_9075b_12 (κ : KS) (k0 : Nat) (k1 : Int32) (x1 : Int32) (hpre_0 : ((oL κ.2.2.2.2 k0 : Nat) : Int) < k1.toInt) (hpre_1 : k1.toInt ≤ 70) (hl8_0 : oL κ.2.2.2.2 k0 ≤ 100) (ex1 : x1 = Int32.ofNat (oL κ.2.2.2.2 k0)) (tx1 : x1.toInt = ((oL κ.2.2.2.2 k0 : Nat) : Int)) (lx1 : oL κ.2.2.2.2 k0 ≤ 100) (c2 : k1.toInt = x1.toInt) : False := by
  first | assumption | omega | (subst_vars; omega) | trivial
set_option maxHeartbeats 4000000 in
set_option maxRecDepth 100000 in
theorem NJ7_copyOf_9075b (l : Launch) (D : va_G) (cy : Nat → ClassId) (ad : Nat → Nat) (A : Nat → Prop) (sz0 : Nat) (sa : Nat → Nat)  (κ : KS) (sz sl : Nat) (hAF : ∀ q, A q → Fr sz0 q) (hAn : ∀ q : Nat, sz ≤ q → A q) (k0 : Nat) (k1 : Int32) (ht0 : oT κ.2.2.2.2 k0 = 8) (hPV : PV sa κ.2.2.2.2) (hpre : ((oL κ.2.2.2.2 k0 : Nat) : Int) < k1.toInt ∧ k1.toInt ≤ 70) : Met l yJ7_copyOf_9075b (Cond.code yJ7_copyOf_9075b cJ7_copyOf_9075b 3 (some (.array .byte)) :: GWc) ({ frames := 1, cells := 1, slots := k1.toInt.toNat, locals := 40 }) (PcC D cy ad A sz0 sa [.ref k0, .int k1] κ sz sl) (va_Qq (fun (r : Option Nat) (u : PL) => (EX κ.2.2.2.2 u) ∧ (PV sa u) ∧ (NN u 8 r) ∧ (SBS κ.2.2.2.2 u) ∧ (((oL u ((r).getD 0) : Nat) : Int) = k1.toInt)) (fun (u : PL) (t : State) => Bx D cy ad A sz sl (tP κ u) (1) (k1.toInt.toNat) t) A) (1) (k1.toInt.toNat) A := by
  refine CM_of (loc0 := [(0, .ref k0), (1, .int k1)]) (own := RJ7) (nm := "copyOf") (by decide) rfl rfl rfl (Nat.le_of_ble_eq_true rfl) hAF hAn ?_
  intro p e s m below meth c ls hsz hsl C hP hS hl
  obtain ⟨hpre_0, hpre_1⟩ := hpre
  have hl8_0 : oL κ.2.2.2.2 k0 ≤ 100 := (hPV.t8 ht0).1
  refine lv_iload_n C.x C.b dJ7_copyOf_9075b_0 rfl (lv_at hl 1 rfl) ?_
  refine lv_aload_n C.x C.b dJ7_copyOf_9075b_1 rfl (lv_at hl 0 rfl) ?_
  refine pl_8 C hP (t20 (a := k0) (t := 8) ht0) rfl dJ7_copyOf_9075b_2 (fun x1 ex1 => ?_)
  have lx1 : oL κ.2.2.2.2 k0 ≤ 100 := (hPV.t8 ht0).1
  have tx1 : x1.toInt = ((oL κ.2.2.2.2 k0 : Nat) : Int) := by rw [ex1]; exact nI_toInt (n := oL κ.2.2.2.2 k0) (by omega)
  refine lv_icmp_ne (tgt := 14) C.x C.b dJ7_copyOf_9075b_3 (by decide) (fun c2 => ?_) (fun c2 => ?_)
  · have c2 : ¬ k1.toInt = x1.toInt := by have h := z_ne c2; exact h
    refine lv_iload_n C.x C.b dJ7_copyOf_9075b_14 rfl (lv_at hl 1 rfl) ?_
    refine cn_b C hP hS (vJ7_copyOf_9075b_1 κ k0 k1 x1 hpre_0 hpre_1 hl8_0 ex1 tx1 lx1 c2) (Nat.le_trans (vJ7_copyOf_9075b_2 κ k0 k1 x1 hpre_0 hpre_1 hl8_0 ex1 tx1 lx1 c2) (by decide)) cw_19 ⟨(Nat.le_of_ble_eq_true rfl), (vJ7_copyOf_9075b_3 κ k0 k1 x1 hpre_0 hpre_1 hl8_0 ex1 tx1 lx1 c2)⟩ dJ7_copyOf_9075b_15 (fun q3 H h0q3 hP hS => ?_)
    have exz4 : EX κ.2.2.2.2 (newB κ.2.2.2.2 q3 (k1.toInt.toNat) (fun _ => 0)) := (EX.newB h0q3)
    have kl5 : oL (newB κ.2.2.2.2 q3 (k1.toInt.toNat) (fun _ => 0)) k0 = oL κ.2.2.2.2 k0 := exz4.L ht0 (by decide)
    have pvz4 : PV sa (newB κ.2.2.2.2 q3 (k1.toInt.toNat) (fun _ => 0)) := (hPV.byt h0q3 (vJ7_copyOf_9075b_2 κ k0 k1 x1 hpre_0 hpre_1 hl8_0 ex1 tx1 lx1 c2) B8.zero)
    have hlq3 : oL (newB κ.2.2.2.2 q3 (k1.toInt.toNat) (fun _ => 0)) q3 = k1.toInt.toNat := vu_eq
    refine lv_astore_n (lv' := [(2, .ref q3), (0, .ref k0), (1, .int k1)]) C.x C.b dJ7_copyOf_9075b_17 rfl hl (by decide) rfl (fun ls hl => ?_)
    refine lv_aload_n C.x C.b dJ7_copyOf_9075b_18 rfl (lv_at hl 1 rfl) ?_
    refine lv_iconst (v := 0) C.x C.b dJ7_copyOf_9075b_19 (by decide +kernel) ?_
    refine lv_aload_n C.x C.b dJ7_copyOf_9075b_20 rfl (lv_at hl 0 rfl) ?_
    refine lv_iconst (v := 0) C.x C.b dJ7_copyOf_9075b_21 (by decide +kernel) ?_
    refine lv_aload_n C.x C.b dJ7_copyOf_9075b_22 rfl (lv_at hl 1 rfl) ?_
    refine pl_8 C hP (t20 (a := k0) (t := 8) (exz4.T ht0 (by decide))) rfl dJ7_copyOf_9075b_23 (fun x6 ex6 => ?_)
    have lx6 : oL (newB κ.2.2.2.2 q3 (k1.toInt.toNat) (fun _ => 0)) k0 ≤ 100 := (pvz4.t8 (exz4.T ht0 (by decide))).1
    have tx6 : x6.toInt = ((oL (newB κ.2.2.2.2 q3 (k1.toInt.toNat) (fun _ => 0)) k0 : Nat) : Int) := by rw [ex6]; exact nI_toInt (n := oL (newB κ.2.2.2.2 q3 (k1.toInt.toNat) (fun _ => 0)) k0) (by omega)
    refine lv_iload_n C.x C.b dJ7_copyOf_9075b_24 rfl (lv_at hl 2 rfl) ?_
    refine c_min C hl.1 cw_192 cw_193 cw_176 cw_194 (Nat.le_of_ble_eq_true rfl) (Nat.le_of_ble_eq_true rfl) (Nat.le_of_ble_eq_true rfl) (vJ7_copyOf_9075b_4 κ k0 k1 x1 q3 x6 hpre_0 hpre_1 hl8_0 ex1 tx1 lx1 c2 kl5 hlq3 ex6 tx6 lx6) dJ7_copyOf_9075b_25 (fun x7 hx7 => ?_)
    have hx7 : x7.toInt = min x6.toInt k1.toInt := by have h := hx7; exact h
    refine ct_copy (n0 := (oL (newB κ.2.2.2.2 q3 (k1.toInt.toNat) (fun _ => 0)) k0)) (n1 := (oL (newB κ.2.2.2.2 q3 (k1.toInt.toNat) (fun _ => 0)) q3)) C hP hS hl.1 (bok_8 pvz4 (exz4.T ht0 (by decide))) (t20 (a := q3) (t := 8) (by show oT (newB κ.2.2.2.2 q3 (k1.toInt.toNat) (fun _ => 0)) q3 = 8; rw [newB_T, if_pos rfl])) rfl (pvz4.t8 (by show oT (newB κ.2.2.2.2 q3 (k1.toInt.toNat) (fun _ => 0)) q3 = 8; rw [newB_T, if_pos rfl])).2 (vJ7_copyOf_9075b_7  ) (vJ7_copyOf_9075b_7  ) (vJ7_copyOf_9075b_8 κ k0 k1 x1 q3 x6 x7 hpre_0 hpre_1 hl8_0 ex1 tx1 lx1 c2 kl5 hlq3 ex6 tx6 lx6 hx7) (vJ7_copyOf_9075b_5 κ k0 k1 x1 q3 x6 x7 hpre_0 hpre_1 hl8_0 ex1 tx1 lx1 c2 kl5 hlq3 ex6 tx6 lx6 hx7) (vJ7_copyOf_9075b_6 κ k0 k1 x1 q3 x6 x7 hpre_0 hpre_1 hl8_0 ex1 tx1 lx1 c2 kl5 hlq3 ex6 tx6 lx6 hx7) ⟨cw_195, cw_196, cw_197, cw_198⟩ ⟨Nat.le_of_ble_eq_true rfl, Nat.le_of_ble_eq_true rfl⟩ dJ7_copyOf_9075b_28 (fun H locs F8 hfF8 hP hS => ?_)
    have exz9 : EX (newB κ.2.2.2.2 q3 (k1.toInt.toNat) (fun _ => 0)) (sB (newB κ.2.2.2.2 q3 (k1.toInt.toNat) (fun _ => 0)) q3 F8) := EX.stB
    have pvz9 : PV sa (sB (newB κ.2.2.2.2 q3 (k1.toInt.toNat) (fun _ => 0)) q3 F8) := (pvz4.stB (by show oT (newB κ.2.2.2.2 q3 (k1.toInt.toNat) (fun _ => 0)) q3 = 8; rw [newB_T, if_pos rfl]) hfF8)
    refine lv_aload_n C.x C.b dJ7_copyOf_9075b_31 rfl (lv_at hl 0 rfl) ?_
    have hP : CH D cy ad A (tP κ (sB (newB κ.2.2.2.2 q3 (k1.toInt.toNat) (fun _ => 0)) q3 F8)) H := CH.cong hP rfl rfl rfl rfl rfl rfl rfl rfl rfl rfl rfl rfl rfl rfl rfl rfl rfl rfl rfl rfl rfl rfl rfl rfl rfl rfl rfl
    exact c_retq (v := (some q3)) (Or.inr ⟨_, rfl⟩) C hsz hsl (sB (newB κ.2.2.2.2 q3 (k1.toInt.toNat) (fun _ => 0)) q3 F8) ⟨(exz4.trans exz9), pvz9, ⟨q3, rfl, (exz9.T (by show oT (newB κ.2.2.2.2 q3 (k1.toInt.toNat) (fun _ => 0)) q3 = 8; rw [newB_T, if_pos rfl]) (by decide))⟩, (show SBS κ.2.2.2.2 (sB (newB κ.2.2.2.2 q3 (k1.toInt.toNat) (fun _ => 0)) q3 F8) from (SBS.newB h0q3 : SBS κ.2.2.2.2 (newB κ.2.2.2.2 q3 (k1.toInt.toNat) (fun _ => 0)))), (vJ7_copyOf_9075b_9 κ k0 k1 x1 q3 x6 x7 hpre_0 hpre_1 hl8_0 ex1 tx1 lx1 c2 kl5 hlq3 ex6 tx6 lx6 hx7)⟩ hP hS ⟨(Nat.le_of_ble_eq_true rfl), (vJ7_copyOf_9075b_10 κ k0 k1 x1 q3 x6 x7 hpre_0 hpre_1 hl8_0 ex1 tx1 lx1 c2 kl5 hlq3 ex6 tx6 lx6 hx7)⟩ ⟨(Nat.le_of_ble_eq_true rfl), (vJ7_copyOf_9075b_11 κ k0 k1 x1 q3 x6 x7 hpre_0 hpre_1 hl8_0 ex1 tx1 lx1 c2 kl5 hlq3 ex6 tx6 lx6 hx7)⟩ dJ7_copyOf_9075b_32
  · have c2 : k1.toInt = x1.toInt := by have h := z_eq c2; exact h
    exact absurd (vJ7_copyOf_9075b_12 κ k0 k1 x1 hpre_0 hpre_1 hl8_0 ex1 tx1 lx1 c2) id

-- nw@13 @13
theorem vJ5_ensureCapacityInternal_d00df_1 (κ : KS) (k0 : Nat) (k1 : Int32) (b1 : Nat) (x2 : Int32) (x4 : Int32) (hpre_0 : 0 ≤ k1.toInt) (hpre_1 : k1.toInt ≤ ((sbL κ.2.2.2.2 k0 : Nat) : Int) + 1) (hpre_2 : k1.toInt ≤ 70) (hgr_0 : gr1 (k1.toInt) ≤ 1) (hgr_1 : gr70 (k1.toInt) ≤ 70) (hgr_2 : k1.toInt ≤ 16 → gr1 (k1.toInt) = 0 ∧ gr70 (k1.toInt) = 0) (hgr_3 : 16 < k1.toInt → gr1 (k1.toInt) = 1 ∧ gr70 (k1.toInt) = 70) (sbb1 : sbL κ.2.2.2.2 k0 = oL κ.2.2.2.2 b1) (lbb1 : (oL κ.2.2.2.2 b1 = 16 ∨ oL κ.2.2.2.2 b1 = 34 ∨ oL κ.2.2.2.2 b1 = 70)) (cbb1 : (oI κ.2.2.2.2 25 k0).toInt ≤ ((oL κ.2.2.2.2 b1 : Nat) : Int)) (nbb1 : 0 ≤ (oI κ.2.2.2.2 25 k0).toInt) (ex2 : x2 = Int32.ofNat (oL κ.2.2.2.2 b1)) (tx2 : x2.toInt = ((oL κ.2.2.2.2 b1 : Nat) : Int)) (lx2 : oL κ.2.2.2.2 b1 ≤ 100) (ex4 : x4 = k1 - x2) : x4.toInt = k1.toInt - x2.toInt := by
  rw [ex4, z_sub (by omega) (by omega)]; first | done | omega
-- post @38
theorem vJ5_ensureCapacityInternal_d00df_2 (κ : KS) (k0 : Nat) (k1 : Int32) (b1 : Nat) (x2 : Int32) (x4 : Int32) (hpre_0 : 0 ≤ k1.toInt) (hpre_1 : k1.toInt ≤ ((sbL κ.2.2.2.2 k0 : Nat) : Int) + 1) (hpre_2 : k1.toInt ≤ 70) (hgr_0 : gr1 (k1.toInt) ≤ 1) (hgr_1 : gr70 (k1.toInt) ≤ 70) (hgr_2 : k1.toInt ≤ 16 → gr1 (k1.toInt) = 0 ∧ gr70 (k1.toInt) = 0) (hgr_3 : 16 < k1.toInt → gr1 (k1.toInt) = 1 ∧ gr70 (k1.toInt) = 70) (sbb1 : sbL κ.2.2.2.2 k0 = oL κ.2.2.2.2 b1) (lbb1 : (oL κ.2.2.2.2 b1 = 16 ∨ oL κ.2.2.2.2 b1 = 34 ∨ oL κ.2.2.2.2 b1 = 70)) (cbb1 : (oI κ.2.2.2.2 25 k0).toInt ≤ ((oL κ.2.2.2.2 b1 : Nat) : Int)) (nbb1 : 0 ≤ (oI κ.2.2.2.2 25 k0).toInt) (ex2 : x2 = Int32.ofNat (oL κ.2.2.2.2 b1)) (tx2 : x2.toInt = ((oL κ.2.2.2.2 b1 : Nat) : Int)) (lx2 : oL κ.2.2.2.2 b1 ≤ 100) (ex4 : x4 = k1 - x2) (tx4 : x4.toInt = k1.toInt - x2.toInt) (c5 : x4.toInt ≤ 0) : (oI κ.2.2.2.2 25 k0).toInt = (oI κ.2.2.2.2 25 k0).toInt ∧ k1.toInt ≤ ((sbL κ.2.2.2.2 k0 : Nat) : Int) ∧ ((sbL κ.2.2.2.2 k0 : Nat) : Int) ≤ ((sbL κ.2.2.2.2 k0 : Nat) : Int) ∧ (gr1 (k1.toInt) ≤ 1 ∧ gr70 (k1.toInt) ≤ 70 ∧ (k1.toInt ≤ 16 → gr1 (k1.toInt) = 0 ∧ gr70 (k1.toInt) = 0) ∧ (16 < k1.toInt → gr1 (k1.toInt) = 1 ∧ gr70 (k1.toInt) = 70)) := by
  have zg0 := gr_spec (k1.toInt)
  refine ⟨?_, ?_, ?_, ?_⟩ <;> first | assumption | omega | (subst_vars; omega) | trivial
-- grow @38
theorem vJ5_ensureCapacityInternal_d00df_3 (κ : KS) (k0 : Nat) (k1 : Int32) (b1 : Nat) (x2 : Int32) (x4 : Int32) (hpre_0 : 0 ≤ k1.toInt) (hpre_1 : k1.toInt ≤ ((sbL κ.2.2.2.2 k0 : Nat) : Int) + 1) (hpre_2 : k1.toInt ≤ 70) (hgr_0 : gr1 (k1.toInt) ≤ 1) (hgr_1 : gr70 (k1.toInt) ≤ 70) (hgr_2 : k1.toInt ≤ 16 → gr1 (k1.toInt) = 0 ∧ gr70 (k1.toInt) = 0) (hgr_3 : 16 < k1.toInt → gr1 (k1.toInt) = 1 ∧ gr70 (k1.toInt) = 70) (sbb1 : sbL κ.2.2.2.2 k0 = oL κ.2.2.2.2 b1) (lbb1 : (oL κ.2.2.2.2 b1 = 16 ∨ oL κ.2.2.2.2 b1 = 34 ∨ oL κ.2.2.2.2 b1 = 70)) (cbb1 : (oI κ.2.2.2.2 25 k0).toInt ≤ ((oL κ.2.2.2.2 b1 : Nat) : Int)) (nbb1 : 0 ≤ (oI κ.2.2.2.2 25 k0).toInt) (ex2 : x2 = Int32.ofNat (oL κ.2.2.2.2 b1)) (tx2 : x2.toInt = ((oL κ.2.2.2.2 b1 : Nat) : Int)) (lx2 : oL κ.2.2.2.2 b1 ≤ 100) (ex4 : x4 = k1 - x2) (tx4 : x4.toInt = k1.toInt - x2.toInt) (c5 : x4.toInt ≤ 0) : 0 ≤ gr1 (k1.toInt) := by
  have zg0 := gr_spec (k1.toInt)
  first | assumption | omega | (subst_vars; omega) | trivial
-- grow @38
theorem vJ5_ensureCapacityInternal_d00df_4 (κ : KS) (k0 : Nat) (k1 : Int32) (b1 : Nat) (x2 : Int32) (x4 : Int32) (hpre_0 : 0 ≤ k1.toInt) (hpre_1 : k1.toInt ≤ ((sbL κ.2.2.2.2 k0 : Nat) : Int) + 1) (hpre_2 : k1.toInt ≤ 70) (hgr_0 : gr1 (k1.toInt) ≤ 1) (hgr_1 : gr70 (k1.toInt) ≤ 70) (hgr_2 : k1.toInt ≤ 16 → gr1 (k1.toInt) = 0 ∧ gr70 (k1.toInt) = 0) (hgr_3 : 16 < k1.toInt → gr1 (k1.toInt) = 1 ∧ gr70 (k1.toInt) = 70) (sbb1 : sbL κ.2.2.2.2 k0 = oL κ.2.2.2.2 b1) (lbb1 : (oL κ.2.2.2.2 b1 = 16 ∨ oL κ.2.2.2.2 b1 = 34 ∨ oL κ.2.2.2.2 b1 = 70)) (cbb1 : (oI κ.2.2.2.2 25 k0).toInt ≤ ((oL κ.2.2.2.2 b1 : Nat) : Int)) (nbb1 : 0 ≤ (oI κ.2.2.2.2 25 k0).toInt) (ex2 : x2 = Int32.ofNat (oL κ.2.2.2.2 b1)) (tx2 : x2.toInt = ((oL κ.2.2.2.2 b1 : Nat) : Int)) (lx2 : oL κ.2.2.2.2 b1 ≤ 100) (ex4 : x4 = k1 - x2) (tx4 : x4.toInt = k1.toInt - x2.toInt) (c5 : x4.toInt ≤ 0) : 0 ≤ gr70 (k1.toInt) := by
  have zg0 := gr_spec (k1.toInt)
  first | assumption | omega | (subst_vars; omega) | trivial
-- growm @38
theorem vJ5_ensureCapacityInternal_d00df_5 (κ : KS) (k0 : Nat) (k1 : Int32) (b1 : Nat) (x2 : Int32) (x4 : Int32) (hpre_0 : 0 ≤ k1.toInt) (hpre_1 : k1.toInt ≤ ((sbL κ.2.2.2.2 k0 : Nat) : Int) + 1) (hpre_2 : k1.toInt ≤ 70) (hgr_0 : gr1 (k1.toInt) ≤ 1) (hgr_1 : gr70 (k1.toInt) ≤ 70) (hgr_2 : k1.toInt ≤ 16 → gr1 (k1.toInt) = 0 ∧ gr70 (k1.toInt) = 0) (hgr_3 : 16 < k1.toInt → gr1 (k1.toInt) = 1 ∧ gr70 (k1.toInt) = 70) (sbb1 : sbL κ.2.2.2.2 k0 = oL κ.2.2.2.2 b1) (lbb1 : (oL κ.2.2.2.2 b1 = 16 ∨ oL κ.2.2.2.2 b1 = 34 ∨ oL κ.2.2.2.2 b1 = 70)) (cbb1 : (oI κ.2.2.2.2 25 k0).toInt ≤ ((oL κ.2.2.2.2 b1 : Nat) : Int)) (nbb1 : 0 ≤ (oI κ.2.2.2.2 25 k0).toInt) (ex2 : x2 = Int32.ofNat (oL κ.2.2.2.2 b1)) (tx2 : x2.toInt = ((oL κ.2.2.2.2 b1 : Nat) : Int)) (lx2 : oL κ.2.2.2.2 b1 ≤ 100) (ex4 : x4 = k1 - x2) (tx4 : x4.toInt = k1.toInt - x2.toInt) (c5 : x4.toInt ≤ 0) : gr1 (k1.toInt) ≤ gr1 (k1.toInt) := by
  have zg0 := gr_spec (k1.toInt)
  first | assumption | omega | (subst_vars; omega) | trivial
-- growm @38
theorem vJ5_ensureCapacityInternal_d00df_6 (κ : KS) (k0 : Nat) (k1 : Int32) (b1 : Nat) (x2 : Int32) (x4 : Int32) (hpre_0 : 0 ≤ k1.toInt) (hpre_1 : k1.toInt ≤ ((sbL κ.2.2.2.2 k0 : Nat) : Int) + 1) (hpre_2 : k1.toInt ≤ 70) (hgr_0 : gr1 (k1.toInt) ≤ 1) (hgr_1 : gr70 (k1.toInt) ≤ 70) (hgr_2 : k1.toInt ≤ 16 → gr1 (k1.toInt) = 0 ∧ gr70 (k1.toInt) = 0) (hgr_3 : 16 < k1.toInt → gr1 (k1.toInt) = 1 ∧ gr70 (k1.toInt) = 70) (sbb1 : sbL κ.2.2.2.2 k0 = oL κ.2.2.2.2 b1) (lbb1 : (oL κ.2.2.2.2 b1 = 16 ∨ oL κ.2.2.2.2 b1 = 34 ∨ oL κ.2.2.2.2 b1 = 70)) (cbb1 : (oI κ.2.2.2.2 25 k0).toInt ≤ ((oL κ.2.2.2.2 b1 : Nat) : Int)) (nbb1 : 0 ≤ (oI κ.2.2.2.2 25 k0).toInt) (ex2 : x2 = Int32.ofNat (oL κ.2.2.2.2 b1)) (tx2 : x2.toInt = ((oL κ.2.2.2.2 b1 : Nat) : Int)) (lx2 : oL κ.2.2.2.2 b1 ≤ 100) (ex4 : x4 = k1 - x2) (tx4 : x4.toInt = k1.toInt - x2.toInt) (c5 : x4.toInt ≤ 0) : gr70 (k1.toInt) ≤ gr70 (k1.toInt) := by
  have zg0 := gr_spec (k1.toInt)
  first | assumption | omega | (subst_vars; omega) | trivial
-- pre:J5_newCapacity_0f7a4@24 @24
theorem vJ5_ensureCapacityInternal_d00df_7 (κ : KS) (k0 : Nat) (k1 : Int32) (b1 : Nat) (x2 : Int32) (x4 : Int32) (hpre_0 : 0 ≤ k1.toInt) (hpre_1 : k1.toInt ≤ ((sbL κ.2.2.2.2 k0 : Nat) : Int) + 1) (hpre_2 : k1.toInt ≤ 70) (hgr_0 : gr1 (k1.toInt) ≤ 1) (hgr_1 : gr70 (k1.toInt) ≤ 70) (hgr_2 : k1.toInt ≤ 16 → gr1 (k1.toInt) = 0 ∧ gr70 (k1.toInt) = 0) (hgr_3 : 16 < k1.toInt → gr1 (k1.toInt) = 1 ∧ gr70 (k1.toInt) = 70) (sbb1 : sbL κ.2.2.2.2 k0 = oL κ.2.2.2.2 b1) (lbb1 : (oL κ.2.2.2.2 b1 = 16 ∨ oL κ.2.2.2.2 b1 = 34 ∨ oL κ.2.2.2.2 b1 = 70)) (cbb1 : (oI κ.2.2.2.2 25 k0).toInt ≤ ((oL κ.2.2.2.2 b1 : Nat) : Int)) (nbb1 : 0 ≤ (oI κ.2.2.2.2 25 k0).toInt) (ex2 : x2 = Int32.ofNat (oL κ.2.2.2.2 b1)) (tx2 : x2.toInt = ((oL κ.2.2.2.2 b1 : Nat) : Int)) (lx2 : oL κ.2.2.2.2 b1 ≤ 100) (ex4 : x4 = k1 - x2) (tx4 : x4.toInt = k1.toInt - x2.toInt) (c5 : 0 < x4.toInt) : ((sbL κ.2.2.2.2 k0 : Nat) : Int) < k1.toInt ∧ k1.toInt ≤ ((sbL κ.2.2.2.2 k0 : Nat) : Int) + 1 ∧ k1.toInt ≤ 70 := by
  refine ⟨?_, ?_, ?_⟩ <;> first | assumption | omega | (subst_vars; omega) | trivial
-- room @24
theorem vJ5_ensureCapacityInternal_d00df_8 (κ : KS) (k0 : Nat) (k1 : Int32) (b1 : Nat) (x2 : Int32) (x4 : Int32) (hpre_0 : 0 ≤ k1.toInt) (hpre_1 : k1.toInt ≤ ((sbL κ.2.2.2.2 k0 : Nat) : Int) + 1) (hpre_2 : k1.toInt ≤ 70) (hgr_0 : gr1 (k1.toInt) ≤ 1) (hgr_1 : gr70 (k1.toInt) ≤ 70) (hgr_2 : k1.toInt ≤ 16 → gr1 (k1.toInt) = 0 ∧ gr70 (k1.toInt) = 0) (hgr_3 : 16 < k1.toInt → gr1 (k1.toInt) = 1 ∧ gr70 (k1.toInt) = 70) (sbb1 : sbL κ.2.2.2.2 k0 = oL κ.2.2.2.2 b1) (lbb1 : (oL κ.2.2.2.2 b1 = 16 ∨ oL κ.2.2.2.2 b1 = 34 ∨ oL κ.2.2.2.2 b1 = 70)) (cbb1 : (oI κ.2.2.2.2 25 k0).toInt ≤ ((oL κ.2.2.2.2 b1 : Nat) : Int)) (nbb1 : 0 ≤ (oI κ.2.2.2.2 25 k0).toInt) (ex2 : x2 = Int32.ofNat (oL κ.2.2.2.2 b1)) (tx2 : x2.toInt = ((oL κ.2.2.2.2 b1 : Nat) : Int)) (lx2 : oL κ.2.2.2.2 b1 ≤ 100) (ex4 : x4 = k1 - x2) (tx4 : x4.toInt = k1.toInt - x2.toInt) (c5 : 0 < x4.toInt) : 0 + 0 ≤ gr1 (k1.toInt) := by
  have zg0 := gr_spec (k1.toInt)
  first | assumption | omega | (subst_vars; omega) | trivial
-- room @24
theorem vJ5_ensureCapacityInternal_d00df_9 (κ : KS) (k0 : Nat) (k1 : Int32) (b1 : Nat) (x2 : Int32) (x4 : Int32) (hpre_0 : 0 ≤ k1.toInt) (hpre_1 : k1.toInt ≤ ((sbL κ.2.2.2.2 k0 : Nat) : Int) + 1) (hpre_2 : k1.toInt ≤ 70) (hgr_0 : gr1 (k1.toInt) ≤ 1) (hgr_1 : gr70 (k1.toInt) ≤ 70) (hgr_2 : k1.toInt ≤ 16 → gr1 (k1.toInt) = 0 ∧ gr70 (k1.toInt) = 0) (hgr_3 : 16 < k1.toInt → gr1 (k1.toInt) = 1 ∧ gr70 (k1.toInt) = 70) (sbb1 : sbL κ.2.2.2.2 k0 = oL κ.2.2.2.2 b1) (lbb1 : (oL κ.2.2.2.2 b1 = 16 ∨ oL κ.2.2.2.2 b1 = 34 ∨ oL κ.2.2.2.2 b1 = 70)) (cbb1 : (oI κ.2.2.2.2 25 k0).toInt ≤ ((oL κ.2.2.2.2 b1 : Nat) : Int)) (nbb1 : 0 ≤ (oI κ.2.2.2.2 25 k0).toInt) (ex2 : x2 = Int32.ofNat (oL κ.2.2.2.2 b1)) (tx2 : x2.toInt = ((oL κ.2.2.2.2 b1 : Nat) : Int)) (lx2 : oL κ.2.2.2.2 b1 ≤ 100) (ex4 : x4 = k1 - x2) (tx4 : x4.toInt = k1.toInt - x2.toInt) (c5 : 0 < x4.toInt) : 0 + 0 ≤ gr70 (k1.toInt) := by
  have zg0 := gr_spec (k1.toInt)
  first | assumption | omega | (subst_vars; omega) | trivial
-- pre:J7_copyOf_9075b@32 @32
theorem vJ5_ensureCapacityInternal_d00df_10 (κ : KS) (k0 : Nat) (k1 : Int32) (b1 : Nat) (x2 : Int32) (x4 : Int32) (r6 : Int32) (hpre_0 : 0 ≤ k1.toInt) (hpre_1 : k1.toInt ≤ ((sbL κ.2.2.2.2 k0 : Nat) : Int) + 1) (hpre_2 : k1.toInt ≤ 70) (hgr_0 : gr1 (k1.toInt) ≤ 1) (hgr_1 : gr70 (k1.toInt) ≤ 70) (hgr_2 : k1.toInt ≤ 16 → gr1 (k1.toInt) = 0 ∧ gr70 (k1.toInt) = 0) (hgr_3 : 16 < k1.toInt → gr1 (k1.toInt) = 1 ∧ gr70 (k1.toInt) = 70) (sbb1 : sbL κ.2.2.2.2 k0 = oL κ.2.2.2.2 b1) (lbb1 : (oL κ.2.2.2.2 b1 = 16 ∨ oL κ.2.2.2.2 b1 = 34 ∨ oL κ.2.2.2.2 b1 = 70)) (cbb1 : (oI κ.2.2.2.2 25 k0).toInt ≤ ((oL κ.2.2.2.2 b1 : Nat) : Int)) (nbb1 : 0 ≤ (oI κ.2.2.2.2 25 k0).toInt) (ex2 : x2 = Int32.ofNat (oL κ.2.2.2.2 b1)) (tx2 : x2.toInt = ((oL κ.2.2.2.2 b1 : Nat) : Int)) (lx2 : oL κ.2.2.2.2 b1 ≤ 100) (ex4 : x4 = k1 - x2) (tx4 : x4.toInt = k1.toInt - x2.toInt) (c5 : 0 < x4.toInt) (hr6_0 : r6.toInt = 2 * ((sbL κ.2.2.2.2 k0 : Nat) : Int) + 2) (hr6_1 : ((sbL κ.2.2.2.2 k0 : Nat) : Int) ≤ 34) : ((oL κ.2.2.2.2 b1 : Nat) : Int) < r6.toInt ∧ r6.toInt ≤ 70 := by
  refine ⟨?_, ?_⟩ <;> first | assumption | omega | (subst_vars; omega) | trivial
-- room @32
theorem vJ5_ensureCapacityInternal_d00df_11 (κ : KS) (k0 : Nat) (k1 : Int32) (b1 : Nat) (x2 : Int32) (x4 : Int32) (r6 : Int32) (hpre_0 : 0 ≤ k1.toInt) (hpre_1 : k1.toInt ≤ ((sbL κ.2.2.2.2 k0 : Nat) : Int) + 1) (hpre_2 : k1.toInt ≤ 70) (hgr_0 : gr1 (k1.toInt) ≤ 1) (hgr_1 : gr70 (k1.toInt) ≤ 70) (hgr_2 : k1.toInt ≤ 16 → gr1 (k1.toInt) = 0 ∧ gr70 (k1.toInt) = 0) (hgr_3 : 16 < k1.toInt → gr1 (k1.toInt) = 1 ∧ gr70 (k1.toInt) = 70) (sbb1 : sbL κ.2.2.2.2 k0 = oL κ.2.2.2.2 b1) (lbb1 : (oL κ.2.2.2.2 b1 = 16 ∨ oL κ.2.2.2.2 b1 = 34 ∨ oL κ.2.2.2.2 b1 = 70)) (cbb1 : (oI κ.2.2.2.2 25 k0).toInt ≤ ((oL κ.2.2.2.2 b1 : Nat) : Int)) (nbb1 : 0 ≤ (oI κ.2.2.2.2 25 k0).toInt) (ex2 : x2 = Int32.ofNat (oL κ.2.2.2.2 b1)) (tx2 : x2.toInt = ((oL κ.2.2.2.2 b1 : Nat) : Int)) (lx2 : oL κ.2.2.2.2 b1 ≤ 100) (ex4 : x4 = k1 - x2) (tx4 : x4.toInt = k1.toInt - x2.toInt) (c5 : 0 < x4.toInt) (hr6_0 : r6.toInt = 2 * ((sbL κ.2.2.2.2 k0 : Nat) : Int) + 2) (hr6_1 : ((sbL κ.2.2.2.2 k0 : Nat) : Int) ≤ 34) : 0 + 0 + 1 ≤ gr1 (k1.toInt) := by
  have zg0 := gr_spec (k1.toInt)
  first | assumption | omega | (subst_vars; omega) | trivial
-- room @32
theorem vJ5_ensureCapacityInternal_d00df_12 (κ : KS) (k0 : Nat) (k1 : Int32) (b1 : Nat) (x2 : Int32) (x4 : Int32) (r6 : Int32) (hpre_0 : 0 ≤ k1.toInt) (hpre_1 : k1.toInt ≤ ((sbL κ.2.2.2.2 k0 : Nat) : Int) + 1) (hpre_2 : k1.toInt ≤ 70) (hgr_0 : gr1 (k1.toInt) ≤ 1) (hgr_1 : gr70 (k1.toInt) ≤ 70) (hgr_2 : k1.toInt ≤ 16 → gr1 (k1.toInt) = 0 ∧ gr70 (k1.toInt) = 0) (hgr_3 : 16 < k1.toInt → gr1 (k1.toInt) = 1 ∧ gr70 (k1.toInt) = 70) (sbb1 : sbL κ.2.2.2.2 k0 = oL κ.2.2.2.2 b1) (lbb1 : (oL κ.2.2.2.2 b1 = 16 ∨ oL κ.2.2.2.2 b1 = 34 ∨ oL κ.2.2.2.2 b1 = 70)) (cbb1 : (oI κ.2.2.2.2 25 k0).toInt ≤ ((oL κ.2.2.2.2 b1 : Nat) : Int)) (nbb1 : 0 ≤ (oI κ.2.2.2.2 25 k0).toInt) (ex2 : x2 = Int32.ofNat (oL κ.2.2.2.2 b1)) (tx2 : x2.toInt = ((oL κ.2.2.2.2 b1 : Nat) : Int)) (lx2 : oL κ.2.2.2.2 b1 ≤ 100) (ex4 : x4 = k1 - x2) (tx4 : x4.toInt = k1.toInt - x2.toInt) (c5 : 0 < x4.toInt) (hr6_0 : r6.toInt = 2 * ((sbL κ.2.2.2.2 k0 : Nat) : Int) + 2) (hr6_1 : ((sbL κ.2.2.2.2 k0 : Nat) : Int) ≤ 34) : 0 + 0 + r6.toInt.toNat ≤ gr70 (k1.toInt) := by
  have zg0 := gr_spec (k1.toInt)
  first | assumption | omega | (subst_vars; omega) | trivial
-- buf @35
theorem vJ5_ensureCapacityInternal_d00df_13 (κ : KS) (k0 : Nat) (k1 : Int32) (b1 : Nat) (x2 : Int32) (x4 : Int32) (r6 : Int32) (P9 : PL) (b11 : Nat) (b13 : Nat) (hpre_0 : 0 ≤ k1.toInt) (hpre_1 : k1.toInt ≤ ((sbL κ.2.2.2.2 k0 : Nat) : Int) + 1) (hpre_2 : k1.toInt ≤ 70) (hgr_0 : gr1 (k1.toInt) ≤ 1) (hgr_1 : gr70 (k1.toInt) ≤ 70) (hgr_2 : k1.toInt ≤ 16 → gr1 (k1.toInt) = 0 ∧ gr70 (k1.toInt) = 0) (hgr_3 : 16 < k1.toInt → gr1 (k1.toInt) = 1 ∧ gr70 (k1.toInt) = 70) (sbb1 : sbL κ.2.2.2.2 k0 = oL κ.2.2.2.2 b1) (lbb1 : (oL κ.2.2.2.2 b1 = 16 ∨ oL κ.2.2.2.2 b1 = 34 ∨ oL κ.2.2.2.2 b1 = 70)) (cbb1 : (oI κ.2.2.2.2 25 k0).toInt ≤ ((oL κ.2.2.2.2 b1 : Nat) : Int)) (nbb1 : 0 ≤ (oI κ.2.2.2.2 25 k0).toInt) (ex2 : x2 = Int32.ofNat (oL κ.2.2.2.2 b1)) (tx2 : x2.toInt = ((oL κ.2.2.2.2 b1 : Nat) : Int)) (lx2 : oL κ.2.2.2.2 b1 ≤ 100) (ex4 : x4 = k1 - x2) (tx4 : x4.toInt = k1.toInt - x2.toInt) (c5 : 0 < x4.toInt) (hr6_0 : r6.toInt = 2 * ((sbL κ.2.2.2.2 k0 : Nat) : Int) + 2) (hr6_1 : ((sbL κ.2.2.2.2 k0 : Nat) : Int) ≤ 34) (kl10 : oL P9 b1 = oL κ.2.2.2.2 b1) (hr8_3 : SBS κ.2.2.2.2 P9) (ak12 : (oI P9 25 k0).toInt = (oI κ.2.2.2.2 25 k0).toInt) (bk12 : sbL P9 k0 = sbL κ.2.2.2.2 k0) (hr8_4 : ((oL P9 b11 : Nat) : Int) = r6.toInt) (sbb13 : sbL P9 k0 = oL P9 b13) (lbb13 : (oL P9 b13 = 16 ∨ oL P9 b13 = 34 ∨ oL P9 b13 = 70)) (cbb13 : (oI P9 25 k0).toInt ≤ ((oL P9 b13 : Nat) : Int)) (nbb13 : 0 ≤ (oI P9 25 k0).toInt) : (oL P9 b11 = 16 ∨ oL P9 b11 = 34 ∨ oL P9 b11 = 70) ∧ (oI P9 25 k0).toInt ≤ ((oL P9 b11 : Nat) : Int) := by
  refine ⟨?_, ?_⟩ <;> first | assumption | omega | (subst_vars; omega) | trivial
-- post @38
theorem vJ5_ensureCapacityInternal_d00df_14 (κ : KS) (k0 : Nat) (k1 : Int32) (b1 : Nat) (x2 : Int32) (x4 : Int32) (r6 : Int32) (P9 : PL) (b11 : Nat) (b13 : Nat) (hpre_0 : 0 ≤ k1.toInt) (hpre_1 : k1.toInt ≤ ((sbL κ.2.2.2.2 k0 : Nat) : Int) + 1) (hpre_2 : k1.toInt ≤ 70) (hgr_0 : gr1 (k1.toInt) ≤ 1) (hgr_1 : gr70 (k1.toInt) ≤ 70) (hgr_2 : k1.toInt ≤ 16 → gr1 (k1.toInt) = 0 ∧ gr70 (k1.toInt) = 0) (hgr_3 : 16 < k1.toInt → gr1 (k1.toInt) = 1 ∧ gr70 (k1.toInt) = 70) (sbb1 : sbL κ.2.2.2.2 k0 = oL κ.2.2.2.2 b1) (lbb1 : (oL κ.2.2.2.2 b1 = 16 ∨ oL κ.2.2.2.2 b1 = 34 ∨ oL κ.2.2.2.2 b1 = 70)) (cbb1 : (oI κ.2.2.2.2 25 k0).toInt ≤ ((oL κ.2.2.2.2 b1 : Nat) : Int)) (nbb1 : 0 ≤ (oI κ.2.2.2.2 25 k0).toInt) (ex2 : x2 = Int32.ofNat (oL κ.2.2.2.2 b1)) (tx2 : x2.toInt = ((oL κ.2.2.2.2 b1 : Nat) : Int)) (lx2 : oL κ.2.2.2.2 b1 ≤ 100) (ex4 : x4 = k1 - x2) (tx4 : x4.toInt = k1.toInt - x2.toInt) (c5 : 0 < x4.toInt) (hr6_0 : r6.toInt = 2 * ((sbL κ.2.2.2.2 k0 : Nat) : Int) + 2) (hr6_1 : ((sbL κ.2.2.2.2 k0 : Nat) : Int) ≤ 34) (kl10 : oL P9 b1 = oL κ.2.2.2.2 b1) (hr8_3 : SBS κ.2.2.2.2 P9) (ak12 : (oI P9 25 k0).toInt = (oI κ.2.2.2.2 25 k0).toInt) (bk12 : sbL P9 k0 = sbL κ.2.2.2.2 k0) (hr8_4 : ((oL P9 b11 : Nat) : Int) = r6.toInt) (sbb13 : sbL P9 k0 = oL P9 b13) (lbb13 : (oL P9 b13 = 16 ∨ oL P9 b13 = 34 ∨ oL P9 b13 = 70)) (cbb13 : (oI P9 25 k0).toInt ≤ ((oL P9 b13 : Nat) : Int)) (nbb13 : 0 ≤ (oI P9 25 k0).toInt) (af15 : sbL (sR P9 12 k0 (some b11)) k0 = oL P9 b11) (bf15 : (oI (sR P9 12 k0 (some b11)) 25 k0).toInt = (oI P9 25 k0).toInt) : (oI (sR P9 12 k0 (some b11)) 25 k0).toInt = (oI κ.2.2.2.2 25 k0).toInt ∧ k1.toInt ≤ ((sbL (sR P9 12 k0 (some b11)) k0 : Nat) : Int) ∧ ((sbL κ.2.2.2.2 k0 : Nat) : Int) ≤ ((sbL (sR P9 12 k0 (some b11)) k0 : Nat) : Int) ∧ (gr1 (k1.toInt) ≤ 1 ∧ gr70 (k1.toInt) ≤ 70 ∧ (k1.toInt ≤ 16 → gr1 (k1.toInt) = 0 ∧ gr70 (k1.toInt) = 0) ∧ (16 < k1.toInt → gr1 (k1.toInt) = 1 ∧ gr70 (k1.toInt) = 70)) := by
  have zg0 := gr_spec (k1.toInt)
  refine ⟨?_, ?_, ?_, ?_⟩ <;> first | assumption | omega | (subst_vars; omega) | trivial
-- grow @38
theorem vJ5_ensureCapacityInternal_d00df_15 (κ : KS) (k0 : Nat) (k1 : Int32) (b1 : Nat) (x2 : Int32) (x4 : Int32) (r6 : Int32) (P9 : PL) (b11 : Nat) (b13 : Nat) (hpre_0 : 0 ≤ k1.toInt) (hpre_1 : k1.toInt ≤ ((sbL κ.2.2.2.2 k0 : Nat) : Int) + 1) (hpre_2 : k1.toInt ≤ 70) (hgr_0 : gr1 (k1.toInt) ≤ 1) (hgr_1 : gr70 (k1.toInt) ≤ 70) (hgr_2 : k1.toInt ≤ 16 → gr1 (k1.toInt) = 0 ∧ gr70 (k1.toInt) = 0) (hgr_3 : 16 < k1.toInt → gr1 (k1.toInt) = 1 ∧ gr70 (k1.toInt) = 70) (sbb1 : sbL κ.2.2.2.2 k0 = oL κ.2.2.2.2 b1) (lbb1 : (oL κ.2.2.2.2 b1 = 16 ∨ oL κ.2.2.2.2 b1 = 34 ∨ oL κ.2.2.2.2 b1 = 70)) (cbb1 : (oI κ.2.2.2.2 25 k0).toInt ≤ ((oL κ.2.2.2.2 b1 : Nat) : Int)) (nbb1 : 0 ≤ (oI κ.2.2.2.2 25 k0).toInt) (ex2 : x2 = Int32.ofNat (oL κ.2.2.2.2 b1)) (tx2 : x2.toInt = ((oL κ.2.2.2.2 b1 : Nat) : Int)) (lx2 : oL κ.2.2.2.2 b1 ≤ 100) (ex4 : x4 = k1 - x2) (tx4 : x4.toInt = k1.toInt - x2.toInt) (c5 : 0 < x4.toInt) (hr6_0 : r6.toInt = 2 * ((sbL κ.2.2.2.2 k0 : Nat) : Int) + 2) (hr6_1 : ((sbL κ.2.2.2.2 k0 : Nat) : Int) ≤ 34) (kl10 : oL P9 b1 = oL κ.2.2.2.2 b1) (hr8_3 : SBS κ.2.2.2.2 P9) (ak12 : (oI P9 25 k0).toInt = (oI κ.2.2.2.2 25 k0).toInt) (bk12 : sbL P9 k0 = sbL κ.2.2.2.2 k0) (hr8_4 : ((oL P9 b11 : Nat) : Int) = r6.toInt) (sbb13 : sbL P9 k0 = oL P9 b13) (cbb13 : (oI P9 25 k0).toInt ≤ ((oL P9 b13 : Nat) : Int)) (nbb13 : 0 ≤ (oI P9 25 k0).toInt) (af15 : sbL (sR P9 12 k0 (some b11)) k0 = oL P9 b11) (bf15 : (oI (sR P9 12 k0 (some b11)) 25 k0).toInt = (oI P9 25 k0).toInt) : 0 + 0 + 1 ≤ gr1 (k1.toInt) := by
  have zg0 := gr_spec (k1.toInt)
  first | assumption | omega | (subst_vars; omega) | trivial
-- grow @38
theorem vJ5_ensureCapacityInternal_d00df_16 (κ : KS) (k0 : Nat) (k1 : Int32) (b1 : Nat) (x2 : Int32) (x4 : Int32) (r6 : Int32) (P9 : PL) (b11 : Nat) (b13 : Nat) (hpre_0 : 0 ≤ k1.toInt) (hpre_1 : k1.toInt ≤ ((sbL κ.2.2.2.2 k0 : Nat) : Int) + 1) (hpre_2 : k1.toInt ≤ 70) (hgr_0 : gr1 (k1.toInt) ≤ 1) (hgr_1 : gr70 (k1.toInt) ≤ 70) (hgr_2 : k1.toInt ≤ 16 → gr1 (k1.toInt) = 0 ∧ gr70 (k1.toInt) = 0) (hgr_3 : 16 < k1.toInt → gr1 (k1.toInt) = 1 ∧ gr70 (k1.toInt) = 70) (sbb1 : sbL κ.2.2.2.2 k0 = oL κ.2.2.2.2 b1) (lbb1 : (oL κ.2.2.2.2 b1 = 16 ∨ oL κ.2.2.2.2 b1 = 34 ∨ oL κ.2.2.2.2 b1 = 70)) (cbb1 : (oI κ.2.2.2.2 25 k0).toInt ≤ ((oL κ.2.2.2.2 b1 : Nat) : Int)) (nbb1 : 0 ≤ (oI κ.2.2.2.2 25 k0).toInt) (ex2 : x2 = Int32.ofNat (oL κ.2.2.2.2 b1)) (tx2 : x2.toInt = ((oL κ.2.2.2.2 b1 : Nat) : Int)) (lx2 : oL κ.2.2.2.2 b1 ≤ 100) (ex4 : x4 = k1 - x2) (tx4 : x4.toInt = k1.toInt - x2.toInt) (c5 : 0 < x4.toInt) (hr6_0 : r6.toInt = 2 * ((sbL κ.2.2.2.2 k0 : Nat) : Int) + 2) (hr6_1 : ((sbL κ.2.2.2.2 k0 : Nat) : Int) ≤ 34) (kl10 : oL P9 b1 = oL κ.2.2.2.2 b1) (hr8_3 : SBS κ.2.2.2.2 P9) (ak12 : (oI P9 25 k0).toInt = (oI κ.2.2.2.2 25 k0).toInt) (bk12 : sbL P9 k0 = sbL κ.2.2.2.2 k0) (hr8_4 : ((oL P9 b11 : Nat) : Int) = r6.toInt) (sbb13 : sbL P9 k0 = oL P9 b13) (lbb13 : (oL P9 b13 = 16 ∨ oL P9 b13 = 34 ∨ oL P9 b13 = 70)) (cbb13 : (oI P9 25 k0).toInt ≤ ((oL P9 b13 : Nat) : Int)) (nbb13 : 0 ≤ (oI P9 25 k0).toInt) (af15 : sbL (sR P9 12 k0 (some b11)) k0 = oL P9 b11) (bf15 : (oI (sR P9 12 k0 (some b11)) 25 k0).toInt = (oI P9 25 k0).toInt) : 0 + 0 + r6.toInt.toNat ≤ gr70 (k1.toInt) := by
  have zg0 := gr_spec (k1.toInt)
  first | assumption | omega | (subst_vars; omega) | trivial
-- growm @38
theorem vJ5_ensureCapacityInternal_d00df_17 (κ : KS) (k0 : Nat) (k1 : Int32) (b1 : Nat) (x2 : Int32) (x4 : Int32) (r6 : Int32) (P9 : PL) (b11 : Nat) (b13 : Nat) (hpre_0 : 0 ≤ k1.toInt) (hpre_1 : k1.toInt ≤ ((sbL κ.2.2.2.2 k0 : Nat) : Int) + 1) (hpre_2 : k1.toInt ≤ 70) (hgr_0 : gr1 (k1.toInt) ≤ 1) (hgr_1 : gr70 (k1.toInt) ≤ 70) (hgr_2 : k1.toInt ≤ 16 → gr1 (k1.toInt) = 0 ∧ gr70 (k1.toInt) = 0) (hgr_3 : 16 < k1.toInt → gr1 (k1.toInt) = 1 ∧ gr70 (k1.toInt) = 70) (sbb1 : sbL κ.2.2.2.2 k0 = oL κ.2.2.2.2 b1) (lbb1 : (oL κ.2.2.2.2 b1 = 16 ∨ oL κ.2.2.2.2 b1 = 34 ∨ oL κ.2.2.2.2 b1 = 70)) (cbb1 : (oI κ.2.2.2.2 25 k0).toInt ≤ ((oL κ.2.2.2.2 b1 : Nat) : Int)) (nbb1 : 0 ≤ (oI κ.2.2.2.2 25 k0).toInt) (ex2 : x2 = Int32.ofNat (oL κ.2.2.2.2 b1)) (tx2 : x2.toInt = ((oL κ.2.2.2.2 b1 : Nat) : Int)) (lx2 : oL κ.2.2.2.2 b1 ≤ 100) (ex4 : x4 = k1 - x2) (tx4 : x4.toInt = k1.toInt - x2.toInt) (c5 : 0 < x4.toInt) (hr6_0 : r6.toInt = 2 * ((sbL κ.2.2.2.2 k0 : Nat) : Int) + 2) (hr6_1 : ((sbL κ.2.2.2.2 k0 : Nat) : Int) ≤ 34) (kl10 : oL P9 b1 = oL κ.2.2.2.2 b1) (hr8_3 : SBS κ.2.2.2.2 P9) (ak12 : (oI P9 25 k0).toInt = (oI κ.2.2.2.2 25 k0).toInt) (bk12 : sbL P9 k0 = sbL κ.2.2.2.2 k0) (hr8_4 : ((oL P9 b11 : Nat) : Int) = r6.toInt) (sbb13 : sbL P9 k0 = oL P9 b13) (cbb13 : (oI P9 25 k0).toInt ≤ ((oL P9 b13 : Nat) : Int)) (nbb13 : 0 ≤ (oI P9 25 k0).toInt) (af15 : sbL (sR P9 12 k0 (some b11)) k0 = oL P9 b11) (bf15 : (oI (sR P9 12 k0 (some b11)) 25 k0).toInt = (oI P9 25 k0).toInt) : gr1 (k1.toInt) ≤ gr1 (k1.toInt) := by
  have zg0 := gr_spec (k1.toInt)
  first | assumption | omega | (subst_vars; omega) | trivial
-- growm @38
theorem vJ5_ensureCapacityInternal_d00df_18 (κ : KS) (k0 : Nat) (k1 : Int32) (b1 : Nat) (x2 : Int32) (x4 : Int32) (r6 : Int32) (P9 : PL) (b11 : Nat) (b13 : Nat) (hpre_0 : 0 ≤ k1.toInt) (hpre_1 : k1.toInt ≤ ((sbL κ.2.2.2.2 k0 : Nat) : Int) + 1) (hpre_2 : k1.toInt ≤ 70) (hgr_0 : gr1 (k1.toInt) ≤ 1) (hgr_1 : gr70 (k1.toInt) ≤ 70) (hgr_2 : k1.toInt ≤ 16 → gr1 (k1.toInt) = 0 ∧ gr70 (k1.toInt) = 0) (hgr_3 : 16 < k1.toInt → gr1 (k1.toInt) = 1 ∧ gr70 (k1.toInt) = 70) (sbb1 : sbL κ.2.2.2.2 k0 = oL κ.2.2.2.2 b1) (lbb1 : (oL κ.2.2.2.2 b1 = 16 ∨ oL κ.2.2.2.2 b1 = 34 ∨ oL κ.2.2.2.2 b1 = 70)) (cbb1 : (oI κ.2.2.2.2 25 k0).toInt ≤ ((oL κ.2.2.2.2 b1 : Nat) : Int)) (nbb1 : 0 ≤ (oI κ.2.2.2.2 25 k0).toInt) (ex2 : x2 = Int32.ofNat (oL κ.2.2.2.2 b1)) (tx2 : x2.toInt = ((oL κ.2.2.2.2 b1 : Nat) : Int)) (lx2 : oL κ.2.2.2.2 b1 ≤ 100) (ex4 : x4 = k1 - x2) (tx4 : x4.toInt = k1.toInt - x2.toInt) (c5 : 0 < x4.toInt) (hr6_0 : r6.toInt = 2 * ((sbL κ.2.2.2.2 k0 : Nat) : Int) + 2) (hr6_1 : ((sbL κ.2.2.2.2 k0 : Nat) : Int) ≤ 34) (kl10 : oL P9 b1 = oL κ.2.2.2.2 b1) (hr8_3 : SBS κ.2.2.2.2 P9) (ak12 : (oI P9 25 k0).toInt = (oI κ.2.2.2.2 25 k0).toInt) (bk12 : sbL P9 k0 = sbL κ.2.2.2.2 k0) (hr8_4 : ((oL P9 b11 : Nat) : Int) = r6.toInt) (sbb13 : sbL P9 k0 = oL P9 b13) (cbb13 : (oI P9 25 k0).toInt ≤ ((oL P9 b13 : Nat) : Int)) (nbb13 : 0 ≤ (oI P9 25 k0).toInt) (af15 : sbL (sR P9 12 k0 (some b11)) k0 = oL P9 b11) (bf15 : (oI (sR P9 12 k0 (some b11)) 25 k0).toInt = (oI P9 25 k0).toInt) : gr70 (k1.toInt) ≤ gr70 (k1.toInt) := by
  have zg0 := gr_spec (k1.toInt)
  first | assumption | omega | (subst_vars; omega) | trivial
set_option maxHeartbeats 4000000 in
set_option maxRecDepth 100000 in
theorem NJ5_ensureCapacityInternal_d00df (l : Launch) (D : va_G) (cy : Nat → ClassId) (ad : Nat → Nat) (A : Nat → Prop) (sz0 : Nat) (sa : Nat → Nat)  (κ : KS) (sz sl : Nat) (hAF : ∀ q, A q → Fr sz0 q) (hAn : ∀ q : Nat, sz ≤ q → A q) (k0 : Nat) (k1 : Int32) (ht0 : oT κ.2.2.2.2 k0 = 12) (hPV : PV sa κ.2.2.2.2) (hpre : 0 ≤ k1.toInt ∧ k1.toInt ≤ ((sbL κ.2.2.2.2 k0 : Nat) : Int) + 1 ∧ k1.toInt ≤ 70) : Met l yJ5_ensureCapacityInternal_d00df (Cond.code yJ5_ensureCapacityInternal_d00df cJ5_ensureCapacityInternal_d00df 3 none :: GWc) ({ frames := 3, cells := gr1 (k1.toInt), slots := gr70 (k1.toInt), locals := 78 }) (PcC D cy ad A sz0 sa [.ref k0, .int k1] κ sz sl) (va_Qv (fun (u : PL) => (EX κ.2.2.2.2 u) ∧ (PV sa u) ∧ ((oI u 25 k0).toInt = (oI κ.2.2.2.2 25 k0).toInt ∧ k1.toInt ≤ ((sbL u k0 : Nat) : Int) ∧ ((sbL κ.2.2.2.2 k0 : Nat) : Int) ≤ ((sbL u k0 : Nat) : Int) ∧ (gr1 (k1.toInt) ≤ 1 ∧ gr70 (k1.toInt) ≤ 70 ∧ (k1.toInt ≤ 16 → gr1 (k1.toInt) = 0 ∧ gr70 (k1.toInt) = 0) ∧ (16 < k1.toInt → gr1 (k1.toInt) = 1 ∧ gr70 (k1.toInt) = 70)))) (fun (u : PL) (t : State) => Bx D cy ad A sz sl (tP κ u) (gr1 (k1.toInt)) (gr70 (k1.toInt)) t) A) (gr1 (k1.toInt)) (gr70 (k1.toInt)) A := by
  refine CM_of (loc0 := [(0, .ref k0), (1, .int k1)]) (own := RJ5) (nm := "ensureCapacityInternal") (by decide) rfl rfl rfl (Nat.le_of_ble_eq_true rfl) hAF hAn ?_
  intro p e s m below meth c ls hsz hsl C hP hS hl
  obtain ⟨hpre_0, hpre_1, hpre_2⟩ := hpre
  have hgr : (gr1 (k1.toInt) ≤ 1 ∧ gr70 (k1.toInt) ≤ 70 ∧ (k1.toInt ≤ 16 → gr1 (k1.toInt) = 0 ∧ gr70 (k1.toInt) = 0) ∧ (16 < k1.toInt → gr1 (k1.toInt) = 1 ∧ gr70 (k1.toInt) = 70)) := gr_spec _
  obtain ⟨hgr_0, hgr_1, hgr_2, hgr_3⟩ := hgr
  refine lv_aload_n C.x C.b dJ5_ensureCapacityInternal_d00df_0 rfl (lv_at hl 0 rfl) ?_
  obtain ⟨b1, ebb1, tbb1, sbb1, lbb1, cbb1, nbb1, zbb1⟩ : ∃ b, oR κ.2.2.2.2 12 k0 = some b ∧ oT κ.2.2.2.2 b = 8 ∧ sbL κ.2.2.2.2 k0 = oL κ.2.2.2.2 b ∧ (oL κ.2.2.2.2 b = 16 ∨ oL κ.2.2.2.2 b = 34 ∨ oL κ.2.2.2.2 b = 70) ∧ (oI κ.2.2.2.2 25 k0).toInt ≤ ((oL κ.2.2.2.2 b : Nat) : Int) ∧ 0 ≤ (oI κ.2.2.2.2 25 k0).toInt ∧ oI κ.2.2.2.2 23 k0 = 0 := hPV.sb ht0
  refine pg_J4_0 (v := some b1) C hP (t20 (a := k0) (t := 12) ht0) ebb1 cw_20 dJ5_ensureCapacityInternal_d00df_1 ?_
  refine pl_8 C hP (t20 (a := b1) (t := 8) tbb1) rfl dJ5_ensureCapacityInternal_d00df_4 (fun x2 ex2 => ?_)
  have lx2 : oL κ.2.2.2.2 b1 ≤ 100 := (hPV.t8 tbb1).1
  have tx2 : x2.toInt = ((oL κ.2.2.2.2 b1 : Nat) : Int) := by rw [ex2]; exact nI_toInt (n := oL κ.2.2.2.2 b1) (by omega)
  refine lv_aload_n C.x C.b dJ5_ensureCapacityInternal_d00df_5 rfl (lv_at hl 0 rfl) ?_
  refine pg_J4_1 (v := 0) C hP (t20 (a := k0) (t := 12) ht0) zbb1 cw_21 dJ5_ensureCapacityInternal_d00df_6 ?_
  refine lv_ishr C.x C.b dJ5_ensureCapacityInternal_d00df_9 ?_
  refine lv_topi (fun x3 ex3 => ?_)
  obtain rfl : x2 = x3 := (ex3.trans (sb_shr0 _)).symm
  refine lv_istore_n (lv' := [(2, .int x2), (0, .ref k0), (1, .int k1)]) C.x C.b dJ5_ensureCapacityInternal_d00df_10 rfl hl (by decide) rfl (fun ls hl => ?_)
  refine lv_iload_n C.x C.b dJ5_ensureCapacityInternal_d00df_11 rfl (lv_at hl 2 rfl) ?_
  refine lv_iload_n C.x C.b dJ5_ensureCapacityInternal_d00df_12 rfl (lv_at hl 0 rfl) ?_
  refine lv_isub C.x C.b dJ5_ensureCapacityInternal_d00df_13 ?_
  refine lv_topi (fun x4 ex4 => ?_)
  have tx4 : x4.toInt = k1.toInt - x2.toInt := (vJ5_ensureCapacityInternal_d00df_1 κ k0 k1 b1 x2 x4 hpre_0 hpre_1 hpre_2 hgr_0 hgr_1 hgr_2 hgr_3 sbb1 lbb1 cbb1 nbb1 ex2 tx2 lx2 ex4)
  refine lv_if_le (tgt := 38) C.x C.b dJ5_ensureCapacityInternal_d00df_14 (by decide) (fun c5 => ?_) (fun c5 => ?_)
  · have c5 : x4.toInt ≤ 0 := by have h := z_le c5; rw [show (0 : Int32).toInt = 0 from by decide +kernel] at h; exact h
    have hP : CH D cy ad A (tP κ κ.2.2.2.2) s.heap := CH.cong hP rfl rfl rfl rfl rfl rfl rfl rfl rfl rfl rfl rfl rfl rfl rfl rfl rfl rfl rfl rfl rfl rfl rfl rfl rfl rfl rfl
    exact c_retv C hsz hsl κ.2.2.2.2 ⟨EX.rf, hPV, (vJ5_ensureCapacityInternal_d00df_2 κ k0 k1 b1 x2 x4 hpre_0 hpre_1 hpre_2 hgr_0 hgr_1 hgr_2 hgr_3 sbb1 lbb1 cbb1 nbb1 ex2 tx2 lx2 ex4 tx4 c5)⟩ hP hS ⟨(vJ5_ensureCapacityInternal_d00df_3 κ k0 k1 b1 x2 x4 hpre_0 hpre_1 hpre_2 hgr_0 hgr_1 hgr_2 hgr_3 sbb1 lbb1 cbb1 nbb1 ex2 tx2 lx2 ex4 tx4 c5), (vJ5_ensureCapacityInternal_d00df_4 κ k0 k1 b1 x2 x4 hpre_0 hpre_1 hpre_2 hgr_0 hgr_1 hgr_2 hgr_3 sbb1 lbb1 cbb1 nbb1 ex2 tx2 lx2 ex4 tx4 c5)⟩ ⟨(vJ5_ensureCapacityInternal_d00df_5 κ k0 k1 b1 x2 x4 hpre_0 hpre_1 hpre_2 hgr_0 hgr_1 hgr_2 hgr_3 sbb1 lbb1 cbb1 nbb1 ex2 tx2 lx2 ex4 tx4 c5), (vJ5_ensureCapacityInternal_d00df_6 κ k0 k1 b1 x2 x4 hpre_0 hpre_1 hpre_2 hgr_0 hgr_1 hgr_2 hgr_3 sbb1 lbb1 cbb1 nbb1 ex2 tx2 lx2 ex4 tx4 c5)⟩ dJ5_ensureCapacityInternal_d00df_38
  · have c5 : 0 < x4.toInt := by have h := z_nle c5; rw [show (0 : Int32).toInt = 0 from by decide +kernel] at h; exact h
    refine lv_aload_n C.x C.b dJ5_ensureCapacityInternal_d00df_17 rfl (lv_at hl 1 rfl) ?_
    refine lv_aload_n C.x C.b dJ5_ensureCapacityInternal_d00df_18 rfl (lv_at hl 1 rfl) ?_
    refine pg_J4_0 (v := some b1) C hP (t20 (a := k0) (t := 12) ht0) ebb1 cw_20 dJ5_ensureCapacityInternal_d00df_19 ?_
    refine lv_aload_n C.x C.b dJ5_ensureCapacityInternal_d00df_22 rfl (lv_at hl 1 rfl) ?_
    refine lv_iload_n C.x C.b dJ5_ensureCapacityInternal_d00df_23 rfl (lv_at hl 2 rfl) ?_
    refine c_callUi (owner := "java/lang/AbstractStringBuilder") (n := 1) (As := [.int k1]) (rest := [.ref b1, .ref k0]) C hP hS hl.1 (NJ5_newCapacity_0f7a4 l D cy ad A sz0 sa κ s.heap.size (SLT s.heap) C.f (fun q h => C.a q (Nat.le_trans hS.1 h)) k0 k1 ht0 hPV (vJ5_ensureCapacityInternal_d00df_7 κ k0 k1 b1 x2 x4 hpre_0 hpre_1 hpre_2 hgr_0 hgr_1 hgr_2 hgr_3 sbb1 lbb1 cbb1 nbb1 ex2 tx2 lx2 ex4 tx4 c5)) ⟨cw_164, cw_168, by decide +kernel⟩ ⟨cw_165, cw_166, cw_167, cw_15⟩ rfl (hP.recvP (t := 12) (ci := 1) C.K (t20 (a := k0) (t := 12) ht0) (by decide) rfl rfl) rfl rfl (lv_room (Nat.le_of_ble_eq_true rfl)) ⟨Nat.le_of_ble_eq_true rfl, Nat.le_of_ble_eq_true rfl⟩ ⟨(vJ5_ensureCapacityInternal_d00df_8 κ k0 k1 b1 x2 x4 hpre_0 hpre_1 hpre_2 hgr_0 hgr_1 hgr_2 hgr_3 sbb1 lbb1 cbb1 nbb1 ex2 tx2 lx2 ex4 tx4 c5), (vJ5_ensureCapacityInternal_d00df_9 κ k0 k1 b1 x2 x4 hpre_0 hpre_1 hpre_2 hgr_0 hgr_1 hgr_2 hgr_3 sbb1 lbb1 cbb1 nbb1 ex2 tx2 lx2 ex4 tx4 c5)⟩ dJ5_ensureCapacityInternal_d00df_24 (fun r6 u H locs hr6 hP hS => ?_)
    have hr6 : (r6.toInt = 2 * ((sbL κ.2.2.2.2 k0 : Nat) : Int) + 2 ∧ ((sbL κ.2.2.2.2 k0 : Nat) : Int) ≤ 34) := hr6
    obtain ⟨hr6_0, hr6_1⟩ := hr6
    refine lv_aload_n C.x C.b dJ5_ensureCapacityInternal_d00df_27 rfl (lv_at hl 1 rfl) ?_
    refine pg_J4_1 (v := 0) C hP (t20 (a := k0) (t := 12) ht0) zbb1 cw_21 dJ5_ensureCapacityInternal_d00df_28 ?_
    refine lv_ishl C.x C.b dJ5_ensureCapacityInternal_d00df_31 ?_
    refine lv_topi (fun x7 ex7 => ?_)
    obtain rfl : r6 = x7 := (ex7.trans (sb_shl0 _)).symm
    refine c_callSq (C2 := "") (b := 0) (n := 2) (As := [.ref b1, .int r6]) (rest := [.ref k0]) C hP hS hl.1 (NJ7_copyOf_9075b l D cy ad A sz0 sa κ H.size (SLT H) C.f (fun q h => C.a q (Nat.le_trans hS.1 h)) b1 r6 tbb1 hPV (vJ5_ensureCapacityInternal_d00df_10 κ k0 k1 b1 x2 x4 r6 hpre_0 hpre_1 hpre_2 hgr_0 hgr_1 hgr_2 hgr_3 sbb1 lbb1 cbb1 nbb1 ex2 tx2 lx2 ex4 tx4 c5 hr6_0 hr6_1)) ⟨cw_182, cw_185, by decide +kernel⟩ ⟨cw_183, cw_184⟩ rfl rfl (lv_room (Nat.le_of_ble_eq_true rfl)) ⟨Nat.le_of_ble_eq_true rfl, Nat.le_of_ble_eq_true rfl⟩ ⟨(vJ5_ensureCapacityInternal_d00df_11 κ k0 k1 b1 x2 x4 r6 hpre_0 hpre_1 hpre_2 hgr_0 hgr_1 hgr_2 hgr_3 sbb1 lbb1 cbb1 nbb1 ex2 tx2 lx2 ex4 tx4 c5 hr6_0 hr6_1), (vJ5_ensureCapacityInternal_d00df_12 κ k0 k1 b1 x2 x4 r6 hpre_0 hpre_1 hpre_2 hgr_0 hgr_1 hgr_2 hgr_3 sbb1 lbb1 cbb1 nbb1 ex2 tx2 lx2 ex4 tx4 c5 hr6_0 hr6_1)⟩ dJ5_ensureCapacityInternal_d00df_32 (fun r8 u H locs hr8 hP hS => ?_)
    obtain ⟨P9, rfl⟩ : ∃ z, z = u := ⟨_, rfl⟩
    have hP : CH D cy ad A (tP κ P9) H := hP
    have hr8 : (EX κ.2.2.2.2 P9) ∧ (PV sa P9) ∧ (NN P9 8 r8) ∧ (SBS κ.2.2.2.2 P9) ∧ (((oL P9 ((r8).getD 0) : Nat) : Int) = r6.toInt) := hr8
    obtain ⟨hr8_0, hr8_1, hr8_2, hr8_3, hr8_4⟩ := hr8
    have kl10 : oL P9 b1 = oL κ.2.2.2.2 b1 := hr8_0.L tbb1 (by decide)
    obtain ⟨b11, rfl, tb11⟩ := hr8_2
    have ak12 : (oI P9 25 k0).toInt = (oI κ.2.2.2.2 25 k0).toInt := hr8_3.cnt ht0
    have bk12 : sbL P9 k0 = sbL κ.2.2.2.2 k0 := hr8_3.len ht0 hr8_0 hPV
    refine pp_J4_0 (v := (some b11)) C hP hS (t20 (a := k0) (t := 12) (hr8_0.T ht0 (by decide))) cw_20 dJ5_ensureCapacityInternal_d00df_35 (fun H locs hP hS => ?_)
    obtain ⟨b13, ebb13, tbb13, sbb13, lbb13, cbb13, nbb13, zbb13⟩ : ∃ b, oR P9 12 k0 = some b ∧ oT P9 b = 8 ∧ sbL P9 k0 = oL P9 b ∧ (oL P9 b = 16 ∨ oL P9 b = 34 ∨ oL P9 b = 70) ∧ (oI P9 25 k0).toInt ≤ ((oL P9 b : Nat) : Int) ∧ 0 ≤ (oI P9 25 k0).toInt ∧ oI P9 23 k0 = 0 := hr8_1.sb (hr8_0.T ht0 (by decide))
    have exz14 : EX P9 (sR P9 12 k0 (some b11)) := EX.st12
    have pvz14 : PV sa (sR P9 12 k0 (some b11)) := (hr8_1.st12 (hr8_0.T ht0 (by decide)) tb11 (vJ5_ensureCapacityInternal_d00df_13 κ k0 k1 b1 x2 x4 r6 P9 b11 b13 hpre_0 hpre_1 hpre_2 hgr_0 hgr_1 hgr_2 hgr_3 sbb1 lbb1 cbb1 nbb1 ex2 tx2 lx2 ex4 tx4 c5 hr6_0 hr6_1 kl10 hr8_3 ak12 bk12 hr8_4 sbb13 lbb13 cbb13 nbb13).1 (vJ5_ensureCapacityInternal_d00df_13 κ k0 k1 b1 x2 x4 r6 P9 b11 b13 hpre_0 hpre_1 hpre_2 hgr_0 hgr_1 hgr_2 hgr_3 sbb1 lbb1 cbb1 nbb1 ex2 tx2 lx2 ex4 tx4 c5 hr6_0 hr6_1 kl10 hr8_3 ak12 bk12 hr8_4 sbb13 lbb13 cbb13 nbb13).2)
    have af15 : sbL (sR P9 12 k0 (some b11)) k0 = oL P9 b11 := sbL_st
    have bf15 : (oI (sR P9 12 k0 (some b11)) 25 k0).toInt = (oI P9 25 k0).toInt := rfl
    have hP : CH D cy ad A (tP κ (sR P9 12 k0 (some b11))) H := CH.cong hP rfl rfl rfl rfl rfl rfl rfl rfl rfl rfl rfl rfl rfl rfl rfl rfl rfl rfl rfl rfl rfl rfl rfl rfl rfl rfl rfl
    exact c_retv C hsz hsl (sR P9 12 k0 (some b11)) ⟨(hr8_0.trans exz14), pvz14, (vJ5_ensureCapacityInternal_d00df_14 κ k0 k1 b1 x2 x4 r6 P9 b11 b13 hpre_0 hpre_1 hpre_2 hgr_0 hgr_1 hgr_2 hgr_3 sbb1 lbb1 cbb1 nbb1 ex2 tx2 lx2 ex4 tx4 c5 hr6_0 hr6_1 kl10 hr8_3 ak12 bk12 hr8_4 sbb13 lbb13 cbb13 nbb13 af15 bf15)⟩ hP hS ⟨(vJ5_ensureCapacityInternal_d00df_15 κ k0 k1 b1 x2 x4 r6 P9 b11 b13 hpre_0 hpre_1 hpre_2 hgr_0 hgr_1 hgr_2 hgr_3 sbb1 lbb1 cbb1 nbb1 ex2 tx2 lx2 ex4 tx4 c5 hr6_0 hr6_1 kl10 hr8_3 ak12 bk12 hr8_4 sbb13 cbb13 nbb13 af15 bf15), (vJ5_ensureCapacityInternal_d00df_16 κ k0 k1 b1 x2 x4 r6 P9 b11 b13 hpre_0 hpre_1 hpre_2 hgr_0 hgr_1 hgr_2 hgr_3 sbb1 lbb1 cbb1 nbb1 ex2 tx2 lx2 ex4 tx4 c5 hr6_0 hr6_1 kl10 hr8_3 ak12 bk12 hr8_4 sbb13 lbb13 cbb13 nbb13 af15 bf15)⟩ ⟨(vJ5_ensureCapacityInternal_d00df_17 κ k0 k1 b1 x2 x4 r6 P9 b11 b13 hpre_0 hpre_1 hpre_2 hgr_0 hgr_1 hgr_2 hgr_3 sbb1 lbb1 cbb1 nbb1 ex2 tx2 lx2 ex4 tx4 c5 hr6_0 hr6_1 kl10 hr8_3 ak12 bk12 hr8_4 sbb13 cbb13 nbb13 af15 bf15), (vJ5_ensureCapacityInternal_d00df_18 κ k0 k1 b1 x2 x4 r6 P9 b11 b13 hpre_0 hpre_1 hpre_2 hgr_0 hgr_1 hgr_2 hgr_3 sbb1 lbb1 cbb1 nbb1 ex2 tx2 lx2 ex4 tx4 c5 hr6_0 hr6_1 kl10 hr8_3 ak12 bk12 hr8_4 sbb13 cbb13 nbb13 af15 bf15)⟩ dJ5_ensureCapacityInternal_d00df_38
