set_option maxHeartbeats 4000000 in
set_option maxRecDepth 100000 in
theorem NJ0_coder_7d493 (l : Launch) (D : va_G) (cy : Nat → ClassId) (ad : Nat → Nat) (A : Nat → Prop) (sz0 : Nat) (sa : Nat → Nat)  (κ : KS) (sz sl : Nat) (hAF : ∀ q, A q → Fr sz0 q) (hAn : ∀ q : Nat, sz ≤ q → A q) (k0 : Nat) (ht0 : SOK κ.2.2.2.2 sa k0) (hPV : PV sa κ.2.2.2.2) : Met l yJ0_coder_7d493 (Cond.code yJ0_coder_7d493 cJ0_coder_7d493 1 (some .byte) :: GWc) ({ frames := 0, cells := 0, slots := 0, locals := 0 }) (PcC D cy ad A sz0 sa [.ref k0] κ sz sl) (va_Qi (fun (r : Int32) (u : Unit) => (r = (0 : Int32))) (fun (u : Unit) (t : State) => Bx D cy ad A sz sl κ (0) (0) t) A) (0) (0) A := by
  refine CM_of (loc0 := [(0, .ref k0)]) (own := RJ0) (nm := "coder") (by decide) rfl rfl rfl (Nat.le_of_ble_eq_true rfl) hAF hAn ?_
  intro p e s m below meth c ls hsz hsl C hP hS hl
  have kz0 : KZ κ.2.2.2.2 sa := KZ.mk9 C hP
  refine va_gets (C := "java/lang/String") (n := "COMPACT_STRINGS") (d := "Z") (A := A) (v := .int 1) C.x C.b (C.cs) hS C.o (C.w _ cw_73) (fun _ h9 => h9) dJ0_coder_7d493_0 ?_
  refine lv_if_eq (tgt := 13) C.x C.b dJ0_coder_7d493_3 (by decide) (fun c1 => absurd c1 (by decide +kernel)) (fun _ => ?_)
  refine lv_aload_n C.x C.b dJ0_coder_7d493_6 rfl (lv_at hl 0 rfl) ?_
  refine ct_coder C hP hS ht0 (fun e9 => (hPV.t7 e9).2) cw_74 dJ0_coder_7d493_7 ?_
  refine lv_goto (tgt := 14) C.x C.b dJ0_coder_7d493_10 (by decide) ?_
  exact c_retz (ty := .byte) (hv := rfl) C hsz hsl () rfl hP hS ⟨(Nat.le_of_ble_eq_true rfl), (Nat.le_of_ble_eq_true rfl)⟩ ⟨(Nat.le_of_ble_eq_true rfl), (Nat.le_of_ble_eq_true rfl)⟩ dJ0_coder_7d493_14

set_option maxHeartbeats 4000000 in
set_option maxRecDepth 100000 in
theorem NJ0_isLatin1_aae02 (l : Launch) (D : va_G) (cy : Nat → ClassId) (ad : Nat → Nat) (A : Nat → Prop) (sz0 : Nat) (sa : Nat → Nat)  (κ : KS) (sz sl : Nat) (hAF : ∀ q, A q → Fr sz0 q) (hAn : ∀ q : Nat, sz ≤ q → A q) (k0 : Nat) (ht0 : SOK κ.2.2.2.2 sa k0) (hPV : PV sa κ.2.2.2.2) : Met l yJ0_isLatin1_aae02 (Cond.code yJ0_isLatin1_aae02 cJ0_isLatin1_aae02 1 (some .boolean) :: GWc) ({ frames := 0, cells := 0, slots := 0, locals := 0 }) (PcC D cy ad A sz0 sa [.ref k0] κ sz sl) (va_Qi (fun (r : Int32) (u : Unit) => (r = (1 : Int32))) (fun (u : Unit) (t : State) => Bx D cy ad A sz sl κ (0) (0) t) A) (0) (0) A := by
  refine CM_of (loc0 := [(0, .ref k0)]) (own := RJ0) (nm := "isLatin1") (by decide) rfl rfl rfl (Nat.le_of_ble_eq_true rfl) hAF hAn ?_
  intro p e s m below meth c ls hsz hsl C hP hS hl
  have kz0 : KZ κ.2.2.2.2 sa := KZ.mk9 C hP
  refine va_gets (C := "java/lang/String") (n := "COMPACT_STRINGS") (d := "Z") (A := A) (v := .int 1) C.x C.b (C.cs) hS C.o (C.w _ cw_73) (fun _ h9 => h9) dJ0_isLatin1_aae02_0 ?_
  refine lv_if_eq (tgt := 17) C.x C.b dJ0_isLatin1_aae02_3 (by decide) (fun c1 => absurd c1 (by decide +kernel)) (fun _ => ?_)
  refine lv_aload_n C.x C.b dJ0_isLatin1_aae02_6 rfl (lv_at hl 0 rfl) ?_
  refine ct_coder C hP hS ht0 (fun e9 => (hPV.t7 e9).2) cw_74 dJ0_isLatin1_aae02_7 ?_
  refine lv_if_ne (tgt := 17) C.x C.b dJ0_isLatin1_aae02_10 (by decide) (fun c2 => absurd (by decide +kernel) c2) (fun _ => ?_)
  refine lv_iconst (v := 1) C.x C.b dJ0_isLatin1_aae02_13 (by decide +kernel) ?_
  refine lv_goto (tgt := 18) C.x C.b dJ0_isLatin1_aae02_14 (by decide) ?_
  exact c_retz (ty := .boolean) (hv := rfl) C hsz hsl () rfl hP hS ⟨(Nat.le_of_ble_eq_true rfl), (Nat.le_of_ble_eq_true rfl)⟩ ⟨(Nat.le_of_ble_eq_true rfl), (Nat.le_of_ble_eq_true rfl)⟩ dJ0_isLatin1_aae02_18

-- post @10
theorem vJ0_length_8abf5_1 (sa : Nat → Nat) (κ : KS) (k0 : Nat) (kn0 : Nat) (x1 : Int32) (hsl0 : sLen κ.2.2.2.2 sa k0 = kn0) (ex1 : x1 = Int32.ofNat ((sLen κ.2.2.2.2 sa k0))) (tx1 : x1.toInt = (((sLen κ.2.2.2.2 sa k0) : Nat) : Int)) (lx1 : (sLen κ.2.2.2.2 sa k0) ≤ 100) : x1.toInt = ((kn0 : Nat) : Int) := by
  first | assumption | omega | (subst_vars; omega) | trivial
-- post2 @10
theorem vJ0_length_8abf5_2 (sa : Nat → Nat) (κ : KS) (k0 : Nat) (kn0 : Nat) (x1 : Int32) (ht0 : SL κ.2.2.2.2 sa k0 kn0) (hPV : PV sa κ.2.2.2.2) (kz0 : KZ κ.2.2.2.2 sa) (hsl0 : sLen κ.2.2.2.2 sa k0 = kn0) (ex1 : x1 = Int32.ofNat ((sLen κ.2.2.2.2 sa k0))) (tx1 : x1.toInt = (((sLen κ.2.2.2.2 sa k0) : Nat) : Int)) (lx1 : (sLen κ.2.2.2.2 sa k0) ≤ 100) : ∀ s9 : List Int, TXq κ.2.2.2.2 sa k0 s9 → x1.toInt = (s9.length : Int) := by
  intro s9 hs
  have l1 := TXq.len9 kz0 ht0 hs
  omega
set_option maxHeartbeats 4000000 in
set_option maxRecDepth 100000 in
theorem NJ0_length_8abf5 (l : Launch) (D : va_G) (cy : Nat → ClassId) (ad : Nat → Nat) (A : Nat → Prop) (sz0 : Nat) (sa : Nat → Nat)  (κ : KS) (sz sl : Nat) (hAF : ∀ q, A q → Fr sz0 q) (hAn : ∀ q : Nat, sz ≤ q → A q) (k0 : Nat) (kn0 : Nat) (ht0 : SL κ.2.2.2.2 sa k0 kn0) (hPV : PV sa κ.2.2.2.2) : Met l yJ0_length_8abf5 (Cond.code yJ0_length_8abf5 cJ0_length_8abf5 1 (some .int) :: GWc) ({ frames := 1, cells := 0, slots := 0, locals := 20 }) (PcC D cy ad A sz0 sa [.ref k0] κ sz sl) (va_Qi (fun (r : Int32) (u : Unit) => ((r.toInt = ((kn0 : Nat) : Int))) ∧ (∀ s9 : List Int, TXq κ.2.2.2.2 sa k0 s9 → r.toInt = (s9.length : Int))) (fun (u : Unit) (t : State) => Bx D cy ad A sz sl κ (0) (0) t) A) (0) (0) A := by
  refine CM_of (loc0 := [(0, .ref k0)]) (own := RJ0) (nm := "length") (by decide) rfl rfl rfl (Nat.le_of_ble_eq_true rfl) hAF hAn ?_
  intro p e s m below meth c ls hsz hsl C hP hS hl
  have kz0 : KZ κ.2.2.2.2 sa := KZ.mk9 C hP
  have hsl0 : sLen κ.2.2.2.2 sa k0 = kn0 := ht0.len C hP
  refine lv_aload_n C.x C.b dJ0_length_8abf5_0 rfl (lv_at hl 0 rfl) ?_
  refine ct_val C hP hS ht0.sok (fun e9 => (hPV.t7 e9).1.imp (fun b z => z.1)) cw_75 dJ0_length_8abf5_1 ?_
  refine ct_len C hP hS (sok_bok hPV ht0.sok) dJ0_length_8abf5_4 (fun x1 ex1 => ?_)
  have lx1 : (sLen κ.2.2.2.2 sa k0) ≤ 100 := (sok_len C hPV ht0.sok)
  have tx1 : x1.toInt = (((sLen κ.2.2.2.2 sa k0) : Nat) : Int) := by rw [ex1]; exact nI_toInt (n := (sLen κ.2.2.2.2 sa k0)) (by omega)
  refine lv_aload_n C.x C.b dJ0_length_8abf5_5 rfl (lv_at hl 0 rfl) ?_
  refine c_callVi (n := 0) (As := []) (rest := [.int x1]) C hP hS hl.1 (NJ0_coder_7d493 l D cy ad A sz0 sa κ s.heap.size (SLT s.heap) C.f (fun q h => C.a q (Nat.le_trans hS.1 h)) k0 ht0.sok hPV) ⟨cw_102, cw_105, by decide +kernel⟩ ⟨cw_103, cw_104, cw_70⟩ rfl (c_srecv C hP hS ht0.sok) rfl rfl (lv_room (Nat.le_of_ble_eq_true rfl)) ⟨Nat.le_of_ble_eq_true rfl, Nat.le_of_ble_eq_true rfl⟩ ⟨(Nat.le_of_ble_eq_true rfl), (Nat.le_of_ble_eq_true rfl)⟩ dJ0_length_8abf5_6 (fun r2 u H locs hr2 hP hS => ?_)
  have hr2 : (r2 = (0 : Int32)) := hr2
  subst hr2
  refine lv_ishr C.x C.b dJ0_length_8abf5_9 ?_
  refine lv_topi (fun x3 ex3 => ?_)
  obtain rfl : x1 = x3 := (ex3.trans (sb_shr0 _)).symm
  exact c_reti C hsz hsl () ⟨(vJ0_length_8abf5_1 sa κ k0 kn0 x1 hsl0 ex1 tx1 lx1), (vJ0_length_8abf5_2 sa κ k0 kn0 x1 ht0 hPV kz0 hsl0 ex1 tx1 lx1)⟩ hP hS ⟨(Nat.le_of_ble_eq_true rfl), (Nat.le_of_ble_eq_true rfl)⟩ ⟨(Nat.le_of_ble_eq_true rfl), (Nat.le_of_ble_eq_true rfl)⟩ dJ0_length_8abf5_10

-- retz @13
theorem vJ0_isEmpty_aae02_1   : 0 ≤ (0 : Int32).toInt ∧ (0 : Int32).toInt ≤ 1 := by
  have q0 : (0 : Int32).toInt = 0 := by decide +kernel
  refine ⟨?_, ?_⟩ <;> first | assumption | omega | (subst_vars; omega) | trivial
-- post2 @13
theorem vJ0_isEmpty_aae02_2 (sa : Nat → Nat) (κ : KS) (k0 : Nat) (x1 : Int32) (ht0 : SOK κ.2.2.2.2 sa k0) (hPV : PV sa κ.2.2.2.2) (kz0 : KZ κ.2.2.2.2 sa) (ex1 : x1 = Int32.ofNat ((sLen κ.2.2.2.2 sa k0))) (tx1 : x1.toInt = (((sLen κ.2.2.2.2 sa k0) : Nat) : Int)) (lx1 : (sLen κ.2.2.2.2 sa k0) ≤ 100) (c2 : ¬ x1.toInt = 0) : ∀ s9 : List Int, TXq κ.2.2.2.2 sa k0 s9 → ((0 : Int32).toInt = 0 → ¬ s9 = []) ∧ (¬ (0 : Int32).toInt = 0 → s9 = []) := by
  have q0 : (0 : Int32).toInt = 0 := by decide +kernel
  intro s9 hs
  have l1 := BTX.len9 kz0 (sok_bok hPV ht0) (hs.b9 kz0)
  refine ⟨fun h e => ?_, fun h => ?_⟩
  · rw [e] at l1
    have l1 : sLen κ.2.2.2.2 sa k0 = 0 := l1
    omega
  · exact List.length_eq_zero_iff.mp (by omega)
-- retz @13
theorem vJ0_isEmpty_aae02_3   : 0 ≤ (1 : Int32).toInt ∧ (1 : Int32).toInt ≤ 1 := by
  have q1 : (1 : Int32).toInt = 1 := by decide +kernel
  refine ⟨?_, ?_⟩ <;> first | assumption | omega | (subst_vars; omega) | trivial
-- post2 @13
theorem vJ0_isEmpty_aae02_4 (sa : Nat → Nat) (κ : KS) (k0 : Nat) (x1 : Int32) (ht0 : SOK κ.2.2.2.2 sa k0) (hPV : PV sa κ.2.2.2.2) (kz0 : KZ κ.2.2.2.2 sa) (ex1 : x1 = Int32.ofNat ((sLen κ.2.2.2.2 sa k0))) (tx1 : x1.toInt = (((sLen κ.2.2.2.2 sa k0) : Nat) : Int)) (lx1 : (sLen κ.2.2.2.2 sa k0) ≤ 100) (c2 : x1.toInt = 0) : ∀ s9 : List Int, TXq κ.2.2.2.2 sa k0 s9 → ((1 : Int32).toInt = 0 → ¬ s9 = []) ∧ (¬ (1 : Int32).toInt = 0 → s9 = []) := by
  have q1 : (1 : Int32).toInt = 1 := by decide +kernel
  intro s9 hs
  have l1 := BTX.len9 kz0 (sok_bok hPV ht0) (hs.b9 kz0)
  refine ⟨fun h e => ?_, fun h => ?_⟩
  · rw [e] at l1
    have l1 : sLen κ.2.2.2.2 sa k0 = 0 := l1
    omega
  · exact List.length_eq_zero_iff.mp (by omega)
set_option maxHeartbeats 4000000 in
set_option maxRecDepth 100000 in
theorem NJ0_isEmpty_aae02 (l : Launch) (D : va_G) (cy : Nat → ClassId) (ad : Nat → Nat) (A : Nat → Prop) (sz0 : Nat) (sa : Nat → Nat)  (κ : KS) (sz sl : Nat) (hAF : ∀ q, A q → Fr sz0 q) (hAn : ∀ q : Nat, sz ≤ q → A q) (k0 : Nat) (ht0 : SOK κ.2.2.2.2 sa k0) (hPV : PV sa κ.2.2.2.2) : Met l yJ0_isEmpty_aae02 (Cond.code yJ0_isEmpty_aae02 cJ0_isEmpty_aae02 1 (some .boolean) :: GWc) ({ frames := 0, cells := 0, slots := 0, locals := 0 }) (PcC D cy ad A sz0 sa [.ref k0] κ sz sl) (va_Qi (fun (r : Int32) (u : Unit) => ((0 ≤ r.toInt ∧ r.toInt ≤ 1)) ∧ (∀ s9 : List Int, TXq κ.2.2.2.2 sa k0 s9 → (r.toInt = 0 → ¬ s9 = []) ∧ (¬ r.toInt = 0 → s9 = []))) (fun (u : Unit) (t : State) => Bx D cy ad A sz sl κ (0) (0) t) A) (0) (0) A := by
  refine CM_of (loc0 := [(0, .ref k0)]) (own := RJ0) (nm := "isEmpty") (by decide) rfl rfl rfl (Nat.le_of_ble_eq_true rfl) hAF hAn ?_
  intro p e s m below meth c ls hsz hsl C hP hS hl
  have kz0 : KZ κ.2.2.2.2 sa := KZ.mk9 C hP
  refine lv_aload_n C.x C.b dJ0_isEmpty_aae02_0 rfl (lv_at hl 0 rfl) ?_
  refine ct_val C hP hS ht0 (fun e9 => (hPV.t7 e9).1.imp (fun b z => z.1)) cw_75 dJ0_isEmpty_aae02_1 ?_
  refine ct_len C hP hS (sok_bok hPV ht0) dJ0_isEmpty_aae02_4 (fun x1 ex1 => ?_)
  have lx1 : (sLen κ.2.2.2.2 sa k0) ≤ 100 := (sok_len C hPV ht0)
  have tx1 : x1.toInt = (((sLen κ.2.2.2.2 sa k0) : Nat) : Int) := by rw [ex1]; exact nI_toInt (n := (sLen κ.2.2.2.2 sa k0)) (by omega)
  refine lv_if_ne (tgt := 12) C.x C.b dJ0_isEmpty_aae02_5 (by decide) (fun c2 => ?_) (fun c2 => ?_)
  · have c2 : ¬ x1.toInt = 0 := by have h := z_ne c2; rw [show (0 : Int32).toInt = 0 from by decide +kernel] at h; exact h
    refine lv_iconst (v := 0) C.x C.b dJ0_isEmpty_aae02_12 (by decide +kernel) ?_
    exact c_retz (ty := .boolean) (hv := rfl) C hsz hsl () ⟨(vJ0_isEmpty_aae02_1  ), (vJ0_isEmpty_aae02_2 sa κ k0 x1 ht0 hPV kz0 ex1 tx1 lx1 c2)⟩ hP hS ⟨(Nat.le_of_ble_eq_true rfl), (Nat.le_of_ble_eq_true rfl)⟩ ⟨(Nat.le_of_ble_eq_true rfl), (Nat.le_of_ble_eq_true rfl)⟩ dJ0_isEmpty_aae02_13
  · have c2 : x1.toInt = 0 := by have h := z_eq c2; rw [show (0 : Int32).toInt = 0 from by decide +kernel] at h; exact h
    refine lv_iconst (v := 1) C.x C.b dJ0_isEmpty_aae02_8 (by decide +kernel) ?_
    refine lv_goto (tgt := 13) C.x C.b dJ0_isEmpty_aae02_9 (by decide) ?_
    exact c_retz (ty := .boolean) (hv := rfl) C hsz hsl () ⟨(vJ0_isEmpty_aae02_3  ), (vJ0_isEmpty_aae02_4 sa κ k0 x1 ht0 hPV kz0 ex1 tx1 lx1 c2)⟩ hP hS ⟨(Nat.le_of_ble_eq_true rfl), (Nat.le_of_ble_eq_true rfl)⟩ ⟨(Nat.le_of_ble_eq_true rfl), (Nat.le_of_ble_eq_true rfl)⟩ dJ0_isEmpty_aae02_13

-- dead@1 @9
theorem vJ3_checkIndex_8e157_1 (k0 : Int32) (k1 : Int32) (hpre_0 : 0 ≤ k0.toInt) (hpre_1 : k0.toInt < k1.toInt) (c1 : k0.toInt < 0) : False := by
  first | assumption | omega | (subst_vars; omega) | trivial
-- dead@6 @9
theorem vJ3_checkIndex_8e157_2 (k0 : Int32) (k1 : Int32) (hpre_0 : 0 ≤ k0.toInt) (hpre_1 : k0.toInt < k1.toInt) (c1 : 0 ≤ k0.toInt) (c2 : k1.toInt ≤ k0.toInt) : False := by
  first | assumption | omega | (subst_vars; omega) | trivial
set_option maxHeartbeats 4000000 in
set_option maxRecDepth 100000 in
theorem NJ3_checkIndex_8e157 (l : Launch) (D : va_G) (cy : Nat → ClassId) (ad : Nat → Nat) (A : Nat → Prop) (sz0 : Nat) (sa : Nat → Nat)  (κ : KS) (sz sl : Nat) (hAF : ∀ q, A q → Fr sz0 q) (hAn : ∀ q : Nat, sz ≤ q → A q) (k0 : Int32) (k1 : Int32) (k2 : Option Nat) (hPV : PV sa κ.2.2.2.2) (hpre : 0 ≤ k0.toInt ∧ k0.toInt < k1.toInt) : Met l yJ3_checkIndex_8e157 (Cond.code yJ3_checkIndex_8e157 cJ3_checkIndex_8e157 3 (some .int) :: GWc) ({ frames := 0, cells := 0, slots := 0, locals := 0 }) (PcC D cy ad A sz0 sa [.int k0, .int k1, va_rf k2] κ sz sl) (va_Qi (fun (r : Int32) (u : Unit) => True) (fun (u : Unit) (t : State) => Bx D cy ad A sz sl κ (0) (0) t) A) (0) (0) A := by
  refine CM_of (loc0 := [(0, .int k0), (1, .int k1), (2, va_rf k2)]) (own := RJ3) (nm := "checkIndex") (by decide) rfl rfl (by cases k2 <;> rfl) (by cases k2 <;> exact Nat.le_of_ble_eq_true rfl) hAF hAn ?_
  intro p e s m below meth c ls hsz hsl C hP hS hl
  obtain ⟨hpre_0, hpre_1⟩ := hpre
  refine lv_iload_n C.x C.b dJ3_checkIndex_8e157_0 rfl (lv_at hl 0 rfl) ?_
  refine lv_if_lt (tgt := 9) C.x C.b dJ3_checkIndex_8e157_1 (by decide) (fun c1 => ?_) (fun c1 => ?_)
  · have c1 : k0.toInt < 0 := by have h := z_lt c1; rw [show (0 : Int32).toInt = 0 from by decide +kernel] at h; exact h
    exact absurd (vJ3_checkIndex_8e157_1 k0 k1 hpre_0 hpre_1 c1) id
  · have c1 : 0 ≤ k0.toInt := by have h := z_nlt c1; rw [show (0 : Int32).toInt = 0 from by decide +kernel] at h; exact h
    refine lv_iload_n C.x C.b dJ3_checkIndex_8e157_4 rfl (lv_at hl 0 rfl) ?_
    refine lv_iload_n C.x C.b dJ3_checkIndex_8e157_5 rfl (lv_at hl 1 rfl) ?_
    refine lv_icmp_lt (tgt := 16) C.x C.b dJ3_checkIndex_8e157_6 (by decide) (fun c2 => ?_) (fun c2 => ?_)
    · have c2 : k0.toInt < k1.toInt := by have h := z_lt c2; exact h
      refine lv_iload_n C.x C.b dJ3_checkIndex_8e157_16 rfl (lv_at hl 0 rfl) ?_
      exact c_reti C hsz hsl () trivial hP hS ⟨(Nat.le_of_ble_eq_true rfl), (Nat.le_of_ble_eq_true rfl)⟩ ⟨(Nat.le_of_ble_eq_true rfl), (Nat.le_of_ble_eq_true rfl)⟩ dJ3_checkIndex_8e157_17
    · have c2 : k1.toInt ≤ k0.toInt := by have h := z_nlt c2; exact h
      exact absurd (vJ3_checkIndex_8e157_2 k0 k1 hpre_0 hpre_1 c1 c2) id

-- pre:J3_checkIndex_8e157@5 @5
theorem vJ0_checkIndex_df160_1 (k0 : Int32) (k1 : Int32) (hpre_0 : 0 ≤ k0.toInt) (hpre_1 : k0.toInt < k1.toInt) : 0 ≤ k0.toInt ∧ k0.toInt < k1.toInt := by
  refine ⟨?_, ?_⟩ <;> first | assumption | omega | (subst_vars; omega) | trivial
set_option maxHeartbeats 4000000 in
set_option maxRecDepth 100000 in
theorem NJ0_checkIndex_df160 (l : Launch) (D : va_G) (cy : Nat → ClassId) (ad : Nat → Nat) (A : Nat → Prop) (sz0 : Nat) (sa : Nat → Nat)  (κ : KS) (sz sl : Nat) (hAF : ∀ q, A q → Fr sz0 q) (hAn : ∀ q : Nat, sz ≤ q → A q) (k0 : Int32) (k1 : Int32) (hPV : PV sa κ.2.2.2.2) (hpre : 0 ≤ k0.toInt ∧ k0.toInt < k1.toInt) : Met l yJ0_checkIndex_df160 (Cond.code yJ0_checkIndex_df160 cJ0_checkIndex_df160 2 none :: GWc) ({ frames := 1, cells := 0, slots := 0, locals := 22 }) (PcC D cy ad A sz0 sa [.int k0, .int k1] κ sz sl) (va_Qv (fun (u : Unit) => True) (fun (u : Unit) (t : State) => Bx D cy ad A sz sl κ (0) (0) t) A) (0) (0) A := by
  refine CM_of (loc0 := [(0, .int k0), (1, .int k1)]) (own := RJ0) (nm := "checkIndex") (by decide) rfl rfl rfl (Nat.le_of_ble_eq_true rfl) hAF hAn ?_
  intro p e s m below meth c ls hsz hsl C hP hS hl
  obtain ⟨hpre_0, hpre_1⟩ := hpre
  refine lv_iload_n C.x C.b dJ0_checkIndex_df160_0 rfl (lv_at hl 0 rfl) ?_
  refine lv_iload_n C.x C.b dJ0_checkIndex_df160_1 rfl (lv_at hl 1 rfl) ?_
  refine c_gsq C hS (C.n.2.2.2.narrow C.f) cw_120 dJ0_checkIndex_df160_2 (fun o1 => ?_)
  refine c_callSi (C2 := "") (b := 0) (n := 3) (As := [.int k0, .int k1, va_rf o1]) (rest := []) C hP hS hl.1 (NJ3_checkIndex_8e157 l D cy ad A sz0 sa κ s.heap.size (SLT s.heap) C.f (fun q h => C.a q (Nat.le_trans hS.1 h)) k0 k1 o1 hPV (vJ0_checkIndex_df160_1 k0 k1 hpre_0 hpre_1)) ⟨cw_121, cw_124, by decide +kernel⟩ ⟨cw_122, cw_123⟩ rfl rfl (lv_room (Nat.le_of_ble_eq_true rfl)) ⟨Nat.le_of_ble_eq_true rfl, Nat.le_of_ble_eq_true rfl⟩ ⟨(Nat.le_of_ble_eq_true rfl), (Nat.le_of_ble_eq_true rfl)⟩ dJ0_checkIndex_df160_5 (fun r2 u H locs hr2 hP hS => ?_)
  have hr2 : True := hr2
  refine lv_pop C.x C.b dJ0_checkIndex_df160_8 rfl ?_
  exact c_retv C hsz hsl () trivial hP hS ⟨(Nat.le_of_ble_eq_true rfl), (Nat.le_of_ble_eq_true rfl)⟩ ⟨(Nat.le_of_ble_eq_true rfl), (Nat.le_of_ble_eq_true rfl)⟩ dJ0_checkIndex_df160_9

-- pre:J0_checkIndex_df160@3 @3
theorem vJ1_charAt_3b067_1 (kn0 : Nat) (k1 : Int32) (x1 : Int32) (ht0l : kn0 ≤ 100) (hpre_0 : 0 ≤ k1.toInt) (hpre_1 : k1.toInt < ((kn0 : Nat) : Int)) (ex1 : x1 = Int32.ofNat (kn0)) (tx1 : x1.toInt = ((kn0 : Nat) : Int)) (lx1 : kn0 ≤ 100) : 0 ≤ k1.toInt ∧ k1.toInt < x1.toInt := by
  refine ⟨?_, ?_⟩ <;> first | assumption | omega | (subst_vars; omega) | trivial
-- in@8 @8
theorem vJ1_charAt_3b067_2 (kn0 : Nat) (k1 : Int32) (x1 : Int32) (ht0l : kn0 ≤ 100) (hpre_0 : 0 ≤ k1.toInt) (hpre_1 : k1.toInt < ((kn0 : Nat) : Int)) (ex1 : x1 = Int32.ofNat (kn0)) (tx1 : x1.toInt = ((kn0 : Nat) : Int)) (lx1 : kn0 ≤ 100) : vp_in k1 kn0 := by
  exact vp_in_iff.mpr ⟨by omega, by omega⟩
-- fact@13 @13
theorem vJ1_charAt_3b067_3 (x3 : Int32) (x4 : Int32) (x5 : Int32) (ex4 : x4 = x3 &&& (255 : Int32)) (ex5 : x5 = (x4.toUInt32 % 65536).toInt32) : 0 ≤ x5.toInt ∧ x5.toInt ≤ 65535 := by
  have q255 : (255 : Int32).toInt = 255 := by decide +kernel
  rw [ex5]; exact z_u16 _
-- post @14
theorem vJ1_charAt_3b067_4 (x3 : Int32) (x4 : Int32) (x5 : Int32) (ex4 : x4 = x3 &&& (255 : Int32)) (ex5 : x5 = (x4.toUInt32 % 65536).toInt32) (fx5_0 : 0 ≤ x5.toInt) (fx5_1 : x5.toInt ≤ 65535) : 0 ≤ x5.toInt ∧ x5.toInt ≤ 65535 := by
  have q255 : (255 : Int32).toInt = 255 := by decide +kernel
  refine ⟨?_, ?_⟩ <;> first | assumption | omega | (subst_vars; omega) | trivial
-- post2 @14
theorem vJ1_charAt_3b067_5 (sa : Nat → Nat) (κ : KS) (k0 : Nat) (kn0 : Nat) (k1 : Int32) (x1 : Int32) (x3 : Int32) (x4 : Int32) (x5 : Int32) (ht0l : kn0 ≤ 100) (ht0 : BOK κ.2.2.2.2 sa k0 kn0 ∧ kn0 ≤ 100) (hPV : PV sa κ.2.2.2.2) (kz0 : KZ κ.2.2.2.2 sa) (hpre_0 : 0 ≤ k1.toInt) (hpre_1 : k1.toInt < ((kn0 : Nat) : Int)) (ex1 : x1 = Int32.ofNat (kn0)) (tx1 : x1.toInt = ((kn0 : Nat) : Int)) (lx1 : kn0 ≤ 100) (ex3 : fits .byte (.int x3) = true) (bx3 : BYR κ.2.2.2.2 sa k0 k1.toNatClampNeg x3) (ex4 : x4 = x3 &&& (255 : Int32)) (ex5 : x5 = (x4.toUInt32 % 65536).toInt32) (fx5_0 : 0 ≤ x5.toInt) (fx5_1 : x5.toInt ≤ 65535) : ∀ s9 : List Int, BTX κ.2.2.2.2 sa k0 s9 → CHS s9 → k1.toInt < (s9.length : Int) → x5.toInt = s9.getD k1.toInt.toNat 0 := by
  have q255 : (255 : Int32).toInt = 255 := by decide +kernel
  intro s9 hb hc hl
  have z := BYR.tx9 hb bx3 (by rw [clampN]; omega)
  have g := CHS.get9 (k := k1.toNatClampNeg) hc
  have e := q_u8x (by omega) (by omega) ex4 ex5
  rw [e, z, clampN]
-- narc @14
theorem vJ1_charAt_3b067_6 (x3 : Int32) (x4 : Int32) (x5 : Int32) (ex4 : x4 = x3 &&& (255 : Int32)) (ex5 : x5 = (x4.toUInt32 % 65536).toInt32) (fx5_0 : 0 ≤ x5.toInt) (fx5_1 : x5.toInt ≤ 65535) : narrow .char (.int x5) = .int x5 := by
  have q255 : (255 : Int32).toInt = 255 := by decide +kernel
  exact narc ⟨by omega, by omega⟩
set_option maxHeartbeats 4000000 in
set_option maxRecDepth 100000 in
theorem NJ1_charAt_3b067 (l : Launch) (D : va_G) (cy : Nat → ClassId) (ad : Nat → Nat) (A : Nat → Prop) (sz0 : Nat) (sa : Nat → Nat)  (κ : KS) (sz sl : Nat) (hAF : ∀ q, A q → Fr sz0 q) (hAn : ∀ q : Nat, sz ≤ q → A q) (k0 : Nat) (kn0 : Nat) (k1 : Int32) (ht0 : BOK κ.2.2.2.2 sa k0 kn0 ∧ kn0 ≤ 100) (hPV : PV sa κ.2.2.2.2) (hpre : 0 ≤ k1.toInt ∧ k1.toInt < ((kn0 : Nat) : Int)) : Met l yJ1_charAt_3b067 (Cond.code yJ1_charAt_3b067 cJ1_charAt_3b067 2 (some .char) :: GWc) ({ frames := 2, cells := 0, slots := 0, locals := 43 }) (PcC D cy ad A sz0 sa [.ref k0, .int k1] κ sz sl) (va_Qi (fun (r : Int32) (u : Unit) => ((0 ≤ r.toInt ∧ r.toInt ≤ 65535)) ∧ (∀ s9 : List Int, BTX κ.2.2.2.2 sa k0 s9 → CHS s9 → k1.toInt < (s9.length : Int) → r.toInt = s9.getD k1.toInt.toNat 0)) (fun (u : Unit) (t : State) => Bx D cy ad A sz sl κ (0) (0) t) A) (0) (0) A := by
  refine CM_of (loc0 := [(0, .ref k0), (1, .int k1)]) (own := RJ1) (nm := "charAt") (by decide) rfl rfl rfl (Nat.le_of_ble_eq_true rfl) hAF hAn ?_
  intro p e s m below meth c ls hsz hsl C hP hS hl
  obtain ⟨hpre_0, hpre_1⟩ := hpre
  have kz0 : KZ κ.2.2.2.2 sa := KZ.mk9 C hP
  have ht0l : kn0 ≤ 100 := ht0.2
  refine lv_iload_n C.x C.b dJ1_charAt_3b067_0 rfl (lv_at hl 1 rfl) ?_
  refine lv_aload_n C.x C.b dJ1_charAt_3b067_1 rfl (lv_at hl 0 rfl) ?_
  refine ct_len C hP hS ht0.1 dJ1_charAt_3b067_2 (fun x1 ex1 => ?_)
  have lx1 : kn0 ≤ 100 := ht0.2
  have tx1 : x1.toInt = ((kn0 : Nat) : Int) := by rw [ex1]; exact nI_toInt (n := kn0) (by omega)
  refine c_callSv (C2 := "") (b := 0) (n := 2) (As := [.int k1, .int x1]) (rest := []) C hP hS hl.1 (NJ0_checkIndex_df160 l D cy ad A sz0 sa κ s.heap.size (SLT s.heap) C.f (fun q h => C.a q (Nat.le_trans hS.1 h)) k1 x1 hPV (vJ1_charAt_3b067_1 kn0 k1 x1 ht0l hpre_0 hpre_1 ex1 tx1 lx1)) ⟨cw_117, cw_119, by decide +kernel⟩ ⟨cw_118, cw_70⟩ rfl rfl (lv_room (Nat.le_of_ble_eq_true rfl)) ⟨Nat.le_of_ble_eq_true rfl, Nat.le_of_ble_eq_true rfl⟩ ⟨(Nat.le_of_ble_eq_true rfl), (Nat.le_of_ble_eq_true rfl)⟩ dJ1_charAt_3b067_3 (fun u H locs hr2 hP hS => ?_)
  have hr2 : True := hr2
  refine lv_aload_n C.x C.b dJ1_charAt_3b067_6 rfl (lv_at hl 0 rfl) ?_
  refine lv_iload_n C.x C.b dJ1_charAt_3b067_7 rfl (lv_at hl 1 rfl) ?_
  refine ct_ld C hP hS ht0.1 (vJ1_charAt_3b067_2 kn0 k1 x1 ht0l hpre_0 hpre_1 ex1 tx1 lx1) dJ1_charAt_3b067_8 (fun x3 ex3 bx3 => ?_)
  refine lv_sipush (v := 255) C.x C.b dJ1_charAt_3b067_9 (by decide +kernel) ?_
  refine lv_iand C.x C.b dJ1_charAt_3b067_12 ?_
  refine lv_topi (fun x4 ex4 => ?_)
  refine lv_i2c C.x C.b dJ1_charAt_3b067_13 rfl ?_
  refine lv_topi (fun x5 ex5 => ?_)
  have fx5 : 0 ≤ x5.toInt ∧ x5.toInt ≤ 65535 := (vJ1_charAt_3b067_3 x3 x4 x5 ex4 ex5)
  obtain ⟨fx5_0, fx5_1⟩ := fx5
  exact c_retz (ty := .char) (hv := (vJ1_charAt_3b067_6 x3 x4 x5 ex4 ex5 fx5_0 fx5_1)) C hsz hsl () ⟨(vJ1_charAt_3b067_4 x3 x4 x5 ex4 ex5 fx5_0 fx5_1), (vJ1_charAt_3b067_5 sa κ k0 kn0 k1 x1 x3 x4 x5 ht0l ht0 hPV kz0 hpre_0 hpre_1 ex1 tx1 lx1 ex3 bx3 ex4 ex5 fx5_0 fx5_1)⟩ hP hS ⟨(Nat.le_of_ble_eq_true rfl), (Nat.le_of_ble_eq_true rfl)⟩ ⟨(Nat.le_of_ble_eq_true rfl), (Nat.le_of_ble_eq_true rfl)⟩ dJ1_charAt_3b067_14

-- pre:J1_charAt_3b067@12 @12
theorem vJ0_charAt_5068e_1 (sa : Nat → Nat) (κ : KS) (k0 : Nat) (kn0 : Nat) (k1 : Int32) (hpre_0 : 0 ≤ k1.toInt) (hpre_1 : k1.toInt < ((kn0 : Nat) : Int)) (hsl0 : sLen κ.2.2.2.2 sa k0 = kn0) : 0 ≤ k1.toInt ∧ k1.toInt < (((sLen κ.2.2.2.2 sa k0) : Nat) : Int) := by
  refine ⟨?_, ?_⟩ <;> first | assumption | omega | (subst_vars; omega) | trivial
-- post @15
theorem vJ0_charAt_5068e_2 (r3 : Int32) (hr3_0 : 0 ≤ r3.toInt) (hr3_1 : r3.toInt ≤ 65535) : 0 ≤ r3.toInt ∧ r3.toInt ≤ 65535 := by
  refine ⟨?_, ?_⟩ <;> first | assumption | omega | (subst_vars; omega) | trivial
-- post2 @15
theorem vJ0_charAt_5068e_3 (sa : Nat → Nat) (κ : KS) (k0 : Nat) (kn0 : Nat) (k1 : Int32) (r3 : Int32) (ht0 : SL κ.2.2.2.2 sa k0 kn0) (hPV : PV sa κ.2.2.2.2) (kz0 : KZ κ.2.2.2.2 sa) (hpre_0 : 0 ≤ k1.toInt) (hpre_1 : k1.toInt < ((kn0 : Nat) : Int)) (hsl0 : sLen κ.2.2.2.2 sa k0 = kn0) (hr3y : ∀ s9 : List Int, BTX κ.2.2.2.2 sa (sVal κ.2.2.2.2 sa k0) s9 → CHS s9 → k1.toInt < (s9.length : Int) → r3.toInt = s9.getD k1.toInt.toNat 0) (hr3_0 : 0 ≤ r3.toInt) (hr3_1 : r3.toInt ≤ 65535) : ∀ s9 : List Int, TXq κ.2.2.2.2 sa k0 s9 → CHS s9 → r3.toInt = s9.getD k1.toInt.toNat 0 := by
  intro s9 hs hc
  have l1 := TXq.len9 kz0 ht0 hs
  exact hr3y s9 (hs.b9 kz0) hc (by omega)
-- narc @15
theorem vJ0_charAt_5068e_4 (r3 : Int32) (hr3_0 : 0 ≤ r3.toInt) (hr3_1 : r3.toInt ≤ 65535) : narrow .char (.int r3) = .int r3 := by
  exact narc ⟨by omega, by omega⟩
set_option maxHeartbeats 4000000 in
set_option maxRecDepth 100000 in
theorem NJ0_charAt_5068e (l : Launch) (D : va_G) (cy : Nat → ClassId) (ad : Nat → Nat) (A : Nat → Prop) (sz0 : Nat) (sa : Nat → Nat)  (κ : KS) (sz sl : Nat) (hAF : ∀ q, A q → Fr sz0 q) (hAn : ∀ q : Nat, sz ≤ q → A q) (k0 : Nat) (kn0 : Nat) (k1 : Int32) (ht0 : SL κ.2.2.2.2 sa k0 kn0) (hPV : PV sa κ.2.2.2.2) (hpre : 0 ≤ k1.toInt ∧ k1.toInt < ((kn0 : Nat) : Int)) : Met l yJ0_charAt_5068e (Cond.code yJ0_charAt_5068e cJ0_charAt_5068e 2 (some .char) :: GWc) ({ frames := 3, cells := 0, slots := 0, locals := 64 }) (PcC D cy ad A sz0 sa [.ref k0, .int k1] κ sz sl) (va_Qi (fun (r : Int32) (u : Unit) => ((0 ≤ r.toInt ∧ r.toInt ≤ 65535)) ∧ (∀ s9 : List Int, TXq κ.2.2.2.2 sa k0 s9 → CHS s9 → r.toInt = s9.getD k1.toInt.toNat 0)) (fun (u : Unit) (t : State) => Bx D cy ad A sz sl κ (0) (0) t) A) (0) (0) A := by
  refine CM_of (loc0 := [(0, .ref k0), (1, .int k1)]) (own := RJ0) (nm := "charAt") (by decide) rfl rfl rfl (Nat.le_of_ble_eq_true rfl) hAF hAn ?_
  intro p e s m below meth c ls hsz hsl C hP hS hl
  obtain ⟨hpre_0, hpre_1⟩ := hpre
  have kz0 : KZ κ.2.2.2.2 sa := KZ.mk9 C hP
  have hsl0 : sLen κ.2.2.2.2 sa k0 = kn0 := ht0.len C hP
  refine lv_aload_n C.x C.b dJ0_charAt_5068e_0 rfl (lv_at hl 0 rfl) ?_
  refine c_callVi (n := 0) (As := []) (rest := []) C hP hS hl.1 (NJ0_isLatin1_aae02 l D cy ad A sz0 sa κ s.heap.size (SLT s.heap) C.f (fun q h => C.a q (Nat.le_trans hS.1 h)) k0 ht0.sok hPV) ⟨cw_110, cw_113, by decide +kernel⟩ ⟨cw_111, cw_112, cw_70⟩ rfl (c_srecv C hP hS ht0.sok) rfl rfl (lv_room (Nat.le_of_ble_eq_true rfl)) ⟨Nat.le_of_ble_eq_true rfl, Nat.le_of_ble_eq_true rfl⟩ ⟨(Nat.le_of_ble_eq_true rfl), (Nat.le_of_ble_eq_true rfl)⟩ dJ0_charAt_5068e_1 (fun r1 u H locs hr1 hP hS => ?_)
  have hr1 : (r1 = (1 : Int32)) := hr1
  subst hr1
  refine lv_if_eq (tgt := 16) C.x C.b dJ0_charAt_5068e_4 (by decide) (fun c2 => absurd c2 (by decide +kernel)) (fun _ => ?_)
  refine lv_aload_n C.x C.b dJ0_charAt_5068e_7 rfl (lv_at hl 0 rfl) ?_
  refine ct_val C hP hS ht0.sok (fun e9 => (hPV.t7 e9).1.imp (fun b z => z.1)) cw_75 dJ0_charAt_5068e_8 ?_
  refine lv_iload_n C.x C.b dJ0_charAt_5068e_11 rfl (lv_at hl 1 rfl) ?_
  refine c_callSi (C2 := "") (b := 0) (n := 2) (As := [.ref (sVal κ.2.2.2.2 sa k0), .int k1]) (rest := []) C hP hS hl.1 (NJ1_charAt_3b067 l D cy ad A sz0 sa κ H.size (SLT H) C.f (fun q h => C.a q (Nat.le_trans hS.1 h)) (sVal κ.2.2.2.2 sa k0) (sLen κ.2.2.2.2 sa k0) k1 ⟨(sok_bok hPV ht0.sok), (sok_len C hPV ht0.sok)⟩ hPV (vJ0_charAt_5068e_1 sa κ k0 kn0 k1 hpre_0 hpre_1 hsl0)) ⟨cw_114, cw_116, by decide +kernel⟩ ⟨cw_115, cw_78⟩ rfl rfl (lv_room (Nat.le_of_ble_eq_true rfl)) ⟨Nat.le_of_ble_eq_true rfl, Nat.le_of_ble_eq_true rfl⟩ ⟨(Nat.le_of_ble_eq_true rfl), (Nat.le_of_ble_eq_true rfl)⟩ dJ0_charAt_5068e_12 (fun r3 u H locs hr3 hP hS => ?_)
  obtain ⟨hr3, hr3y⟩ := hr3
  have hr3y : ∀ s9 : List Int, BTX κ.2.2.2.2 sa (sVal κ.2.2.2.2 sa k0) s9 → CHS s9 → k1.toInt < (s9.length : Int) → r3.toInt = s9.getD k1.toInt.toNat 0 := hr3y
  have hr3 : (0 ≤ r3.toInt ∧ r3.toInt ≤ 65535) := hr3
  obtain ⟨hr3_0, hr3_1⟩ := hr3
  exact c_retz (ty := .char) (hv := (vJ0_charAt_5068e_4 r3 hr3_0 hr3_1)) C hsz hsl () ⟨(vJ0_charAt_5068e_2 r3 hr3_0 hr3_1), (vJ0_charAt_5068e_3 sa κ k0 kn0 k1 r3 ht0 hPV kz0 hpre_0 hpre_1 hsl0 hr3y hr3_0 hr3_1)⟩ hP hS ⟨(Nat.le_of_ble_eq_true rfl), (Nat.le_of_ble_eq_true rfl)⟩ ⟨(Nat.le_of_ble_eq_true rfl), (Nat.le_of_ble_eq_true rfl)⟩ dJ0_charAt_5068e_15

-- retz @35
theorem vJ1_equals_b5fdf_1   : 0 ≤ (0 : Int32).toInt ∧ (0 : Int32).toInt ≤ 1 := by
  have q0 : (0 : Int32).toInt = 0 := by decide +kernel
  refine ⟨?_, ?_⟩ <;> first | assumption | omega | (subst_vars; omega) | trivial
-- post2 @35
theorem vJ1_equals_b5fdf_2 (sa : Nat → Nat) (κ : KS) (k0 : Nat) (kn0 : Nat) (k1 : Nat) (kn1 : Nat) (x1 : Int32) (x2 : Int32) (ht0l : kn0 ≤ 100) (ht1l : kn1 ≤ 100) (ht0 : BOK κ.2.2.2.2 sa k0 kn0 ∧ kn0 ≤ 100) (ht1 : BOK κ.2.2.2.2 sa k1 kn1 ∧ kn1 ≤ 100) (hPV : PV sa κ.2.2.2.2) (kz0 : KZ κ.2.2.2.2 sa) (ex1 : x1 = Int32.ofNat (kn0)) (tx1 : x1.toInt = ((kn0 : Nat) : Int)) (lx1 : kn0 ≤ 100) (ex2 : x2 = Int32.ofNat (kn1)) (tx2 : x2.toInt = ((kn1 : Nat) : Int)) (lx2 : kn1 ≤ 100) (c3 : ¬ x1.toInt = x2.toInt) : ∀ s9 t9 : List Int, BTX κ.2.2.2.2 sa k0 s9 → BTX κ.2.2.2.2 sa k1 t9 → ((0 : Int32).toInt = 0 → ¬ s9 = t9) ∧ (¬ (0 : Int32).toInt = 0 → s9 = t9) := by
  have q0 : (0 : Int32).toInt = 0 := by decide +kernel
  intro s9 t9 hs ht
  have l1 := BTX.len9 kz0 ht0.1 hs
  have l2 := BTX.len9 kz0 ht1.1 ht
  exact ⟨fun _ e => by rw [e] at l1; omega, fun h => by exfalso; omega⟩
-- init@9 @9
theorem vJ1_equals_b5fdf_3   : 0 ≤ (0 : Int32).toInt := by
  have q0 : (0 : Int32).toInt = 0 := by decide +kernel
  first | assumption | omega | (subst_vars; omega) | trivial
-- init2@9 @9
theorem vJ1_equals_b5fdf_4 (sa : Nat → Nat) (κ : KS) (k0 : Nat) (kn0 : Nat) (k1 : Nat) (kn1 : Nat) (x1 : Int32) (x2 : Int32) (ht0l : kn0 ≤ 100) (ht1l : kn1 ≤ 100) (ht0 : BOK κ.2.2.2.2 sa k0 kn0 ∧ kn0 ≤ 100) (ht1 : BOK κ.2.2.2.2 sa k1 kn1 ∧ kn1 ≤ 100) (hPV : PV sa κ.2.2.2.2) (kz0 : KZ κ.2.2.2.2 sa) (ex1 : x1 = Int32.ofNat (kn0)) (tx1 : x1.toInt = ((kn0 : Nat) : Int)) (lx1 : kn0 ≤ 100) (ex2 : x2 = Int32.ofNat (kn1)) (tx2 : x2.toInt = ((kn1 : Nat) : Int)) (lx2 : kn1 ≤ 100) (c3 : x1.toInt = x2.toInt) : ∀ s9 t9 : List Int, BTX κ.2.2.2.2 sa k0 s9 → BTX κ.2.2.2.2 sa k1 t9 → s9.length = t9.length ∧ ∀ k : Nat, (k : Int) < (0 : Int32).toInt → s9.getD k 0 = t9.getD k 0 := by
  have q0 : (0 : Int32).toInt = 0 := by decide +kernel
  intro s9 t9 hs ht
  have l1 := BTX.len9 kz0 ht0.1 hs
  have l2 := BTX.len9 kz0 ht1.1 ht
  exact ⟨by omega, fun k hk => by omega⟩
-- retz @33
theorem vJ1_equals_b5fdf_5   : 0 ≤ (1 : Int32).toInt ∧ (1 : Int32).toInt ≤ 1 := by
  have q1 : (1 : Int32).toInt = 1 := by decide +kernel
  refine ⟨?_, ?_⟩ <;> first | assumption | omega | (subst_vars; omega) | trivial
-- post2 @33
theorem vJ1_equals_b5fdf_6 (sa : Nat → Nat) (κ : KS) (k0 : Nat) (kn0 : Nat) (k1 : Nat) (kn1 : Nat) (x1 : Int32) (x2 : Int32) (y4 : Int32) (x5 : Int32) (ht0l : kn0 ≤ 100) (ht1l : kn1 ≤ 100) (ht0 : BOK κ.2.2.2.2 sa k0 kn0 ∧ kn0 ≤ 100) (ht1 : BOK κ.2.2.2.2 sa k1 kn1 ∧ kn1 ≤ 100) (hPV : PV sa κ.2.2.2.2) (kz0 : KZ κ.2.2.2.2 sa) (ex1 : x1 = Int32.ofNat (kn0)) (tx1 : x1.toInt = ((kn0 : Nat) : Int)) (lx1 : kn0 ≤ 100) (ex2 : x2 = Int32.ofNat (kn1)) (tx2 : x2.toInt = ((kn1 : Nat) : Int)) (lx2 : kn1 ≤ 100) (c3 : x1.toInt = x2.toInt) (hi9 : 0 ≤ y4.toInt) (hi9y : ∀ s9 t9 : List Int, BTX κ.2.2.2.2 sa k0 s9 → BTX κ.2.2.2.2 sa k1 t9 → s9.length = t9.length ∧ ∀ k : Nat, (k : Int) < y4.toInt → s9.getD k 0 = t9.getD k 0) (ex5 : x5 = Int32.ofNat (kn0)) (tx5 : x5.toInt = ((kn0 : Nat) : Int)) (lx5 : kn0 ≤ 100) (c6 : x5.toInt ≤ y4.toInt) : ∀ s9 t9 : List Int, BTX κ.2.2.2.2 sa k0 s9 → BTX κ.2.2.2.2 sa k1 t9 → ((1 : Int32).toInt = 0 → ¬ s9 = t9) ∧ (¬ (1 : Int32).toInt = 0 → s9 = t9) := by
  have q1 : (1 : Int32).toInt = 1 := by decide +kernel
  intro s9 t9 hs ht
  have l1 := BTX.len9 kz0 ht0.1 hs
  have l2 := BTX.len9 kz0 ht1.1 ht
  obtain ⟨z1, z2⟩ := hi9y s9 t9 hs ht
  exact ⟨fun h => by exfalso; omega, fun _ => q_ext z1 (fun k hk => z2 k (by omega))⟩
-- in@17 @17
theorem vJ1_equals_b5fdf_7 (kn0 : Nat) (kn1 : Nat) (x1 : Int32) (x2 : Int32) (y4 : Int32) (x5 : Int32) (ht0l : kn0 ≤ 100) (ht1l : kn1 ≤ 100) (ex1 : x1 = Int32.ofNat (kn0)) (tx1 : x1.toInt = ((kn0 : Nat) : Int)) (lx1 : kn0 ≤ 100) (ex2 : x2 = Int32.ofNat (kn1)) (tx2 : x2.toInt = ((kn1 : Nat) : Int)) (lx2 : kn1 ≤ 100) (c3 : x1.toInt = x2.toInt) (hi9 : 0 ≤ y4.toInt) (ex5 : x5 = Int32.ofNat (kn0)) (tx5 : x5.toInt = ((kn0 : Nat) : Int)) (lx5 : kn0 ≤ 100) (c6 : y4.toInt < x5.toInt) : vp_in y4 kn0 := by
  exact vp_in_iff.mpr ⟨by omega, by omega⟩
-- in@20 @20
theorem vJ1_equals_b5fdf_8 (kn0 : Nat) (kn1 : Nat) (x1 : Int32) (x2 : Int32) (y4 : Int32) (x5 : Int32) (ht0l : kn0 ≤ 100) (ht1l : kn1 ≤ 100) (ex1 : x1 = Int32.ofNat (kn0)) (tx1 : x1.toInt = ((kn0 : Nat) : Int)) (lx1 : kn0 ≤ 100) (ex2 : x2 = Int32.ofNat (kn1)) (tx2 : x2.toInt = ((kn1 : Nat) : Int)) (lx2 : kn1 ≤ 100) (c3 : x1.toInt = x2.toInt) (hi9 : 0 ≤ y4.toInt) (ex5 : x5 = Int32.ofNat (kn0)) (tx5 : x5.toInt = ((kn0 : Nat) : Int)) (lx5 : kn0 ≤ 100) (c6 : y4.toInt < x5.toInt) : vp_in y4 kn1 := by
  exact vp_in_iff.mpr ⟨by omega, by omega⟩
-- nw@26 @26
theorem vJ1_equals_b5fdf_9 (kn0 : Nat) (kn1 : Nat) (x1 : Int32) (x2 : Int32) (y4 : Int32) (x5 : Int32) (x10 : Int32) (ht0l : kn0 ≤ 100) (ht1l : kn1 ≤ 100) (ex1 : x1 = Int32.ofNat (kn0)) (tx1 : x1.toInt = ((kn0 : Nat) : Int)) (lx1 : kn0 ≤ 100) (ex2 : x2 = Int32.ofNat (kn1)) (tx2 : x2.toInt = ((kn1 : Nat) : Int)) (lx2 : kn1 ≤ 100) (c3 : x1.toInt = x2.toInt) (hi9 : 0 ≤ y4.toInt) (ex5 : x5 = Int32.ofNat (kn0)) (tx5 : x5.toInt = ((kn0 : Nat) : Int)) (lx5 : kn0 ≤ 100) (c6 : y4.toInt < x5.toInt) (ex10 : x10 = y4 + (1 : Int32)) : x10.toInt = y4.toInt + 1 := by
  have q1 : (1 : Int32).toInt = 1 := by decide +kernel
  have z9 : (1 : Int32).toInt = 1 := by decide +kernel
  rw [ex10, z_add (by omega) (by omega)]; first | done | omega
-- inv@9 @9
theorem vJ1_equals_b5fdf_10 (kn0 : Nat) (kn1 : Nat) (x1 : Int32) (x2 : Int32) (y4 : Int32) (x5 : Int32) (x10 : Int32) (ht0l : kn0 ≤ 100) (ht1l : kn1 ≤ 100) (ex1 : x1 = Int32.ofNat (kn0)) (tx1 : x1.toInt = ((kn0 : Nat) : Int)) (lx1 : kn0 ≤ 100) (ex2 : x2 = Int32.ofNat (kn1)) (tx2 : x2.toInt = ((kn1 : Nat) : Int)) (lx2 : kn1 ≤ 100) (c3 : x1.toInt = x2.toInt) (hi9 : 0 ≤ y4.toInt) (ex5 : x5 = Int32.ofNat (kn0)) (tx5 : x5.toInt = ((kn0 : Nat) : Int)) (lx5 : kn0 ≤ 100) (c6 : y4.toInt < x5.toInt) (ex10 : x10 = y4 + (1 : Int32)) (tx10 : x10.toInt = y4.toInt + 1) : 0 ≤ x10.toInt := by
  have q1 : (1 : Int32).toInt = 1 := by decide +kernel
  first | assumption | omega | (subst_vars; omega) | trivial
-- inv2@9 @9
theorem vJ1_equals_b5fdf_11 (sa : Nat → Nat) (κ : KS) (k0 : Nat) (kn0 : Nat) (k1 : Nat) (kn1 : Nat) (x1 : Int32) (x2 : Int32) (y4 : Int32) (x5 : Int32) (x7 : Int32) (x8 : Int32) (x10 : Int32) (ht0l : kn0 ≤ 100) (ht1l : kn1 ≤ 100) (ht0 : BOK κ.2.2.2.2 sa k0 kn0 ∧ kn0 ≤ 100) (ht1 : BOK κ.2.2.2.2 sa k1 kn1 ∧ kn1 ≤ 100) (hPV : PV sa κ.2.2.2.2) (kz0 : KZ κ.2.2.2.2 sa) (ex1 : x1 = Int32.ofNat (kn0)) (tx1 : x1.toInt = ((kn0 : Nat) : Int)) (lx1 : kn0 ≤ 100) (ex2 : x2 = Int32.ofNat (kn1)) (tx2 : x2.toInt = ((kn1 : Nat) : Int)) (lx2 : kn1 ≤ 100) (c3 : x1.toInt = x2.toInt) (hi9 : 0 ≤ y4.toInt) (hi9y : ∀ s9 t9 : List Int, BTX κ.2.2.2.2 sa k0 s9 → BTX κ.2.2.2.2 sa k1 t9 → s9.length = t9.length ∧ ∀ k : Nat, (k : Int) < y4.toInt → s9.getD k 0 = t9.getD k 0) (ex5 : x5 = Int32.ofNat (kn0)) (tx5 : x5.toInt = ((kn0 : Nat) : Int)) (lx5 : kn0 ≤ 100) (c6 : y4.toInt < x5.toInt) (ex7 : fits .byte (.int x7) = true) (bx7 : BYR κ.2.2.2.2 sa k0 y4.toNatClampNeg x7) (ex8 : fits .byte (.int x8) = true) (bx8 : BYR κ.2.2.2.2 sa k1 y4.toNatClampNeg x8) (c9 : x7.toInt = x8.toInt) (ex10 : x10 = y4 + (1 : Int32)) (tx10 : x10.toInt = y4.toInt + 1) : ∀ s9 t9 : List Int, BTX κ.2.2.2.2 sa k0 s9 → BTX κ.2.2.2.2 sa k1 t9 → s9.length = t9.length ∧ ∀ k : Nat, (k : Int) < x10.toInt → s9.getD k 0 = t9.getD k 0 := by
  have q1 : (1 : Int32).toInt = 1 := by decide +kernel
  intro s9 t9 hs ht
  obtain ⟨z1, z2⟩ := hi9y s9 t9 hs ht
  have l1 := BTX.len9 kz0 ht0.1 hs
  refine ⟨z1, fun k hk => ?_⟩
  by_cases q : (k : Int) < y4.toInt
  · exact z2 k q
  · have e : k = y4.toNatClampNeg := by rw [clampN]; omega
    subst e
    have a := BYR.tx9 hs bx7 (by rw [clampN]; omega)
    have b := BYR.tx9 ht bx8 (by rw [clampN]; omega)
    rw [← a, ← b]; omega
-- meas@9 @9
theorem vJ1_equals_b5fdf_12 (kn0 : Nat) (kn1 : Nat) (x1 : Int32) (x2 : Int32) (y4 : Int32) (x5 : Int32) (x10 : Int32) (ht0l : kn0 ≤ 100) (ht1l : kn1 ≤ 100) (ex1 : x1 = Int32.ofNat (kn0)) (tx1 : x1.toInt = ((kn0 : Nat) : Int)) (lx1 : kn0 ≤ 100) (ex2 : x2 = Int32.ofNat (kn1)) (tx2 : x2.toInt = ((kn1 : Nat) : Int)) (lx2 : kn1 ≤ 100) (c3 : x1.toInt = x2.toInt) (hi9 : 0 ≤ y4.toInt) (ex5 : x5 = Int32.ofNat (kn0)) (tx5 : x5.toInt = ((kn0 : Nat) : Int)) (lx5 : kn0 ≤ 100) (c6 : y4.toInt < x5.toInt) (ex10 : x10 = y4 + (1 : Int32)) (tx10 : x10.toInt = y4.toInt + 1) : (kn0 - x10.toInt.toNat) < (kn0 - y4.toInt.toNat) := by
  have q1 : (1 : Int32).toInt = 1 := by decide +kernel
  first | assumption | omega | (subst_vars; omega) | trivial
-- post2 @25
theorem vJ1_equals_b5fdf_13 (sa : Nat → Nat) (κ : KS) (k0 : Nat) (kn0 : Nat) (k1 : Nat) (kn1 : Nat) (x1 : Int32) (x2 : Int32) (y4 : Int32) (x5 : Int32) (x7 : Int32) (x8 : Int32) (ht0l : kn0 ≤ 100) (ht1l : kn1 ≤ 100) (ht0 : BOK κ.2.2.2.2 sa k0 kn0 ∧ kn0 ≤ 100) (ht1 : BOK κ.2.2.2.2 sa k1 kn1 ∧ kn1 ≤ 100) (hPV : PV sa κ.2.2.2.2) (kz0 : KZ κ.2.2.2.2 sa) (ex1 : x1 = Int32.ofNat (kn0)) (tx1 : x1.toInt = ((kn0 : Nat) : Int)) (lx1 : kn0 ≤ 100) (ex2 : x2 = Int32.ofNat (kn1)) (tx2 : x2.toInt = ((kn1 : Nat) : Int)) (lx2 : kn1 ≤ 100) (c3 : x1.toInt = x2.toInt) (hi9 : 0 ≤ y4.toInt) (hi9y : ∀ s9 t9 : List Int, BTX κ.2.2.2.2 sa k0 s9 → BTX κ.2.2.2.2 sa k1 t9 → s9.length = t9.length ∧ ∀ k : Nat, (k : Int) < y4.toInt → s9.getD k 0 = t9.getD k 0) (ex5 : x5 = Int32.ofNat (kn0)) (tx5 : x5.toInt = ((kn0 : Nat) : Int)) (lx5 : kn0 ≤ 100) (c6 : y4.toInt < x5.toInt) (ex7 : fits .byte (.int x7) = true) (bx7 : BYR κ.2.2.2.2 sa k0 y4.toNatClampNeg x7) (ex8 : fits .byte (.int x8) = true) (bx8 : BYR κ.2.2.2.2 sa k1 y4.toNatClampNeg x8) (c9 : ¬ x7.toInt = x8.toInt) : ∀ s9 t9 : List Int, BTX κ.2.2.2.2 sa k0 s9 → BTX κ.2.2.2.2 sa k1 t9 → ((0 : Int32).toInt = 0 → ¬ s9 = t9) ∧ (¬ (0 : Int32).toInt = 0 → s9 = t9) := by
  have q0 : (0 : Int32).toInt = 0 := by decide +kernel
  intro s9 t9 hs ht
  have l1 := BTX.len9 kz0 ht0.1 hs
  have l2 := BTX.len9 kz0 ht1.1 ht
  obtain ⟨z1, z2⟩ := hi9y s9 t9 hs ht
  refine ⟨fun _ e => ?_, fun h => by exfalso; omega⟩
  have a := BYR.tx9 hs bx7 (by rw [clampN]; omega)
  have b := BYR.tx9 ht bx8 (by rw [clampN]; omega)
  rw [e, ← b] at a
  omega
set_option maxHeartbeats 4000000 in
set_option maxRecDepth 100000 in
theorem NJ1_equals_b5fdf (l : Launch) (D : va_G) (cy : Nat → ClassId) (ad : Nat → Nat) (A : Nat → Prop) (sz0 : Nat) (sa : Nat → Nat)  (κ : KS) (sz sl : Nat) (hAF : ∀ q, A q → Fr sz0 q) (hAn : ∀ q : Nat, sz ≤ q → A q) (k0 : Nat) (kn0 : Nat) (k1 : Nat) (kn1 : Nat) (ht0 : BOK κ.2.2.2.2 sa k0 kn0 ∧ kn0 ≤ 100) (ht1 : BOK κ.2.2.2.2 sa k1 kn1 ∧ kn1 ≤ 100) (hPV : PV sa κ.2.2.2.2) : Met l yJ1_equals_b5fdf (Cond.code yJ1_equals_b5fdf cJ1_equals_b5fdf 3 (some .boolean) :: GWc) ({ frames := 0, cells := 0, slots := 0, locals := 0 }) (PcC D cy ad A sz0 sa [.ref k0, .ref k1] κ sz sl) (va_Qi (fun (r : Int32) (u : Unit) => ((0 ≤ r.toInt ∧ r.toInt ≤ 1)) ∧ (∀ s9 t9 : List Int, BTX κ.2.2.2.2 sa k0 s9 → BTX κ.2.2.2.2 sa k1 t9 → (r.toInt = 0 → ¬ s9 = t9) ∧ (¬ r.toInt = 0 → s9 = t9))) (fun (u : Unit) (t : State) => Bx D cy ad A sz sl κ (0) (0) t) A) (0) (0) A := by
  refine CM_of (loc0 := [(0, .ref k0), (1, .ref k1)]) (own := RJ1) (nm := "equals") (by decide) rfl rfl rfl (Nat.le_of_ble_eq_true rfl) hAF hAn ?_
  intro p e s m below meth c ls hsz hsl C hP hS hl
  have kz0 : KZ κ.2.2.2.2 sa := KZ.mk9 C hP
  have ht0l : kn0 ≤ 100 := ht0.2
  have ht1l : kn1 ≤ 100 := ht1.2
  refine lv_aload_n C.x C.b dJ1_equals_b5fdf_0 rfl (lv_at hl 0 rfl) ?_
  refine ct_len C hP hS ht0.1 dJ1_equals_b5fdf_1 (fun x1 ex1 => ?_)
  have lx1 : kn0 ≤ 100 := ht0.2
  have tx1 : x1.toInt = ((kn0 : Nat) : Int) := by rw [ex1]; exact nI_toInt (n := kn0) (by omega)
  refine lv_aload_n C.x C.b dJ1_equals_b5fdf_2 rfl (lv_at hl 1 rfl) ?_
  refine ct_len C hP hS ht1.1 dJ1_equals_b5fdf_3 (fun x2 ex2 => ?_)
  have lx2 : kn1 ≤ 100 := ht1.2
  have tx2 : x2.toInt = ((kn1 : Nat) : Int) := by rw [ex2]; exact nI_toInt (n := kn1) (by omega)
  refine lv_icmp_ne (tgt := 34) C.x C.b dJ1_equals_b5fdf_4 (by decide) (fun c3 => ?_) (fun c3 => ?_)
  · have c3 : ¬ x1.toInt = x2.toInt := by have h := z_ne c3; exact h
    refine lv_iconst (v := 0) C.x C.b dJ1_equals_b5fdf_34 (by decide +kernel) ?_
    exact c_retz (ty := .boolean) (hv := rfl) C hsz hsl () ⟨(vJ1_equals_b5fdf_1  ), (vJ1_equals_b5fdf_2 sa κ k0 kn0 k1 kn1 x1 x2 ht0l ht1l ht0 ht1 hPV kz0 ex1 tx1 lx1 ex2 tx2 lx2 c3)⟩ hP hS ⟨(Nat.le_of_ble_eq_true rfl), (Nat.le_of_ble_eq_true rfl)⟩ ⟨(Nat.le_of_ble_eq_true rfl), (Nat.le_of_ble_eq_true rfl)⟩ dJ1_equals_b5fdf_35
  · have c3 : x1.toInt = x2.toInt := by have h := z_eq c3; exact h
    refine lv_iconst (v := 0) C.x C.b dJ1_equals_b5fdf_7 (by decide +kernel) ?_
    refine lv_istore_n (lv' := [(2, .int 0), (0, .ref k0), (1, .ref k1)]) C.x C.b dJ1_equals_b5fdf_8 rfl hl (by decide) rfl (fun ls hl => ?_)
    have lp9 : ∀ (n : Nat) (y4 : Int32) (H : Heap) (locs : List Loc) (ls : Array Slot), (kn0 - y4.toInt.toNat) < n → ((0 ≤ y4.toInt) ∧ (∀ s9 t9 : List Int, BTX κ.2.2.2.2 sa k0 s9 → BTX κ.2.2.2.2 sa k1 t9 → s9.length = t9.length ∧ ∀ k : Nat, (k : Int) < y4.toInt → s9.getD k 0 = t9.getD k 0)) → CH D cy ad A κ H → va_S A s.heap H locs → lv_has ls 3 [(2, .int y4), (0, .ref k0), (1, .ref k1)] → W p l e (headSpec (Cond.code yJ1_equals_b5fdf cJ1_equals_b5fdf 3 (some .boolean) :: GWc) ({ frames := 0, cells := 0, slots := 0, locals := 0 })).room s m #[.ref k0, .ref k1] below meth c H locs (0) (0) (MQ below (va_Qi (fun (r : Int32) (u : Unit) => ((0 ≤ r.toInt ∧ r.toInt ≤ 1)) ∧ (∀ s9 t9 : List Int, BTX κ.2.2.2.2 sa k0 s9 → BTX κ.2.2.2.2 sa k1 t9 → (r.toInt = 0 → ¬ s9 = t9) ∧ (¬ r.toInt = 0 → s9 = t9))) (fun (u : Unit) (t : State) => Bx D cy ad A sz sl κ (0) (0) t) A) #[.ref k0, .ref k1] s (0) (0) A) (F0 m 9 ls []) := by
      intro n
      induction n with
      | zero => intro y4 H locs ls hn; exact absurd hn (Nat.not_lt_zero _)
      | succ n9 ih9 =>
        intro y4 H locs ls hn9  hi9 hP hS hl
        obtain ⟨hi9, hi9y⟩ := hi9
        refine lv_iload_n C.x C.b dJ1_equals_b5fdf_9 rfl (lv_at hl 0 rfl) ?_
        refine lv_aload_n C.x C.b dJ1_equals_b5fdf_10 rfl (lv_at hl 1 rfl) ?_
        refine ct_len C hP hS ht0.1 dJ1_equals_b5fdf_11 (fun x5 ex5 => ?_)
        have lx5 : kn0 ≤ 100 := ht0.2
        have tx5 : x5.toInt = ((kn0 : Nat) : Int) := by rw [ex5]; exact nI_toInt (n := kn0) (by omega)
        refine lv_icmp_ge (tgt := 32) C.x C.b dJ1_equals_b5fdf_12 (by decide) (fun c6 => ?_) (fun c6 => ?_)
        · have c6 : x5.toInt ≤ y4.toInt := by have h := z_le c6; exact h
          refine lv_iconst (v := 1) C.x C.b dJ1_equals_b5fdf_32 (by decide +kernel) ?_
          exact c_retz (ty := .boolean) (hv := rfl) C hsz hsl () ⟨(vJ1_equals_b5fdf_5  ), (vJ1_equals_b5fdf_6 sa κ k0 kn0 k1 kn1 x1 x2 y4 x5 ht0l ht1l ht0 ht1 hPV kz0 ex1 tx1 lx1 ex2 tx2 lx2 c3 hi9 hi9y ex5 tx5 lx5 c6)⟩ hP hS ⟨(Nat.le_of_ble_eq_true rfl), (Nat.le_of_ble_eq_true rfl)⟩ ⟨(Nat.le_of_ble_eq_true rfl), (Nat.le_of_ble_eq_true rfl)⟩ dJ1_equals_b5fdf_33
        · have c6 : y4.toInt < x5.toInt := by have h := z_nle c6; exact h
          refine lv_aload_n C.x C.b dJ1_equals_b5fdf_15 rfl (lv_at hl 1 rfl) ?_
          refine lv_iload_n C.x C.b dJ1_equals_b5fdf_16 rfl (lv_at hl 0 rfl) ?_
          refine ct_ld C hP hS ht0.1 (vJ1_equals_b5fdf_7 kn0 kn1 x1 x2 y4 x5 ht0l ht1l ex1 tx1 lx1 ex2 tx2 lx2 c3 hi9 ex5 tx5 lx5 c6) dJ1_equals_b5fdf_17 (fun x7 ex7 bx7 => ?_)
          refine lv_aload_n C.x C.b dJ1_equals_b5fdf_18 rfl (lv_at hl 2 rfl) ?_
          refine lv_iload_n C.x C.b dJ1_equals_b5fdf_19 rfl (lv_at hl 0 rfl) ?_
          refine ct_ld C hP hS ht1.1 (vJ1_equals_b5fdf_8 kn0 kn1 x1 x2 y4 x5 ht0l ht1l ex1 tx1 lx1 ex2 tx2 lx2 c3 hi9 ex5 tx5 lx5 c6) dJ1_equals_b5fdf_20 (fun x8 ex8 bx8 => ?_)
          refine lv_icmp_eq (tgt := 26) C.x C.b dJ1_equals_b5fdf_21 (by decide) (fun c9 => ?_) (fun c9 => ?_)
          · have c9 : x7.toInt = x8.toInt := by have h := z_eq c9; exact h
            obtain ⟨x10, ex10⟩ : ∃ y : Int32, y = y4 + (1 : Int32) := ⟨_, rfl⟩
            have tx10 : x10.toInt = y4.toInt + 1 := (vJ1_equals_b5fdf_9 kn0 kn1 x1 x2 y4 x5 x10 ht0l ht1l ex1 tx1 lx1 ex2 tx2 lx2 c3 hi9 ex5 tx5 lx5 c6 ex10)
            refine lv_iinc (v := x10) (lv' := [(2, .int x10), (0, .ref k0), (1, .ref k1)]) C.x C.b dJ1_equals_b5fdf_26 hl (k := 0) rfl (by rw [ex10]; rfl) (by decide) rfl (fun ls hl => ?_)
            refine lv_goto (tgt := 9) C.x C.b dJ1_equals_b5fdf_29 (by decide) ?_
            refine W.widen (k := 0) (n := 0) (Nat.le_of_ble_eq_true rfl) (Nat.le_of_ble_eq_true rfl) ?_
            exact ih9 x10 _ _ _ (Nat.lt_of_lt_of_le (vJ1_equals_b5fdf_12 kn0 kn1 x1 x2 y4 x5 x10 ht0l ht1l ex1 tx1 lx1 ex2 tx2 lx2 c3 hi9 ex5 tx5 lx5 c6 ex10 tx10) (Nat.le_of_lt_succ hn9))  ⟨(vJ1_equals_b5fdf_10 kn0 kn1 x1 x2 y4 x5 x10 ht0l ht1l ex1 tx1 lx1 ex2 tx2 lx2 c3 hi9 ex5 tx5 lx5 c6 ex10 tx10), (vJ1_equals_b5fdf_11 sa κ k0 kn0 k1 kn1 x1 x2 y4 x5 x7 x8 x10 ht0l ht1l ht0 ht1 hPV kz0 ex1 tx1 lx1 ex2 tx2 lx2 c3 hi9 hi9y ex5 tx5 lx5 c6 ex7 bx7 ex8 bx8 c9 ex10 tx10)⟩ hP hS (lv_sub hl [0, 1, 2] rfl)
          · have c9 : ¬ x7.toInt = x8.toInt := by have h := z_ne c9; exact h
            refine lv_iconst (v := 0) C.x C.b dJ1_equals_b5fdf_24 (by decide +kernel) ?_
            exact c_retz (ty := .boolean) (hv := rfl) C hsz hsl () ⟨(vJ1_equals_b5fdf_1  ), (vJ1_equals_b5fdf_13 sa κ k0 kn0 k1 kn1 x1 x2 y4 x5 x7 x8 ht0l ht1l ht0 ht1 hPV kz0 ex1 tx1 lx1 ex2 tx2 lx2 c3 hi9 hi9y ex5 tx5 lx5 c6 ex7 bx7 ex8 bx8 c9)⟩ hP hS ⟨(Nat.le_of_ble_eq_true rfl), (Nat.le_of_ble_eq_true rfl)⟩ ⟨(Nat.le_of_ble_eq_true rfl), (Nat.le_of_ble_eq_true rfl)⟩ dJ1_equals_b5fdf_25
    refine W.widen (k := 0) (n := 0) (Nat.le_of_ble_eq_true rfl) (Nat.le_of_ble_eq_true rfl) ?_
    exact lp9 ((kn0 - (0 : Int32).toInt.toNat) + 1) (0 : Int32) _ _ _ (Nat.lt_succ_self _)  ⟨(vJ1_equals_b5fdf_3  ), (vJ1_equals_b5fdf_4 sa κ k0 kn0 k1 kn1 x1 x2 ht0l ht1l ht0 ht1 hPV kz0 ex1 tx1 lx1 ex2 tx2 lx2 c3)⟩ hP hS (lv_sub hl [0, 1, 2] rfl)

-- retz @55
theorem vJ0_equals_9ea2d_1   : 0 ≤ (0 : Int32).toInt ∧ (0 : Int32).toInt ≤ 1 := by
  have q0 : (0 : Int32).toInt = 0 := by decide +kernel
  refine ⟨?_, ?_⟩ <;> first | assumption | omega | (subst_vars; omega) | trivial
-- post2 @55
theorem vJ0_equals_9ea2d_2 (sa : Nat → Nat) (κ : KS) (k0 : Nat) (k1 : Nat) (r5 : Int32) (ht0 : SOK κ.2.2.2.2 sa k0) (ht1 : SOK κ.2.2.2.2 sa k1) (hPV : PV sa κ.2.2.2.2) (kz0 : KZ κ.2.2.2.2 sa) (c1 : ¬ some k0 = some k1) (hr5y : ∀ s9 t9 : List Int, BTX κ.2.2.2.2 sa (sVal κ.2.2.2.2 sa k0) s9 → BTX κ.2.2.2.2 sa (sVal κ.2.2.2.2 sa k1) t9 → (r5.toInt = 0 → ¬ s9 = t9) ∧ (¬ r5.toInt = 0 → s9 = t9)) (hr5_0 : 0 ≤ r5.toInt) (hr5_1 : r5.toInt ≤ 1) (c6 : r5.toInt = 0) : ∀ s9 t9 : List Int, TXq κ.2.2.2.2 sa k0 s9 → TXq κ.2.2.2.2 sa k1 t9 → ((0 : Int32).toInt = 0 → ¬ s9 = t9) ∧ (¬ (0 : Int32).toInt = 0 → s9 = t9) := by
  have q0 : (0 : Int32).toInt = 0 := by decide +kernel
  intro s9 t9 hs ht
  have z := hr5y s9 t9 (hs.b9 kz0) (ht.b9 kz0)
  exact ⟨fun h => z.1 (by omega), fun h => z.2 (by omega)⟩
-- retz @55
theorem vJ0_equals_9ea2d_3   : 0 ≤ (1 : Int32).toInt ∧ (1 : Int32).toInt ≤ 1 := by
  have q1 : (1 : Int32).toInt = 1 := by decide +kernel
  refine ⟨?_, ?_⟩ <;> first | assumption | omega | (subst_vars; omega) | trivial
-- post2 @55
theorem vJ0_equals_9ea2d_4 (sa : Nat → Nat) (κ : KS) (k0 : Nat) (k1 : Nat) (r5 : Int32) (ht0 : SOK κ.2.2.2.2 sa k0) (ht1 : SOK κ.2.2.2.2 sa k1) (hPV : PV sa κ.2.2.2.2) (kz0 : KZ κ.2.2.2.2 sa) (c1 : ¬ some k0 = some k1) (hr5y : ∀ s9 t9 : List Int, BTX κ.2.2.2.2 sa (sVal κ.2.2.2.2 sa k0) s9 → BTX κ.2.2.2.2 sa (sVal κ.2.2.2.2 sa k1) t9 → (r5.toInt = 0 → ¬ s9 = t9) ∧ (¬ r5.toInt = 0 → s9 = t9)) (hr5_0 : 0 ≤ r5.toInt) (hr5_1 : r5.toInt ≤ 1) (c6 : ¬ r5.toInt = 0) : ∀ s9 t9 : List Int, TXq κ.2.2.2.2 sa k0 s9 → TXq κ.2.2.2.2 sa k1 t9 → ((1 : Int32).toInt = 0 → ¬ s9 = t9) ∧ (¬ (1 : Int32).toInt = 0 → s9 = t9) := by
  have q1 : (1 : Int32).toInt = 1 := by decide +kernel
  intro s9 t9 hs ht
  have z := hr5y s9 t9 (hs.b9 kz0) (ht.b9 kz0)
  exact ⟨fun h => z.1 (by omega), fun h => z.2 (by omega)⟩
-- post2 @6
theorem vJ0_equals_9ea2d_5 (sa : Nat → Nat) (κ : KS) (k0 : Nat) (k1 : Nat) (ht0 : SOK κ.2.2.2.2 sa k0) (ht1 : SOK κ.2.2.2.2 sa k1) (hPV : PV sa κ.2.2.2.2) (kz0 : KZ κ.2.2.2.2 sa) (c1 : some k0 = some k1) : ∀ s9 t9 : List Int, TXq κ.2.2.2.2 sa k0 s9 → TXq κ.2.2.2.2 sa k1 t9 → ((1 : Int32).toInt = 0 → ¬ s9 = t9) ∧ (¬ (1 : Int32).toInt = 0 → s9 = t9) := by
  have q1 : (1 : Int32).toInt = 1 := by decide +kernel
  intro s9 t9 hs ht
  refine ⟨fun h => by exfalso; omega, fun _ => ?_⟩
  have e := Option.some.inj c1
  subst e
  exact TXq.fun9 kz0 hs ht
set_option maxHeartbeats 4000000 in
set_option maxRecDepth 100000 in
theorem NJ0_equals_9ea2d (l : Launch) (D : va_G) (cy : Nat → ClassId) (ad : Nat → Nat) (A : Nat → Prop) (sz0 : Nat) (sa : Nat → Nat)  (κ : KS) (sz sl : Nat) (hAF : ∀ q, A q → Fr sz0 q) (hAn : ∀ q : Nat, sz ≤ q → A q) (k0 : Nat) (k1 : Nat) (ht0 : SOK κ.2.2.2.2 sa k0) (ht1 : SOK κ.2.2.2.2 sa k1) (hPV : PV sa κ.2.2.2.2) : Met l yJ0_equals_9ea2d (Cond.code yJ0_equals_9ea2d cJ0_equals_9ea2d 3 (some .boolean) :: GWc) ({ frames := 1, cells := 0, slots := 0, locals := 22 }) (PcC D cy ad A sz0 sa [.ref k0, .ref k1] κ sz sl) (va_Qi (fun (r : Int32) (u : Unit) => ((0 ≤ r.toInt ∧ r.toInt ≤ 1)) ∧ (∀ s9 t9 : List Int, TXq κ.2.2.2.2 sa k0 s9 → TXq κ.2.2.2.2 sa k1 t9 → (r.toInt = 0 → ¬ s9 = t9) ∧ (¬ r.toInt = 0 → s9 = t9))) (fun (u : Unit) (t : State) => Bx D cy ad A sz sl κ (0) (0) t) A) (0) (0) A := by
  refine CM_of (loc0 := [(0, .ref k0), (1, .ref k1)]) (own := RJ0) (nm := "equals") (by decide) rfl rfl rfl (Nat.le_of_ble_eq_true rfl) hAF hAn ?_
  intro p e s m below meth c ls hsz hsl C hP hS hl
  have kz0 : KZ κ.2.2.2.2 sa := KZ.mk9 C hP
  refine lv_aload_n C.x C.b dJ0_equals_9ea2d_0 rfl (lv_at hl 0 rfl) ?_
  refine lv_aload_n C.x C.b dJ0_equals_9ea2d_1 rfl (lv_at hl 1 rfl) ?_
  refine lv_acmp_ne (rx := some k0) (ry := some k1) (tgt := 7) C.x C.b dJ0_equals_9ea2d_2 (by decide) (fun c1 => ?_) (fun c1 => ?_)
  · refine lv_aload_n C.x C.b dJ0_equals_9ea2d_7 rfl (lv_at hl 1 rfl) ?_
    refine va_instY C.x C.b C.o (C.w _ cw_72) C.t.2.2.2.1 (c_srecv C hP hS ht1) dJ0_equals_9ea2d_8 ?_
    refine lv_if_eq (tgt := 54) C.x C.b dJ0_equals_9ea2d_11 (by decide) (fun c2 => absurd c2 (by decide +kernel)) (fun _ => ?_)
    refine lv_aload_n C.x C.b dJ0_equals_9ea2d_14 rfl (lv_at hl 1 rfl) ?_
    refine va_castY C.x C.b C.o (C.w _ cw_72) C.t.2.2.2.1 (c_srecv C hP hS ht1) dJ0_equals_9ea2d_15 ?_
    refine lv_astore_n (lv' := [(2, .ref k1), (0, .ref k0), (1, .ref k1)]) C.x C.b dJ0_equals_9ea2d_18 rfl hl (by decide) rfl (fun ls hl => ?_)
    refine va_gets (C := "java/lang/String") (n := "COMPACT_STRINGS") (d := "Z") (A := A) (v := .int 1) C.x C.b (C.cs) hS C.o (C.w _ cw_73) (fun _ h9 => h9) dJ0_equals_9ea2d_19 ?_
    refine lv_if_eq (tgt := 36) C.x C.b dJ0_equals_9ea2d_22 (by decide) (fun c3 => absurd c3 (by decide +kernel)) (fun _ => ?_)
    refine lv_aload_n C.x C.b dJ0_equals_9ea2d_25 rfl (lv_at hl 1 rfl) ?_
    refine ct_coder C hP hS ht0 (fun e9 => (hPV.t7 e9).2) cw_74 dJ0_equals_9ea2d_26 ?_
    refine lv_aload_n C.x C.b dJ0_equals_9ea2d_29 rfl (lv_at hl 0 rfl) ?_
    refine ct_coder C hP hS ht1 (fun e9 => (hPV.t7 e9).2) cw_74 dJ0_equals_9ea2d_30 ?_
    refine lv_icmp_ne (tgt := 54) C.x C.b dJ0_equals_9ea2d_33 (by decide) (fun c4 => absurd (by decide +kernel) c4) (fun _ => ?_)
    refine lv_aload_n C.x C.b dJ0_equals_9ea2d_36 rfl (lv_at hl 1 rfl) ?_
    refine ct_val C hP hS ht0 (fun e9 => (hPV.t7 e9).1.imp (fun b z => z.1)) cw_75 dJ0_equals_9ea2d_37 ?_
    refine lv_aload_n C.x C.b dJ0_equals_9ea2d_40 rfl (lv_at hl 0 rfl) ?_
    refine ct_val C hP hS ht1 (fun e9 => (hPV.t7 e9).1.imp (fun b z => z.1)) cw_75 dJ0_equals_9ea2d_41 ?_
    refine c_callSi (C2 := "") (b := 0) (n := 2) (As := [.ref (sVal κ.2.2.2.2 sa k0), .ref (sVal κ.2.2.2.2 sa k1)]) (rest := []) C hP hS hl.1 (NJ1_equals_b5fdf l D cy ad A sz0 sa κ s.heap.size (SLT s.heap) C.f (fun q h => C.a q (Nat.le_trans hS.1 h)) (sVal κ.2.2.2.2 sa k0) (sLen κ.2.2.2.2 sa k0) (sVal κ.2.2.2.2 sa k1) (sLen κ.2.2.2.2 sa k1) ⟨(sok_bok hPV ht0), (sok_len C hPV ht0)⟩ ⟨(sok_bok hPV ht1), (sok_len C hPV ht1)⟩ hPV) ⟨cw_76, cw_79, by decide +kernel⟩ ⟨cw_77, cw_78⟩ rfl rfl (lv_room (Nat.le_of_ble_eq_true rfl)) ⟨Nat.le_of_ble_eq_true rfl, Nat.le_of_ble_eq_true rfl⟩ ⟨(Nat.le_of_ble_eq_true rfl), (Nat.le_of_ble_eq_true rfl)⟩ dJ0_equals_9ea2d_44 (fun r5 u H locs hr5 hP hS => ?_)
    obtain ⟨hr5, hr5y⟩ := hr5
    have hr5y : ∀ s9 t9 : List Int, BTX κ.2.2.2.2 sa (sVal κ.2.2.2.2 sa k0) s9 → BTX κ.2.2.2.2 sa (sVal κ.2.2.2.2 sa k1) t9 → (r5.toInt = 0 → ¬ s9 = t9) ∧ (¬ r5.toInt = 0 → s9 = t9) := hr5y
    have hr5 : (0 ≤ r5.toInt ∧ r5.toInt ≤ 1) := hr5
    obtain ⟨hr5_0, hr5_1⟩ := hr5
    refine lv_if_eq (tgt := 54) C.x C.b dJ0_equals_9ea2d_47 (by decide) (fun c6 => ?_) (fun c6 => ?_)
    · have c6 : r5.toInt = 0 := by have h := z_eq c6; rw [show (0 : Int32).toInt = 0 from by decide +kernel] at h; exact h
      refine lv_iconst (v := 0) C.x C.b dJ0_equals_9ea2d_54 (by decide +kernel) ?_
      exact c_retz (ty := .boolean) (hv := rfl) C hsz hsl () ⟨(vJ0_equals_9ea2d_1  ), (vJ0_equals_9ea2d_2 sa κ k0 k1 r5 ht0 ht1 hPV kz0 c1 hr5y hr5_0 hr5_1 c6)⟩ hP hS ⟨(Nat.le_of_ble_eq_true rfl), (Nat.le_of_ble_eq_true rfl)⟩ ⟨(Nat.le_of_ble_eq_true rfl), (Nat.le_of_ble_eq_true rfl)⟩ dJ0_equals_9ea2d_55
    · have c6 : ¬ r5.toInt = 0 := by have h := z_ne c6; rw [show (0 : Int32).toInt = 0 from by decide +kernel] at h; exact h
      refine lv_iconst (v := 1) C.x C.b dJ0_equals_9ea2d_50 (by decide +kernel) ?_
      refine lv_goto (tgt := 55) C.x C.b dJ0_equals_9ea2d_51 (by decide) ?_
      exact c_retz (ty := .boolean) (hv := rfl) C hsz hsl () ⟨(vJ0_equals_9ea2d_3  ), (vJ0_equals_9ea2d_4 sa κ k0 k1 r5 ht0 ht1 hPV kz0 c1 hr5y hr5_0 hr5_1 c6)⟩ hP hS ⟨(Nat.le_of_ble_eq_true rfl), (Nat.le_of_ble_eq_true rfl)⟩ ⟨(Nat.le_of_ble_eq_true rfl), (Nat.le_of_ble_eq_true rfl)⟩ dJ0_equals_9ea2d_55
  · refine lv_iconst (v := 1) C.x C.b dJ0_equals_9ea2d_5 (by decide +kernel) ?_
    exact c_retz (ty := .boolean) (hv := rfl) C hsz hsl () ⟨(vJ0_equals_9ea2d_3  ), (vJ0_equals_9ea2d_5 sa κ k0 k1 ht0 ht1 hPV kz0 c1)⟩ hP hS ⟨(Nat.le_of_ble_eq_true rfl), (Nat.le_of_ble_eq_true rfl)⟩ ⟨(Nat.le_of_ble_eq_true rfl), (Nat.le_of_ble_eq_true rfl)⟩ dJ0_equals_9ea2d_6
