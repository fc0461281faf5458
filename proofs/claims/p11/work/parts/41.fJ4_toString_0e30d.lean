-- dead@2 @5
theorem vJ7_checkLength_df160_1 (k0 : Int32) (k1 : Int32) (hpre : k0.toInt ≤ k1.toInt) (c1 : k1.toInt < k0.toInt) : False := by
  first | assumption | omega | (subst_vars; omega) | trivial
set_option maxHeartbeats 4000000 in
set_option maxRecDepth 100000 in
theorem NJ7_checkLength_df160 (l : Launch) (D : va_G) (cy : Nat → ClassId) (ad : Nat → Nat) (A : Nat → Prop) (sz0 : Nat) (sa : Nat → Nat)  (κ : KS) (sz sl : Nat) (hAF : ∀ q, A q → Fr sz0 q) (hAn : ∀ q : Nat, sz ≤ q → A q) (k0 : Int32) (k1 : Int32) (hPV : PV sa κ.2.2.2.2) (hpre : k0.toInt ≤ k1.toInt) : Met l yJ7_checkLength_df160 (Cond.code yJ7_checkLength_df160 cJ7_checkLength_df160 2 none :: GWc) ({ frames := 0, cells := 0, slots := 0, locals := 0 }) (PcC D cy ad A sz0 sa [.int k0, .int k1] κ sz sl) (va_Qv (fun (u : Unit) => True) (fun (u : Unit) (t : State) => Bx D cy ad A sz sl κ (0) (0) t) A) (0) (0) A := by
  refine CM_of (loc0 := [(0, .int k0), (1, .int k1)]) (own := RJ7) (nm := "checkLength") (by decide) rfl rfl rfl (Nat.le_of_ble_eq_true rfl) hAF hAn ?_
  intro p e s m below meth c ls hsz hsl C hP hS hl
  refine lv_iload_n C.x C.b dJ7_checkLength_df160_0 rfl (lv_at hl 1 rfl) ?_
  refine lv_iload_n C.x C.b dJ7_checkLength_df160_1 rfl (lv_at hl 0 rfl) ?_
  refine lv_icmp_ge (tgt := 37) C.x C.b dJ7_checkLength_df160_2 (by decide) (fun c1 => ?_) (fun c1 => ?_)
  · have c1 : k0.toInt ≤ k1.toInt := by have h := z_le c1; exact h
    exact c_retv C hsz hsl () trivial hP hS ⟨(Nat.le_of_ble_eq_true rfl), (Nat.le_of_ble_eq_true rfl)⟩ ⟨(Nat.le_of_ble_eq_true rfl), (Nat.le_of_ble_eq_true rfl)⟩ dJ7_checkLength_df160_37
  · have c1 : k1.toInt < k0.toInt := by have h := z_nle c1; exact h
    exact absurd (vJ7_checkLength_df160_1 k0 k1 hpre c1) id

-- pre:J7_checkLength_df160@2 @2
theorem vJ7_copyOfRangeByte_39247_1 (κ : KS) (k0 : Nat) (k2 : Int32) (hpre_1 : 0 ≤ k2.toInt) (hpre_2 : k2.toInt ≤ ((oL κ.2.2.2.2 k0 : Nat) : Int)) (hl8_0 : oL κ.2.2.2.2 k0 ≤ 100) : (0 : Int32).toInt ≤ k2.toInt := by
  have q0 : (0 : Int32).toInt = 0 := by decide +kernel
  first | assumption | omega | (subst_vars; omega) | trivial
-- room @2
theorem vJ7_copyOfRangeByte_39247_2 (κ : KS) (k0 : Nat) (k2 : Int32) (hpre_1 : 0 ≤ k2.toInt) (hpre_2 : k2.toInt ≤ ((oL κ.2.2.2.2 k0 : Nat) : Int)) (hl8_0 : oL κ.2.2.2.2 k0 ≤ 100) : 0 + 0 ≤ k2.toInt.toNat := by
  first | assumption | omega | (subst_vars; omega) | trivial
-- nw@7 @7
theorem vJ7_copyOfRangeByte_39247_3 (κ : KS) (k0 : Nat) (k2 : Int32) (x2 : Int32) (hpre_1 : 0 ≤ k2.toInt) (hpre_2 : k2.toInt ≤ ((oL κ.2.2.2.2 k0 : Nat) : Int)) (hl8_0 : oL κ.2.2.2.2 k0 ≤ 100) (ex2 : x2 = k2 - (0 : Int32)) : x2.toInt = k2.toInt - 0 := by
  have q0 : (0 : Int32).toInt = 0 := by decide +kernel
  have w1 : (0 : Int32).toInt = 0 := by decide +kernel
  rw [ex2, z_sub (by omega) (by omega)]; first | done | omega
-- nb@10 @10
theorem vJ7_copyOfRangeByte_39247_4 (κ : KS) (k0 : Nat) (k2 : Int32) (x2 : Int32) (hpre_1 : 0 ≤ k2.toInt) (hpre_2 : k2.toInt ≤ ((oL κ.2.2.2.2 k0 : Nat) : Int)) (hl8_0 : oL κ.2.2.2.2 k0 ≤ 100) (ex2 : x2 = k2 - (0 : Int32)) (tx2 : x2.toInt = k2.toInt - 0) : x2.toInt = ((x2.toInt.toNat : Nat) : Int) := by
  have q0 : (0 : Int32).toInt = 0 := by decide +kernel
  first | assumption | omega | (subst_vars; omega) | trivial
-- nbl@10 @10
theorem vJ7_copyOfRangeByte_39247_5 (κ : KS) (k0 : Nat) (k2 : Int32) (x2 : Int32) (hpre_1 : 0 ≤ k2.toInt) (hpre_2 : k2.toInt ≤ ((oL κ.2.2.2.2 k0 : Nat) : Int)) (hl8_0 : oL κ.2.2.2.2 k0 ≤ 100) (ex2 : x2 = k2 - (0 : Int32)) (tx2 : x2.toInt = k2.toInt - 0) : x2.toInt.toNat ≤ 100 := by
  have q0 : (0 : Int32).toInt = 0 := by decide +kernel
  first | assumption | omega | (subst_vars; omega) | trivial
-- room @10
theorem vJ7_copyOfRangeByte_39247_6 (κ : KS) (k0 : Nat) (k2 : Int32) (x2 : Int32) (hpre_1 : 0 ≤ k2.toInt) (hpre_2 : k2.toInt ≤ ((oL κ.2.2.2.2 k0 : Nat) : Int)) (hl8_0 : oL κ.2.2.2.2 k0 ≤ 100) (ex2 : x2 = k2 - (0 : Int32)) (tx2 : x2.toInt = k2.toInt - 0) : 0 + 0 + x2.toInt.toNat ≤ k2.toInt.toNat := by
  have q0 : (0 : Int32).toInt = 0 := by decide +kernel
  first | assumption | omega | (subst_vars; omega) | trivial
-- nw@22 @22
theorem vJ7_copyOfRangeByte_39247_7 (κ : KS) (k0 : Nat) (k2 : Int32) (x2 : Int32) (q3 : Nat) (x6 : Int32) (x7 : Int32) (hpre_1 : 0 ≤ k2.toInt) (hpre_2 : k2.toInt ≤ ((oL κ.2.2.2.2 k0 : Nat) : Int)) (hl8_0 : oL κ.2.2.2.2 k0 ≤ 100) (ex2 : x2 = k2 - (0 : Int32)) (tx2 : x2.toInt = k2.toInt - 0) (kl5 : oL (newB κ.2.2.2.2 q3 (x2.toInt.toNat) (fun _ => 0)) k0 = oL κ.2.2.2.2 k0) (hlq3 : oL (newB κ.2.2.2.2 q3 (x2.toInt.toNat) (fun _ => 0)) q3 = x2.toInt.toNat) (ex6 : x6 = Int32.ofNat (oL (newB κ.2.2.2.2 q3 (x2.toInt.toNat) (fun _ => 0)) k0)) (tx6 : x6.toInt = ((oL (newB κ.2.2.2.2 q3 (x2.toInt.toNat) (fun _ => 0)) k0 : Nat) : Int)) (lx6 : oL (newB κ.2.2.2.2 q3 (x2.toInt.toNat) (fun _ => 0)) k0 ≤ 100) (ex7 : x7 = x6 - (0 : Int32)) : x7.toInt = x6.toInt - 0 := by
  have q0 : (0 : Int32).toInt = 0 := by decide +kernel
  have w1 : (0 : Int32).toInt = 0 := by decide +kernel
  rw [ex7, z_sub (by omega) (by omega)]; first | done | omega
-- room @24
theorem vJ7_copyOfRangeByte_39247_8 (κ : KS) (k0 : Nat) (k2 : Int32) (x2 : Int32) (q3 : Nat) (x6 : Int32) (x7 : Int32) (hpre_1 : 0 ≤ k2.toInt) (hpre_2 : k2.toInt ≤ ((oL κ.2.2.2.2 k0 : Nat) : Int)) (hl8_0 : oL κ.2.2.2.2 k0 ≤ 100) (ex2 : x2 = k2 - (0 : Int32)) (tx2 : x2.toInt = k2.toInt - 0) (kl5 : oL (newB κ.2.2.2.2 q3 (x2.toInt.toNat) (fun _ => 0)) k0 = oL κ.2.2.2.2 k0) (hlq3 : oL (newB κ.2.2.2.2 q3 (x2.toInt.toNat) (fun _ => 0)) q3 = x2.toInt.toNat) (ex6 : x6 = Int32.ofNat (oL (newB κ.2.2.2.2 q3 (x2.toInt.toNat) (fun _ => 0)) k0)) (tx6 : x6.toInt = ((oL (newB κ.2.2.2.2 q3 (x2.toInt.toNat) (fun _ => 0)) k0 : Nat) : Int)) (lx6 : oL (newB κ.2.2.2.2 q3 (x2.toInt.toNat) (fun _ => 0)) k0 ≤ 100) (ex7 : x7 = x6 - (0 : Int32)) (tx7 : x7.toInt = x6.toInt - 0) : 0 + 0 + x2.toInt.toNat ≤ k2.toInt.toNat := by
  have q0 : (0 : Int32).toInt = 0 := by decide +kernel
  first | assumption | omega | (subst_vars; omega) | trivial
-- cpy1 @27
theorem vJ7_copyOfRangeByte_39247_9 (κ : KS) (k0 : Nat) (k2 : Int32) (x2 : Int32) (q3 : Nat) (x6 : Int32) (x7 : Int32) (x8 : Int32) (hpre_1 : 0 ≤ k2.toInt) (hpre_2 : k2.toInt ≤ ((oL κ.2.2.2.2 k0 : Nat) : Int)) (hl8_0 : oL κ.2.2.2.2 k0 ≤ 100) (ex2 : x2 = k2 - (0 : Int32)) (tx2 : x2.toInt = k2.toInt - 0) (kl5 : oL (newB κ.2.2.2.2 q3 (x2.toInt.toNat) (fun _ => 0)) k0 = oL κ.2.2.2.2 k0) (hlq3 : oL (newB κ.2.2.2.2 q3 (x2.toInt.toNat) (fun _ => 0)) q3 = x2.toInt.toNat) (ex6 : x6 = Int32.ofNat (oL (newB κ.2.2.2.2 q3 (x2.toInt.toNat) (fun _ => 0)) k0)) (tx6 : x6.toInt = ((oL (newB κ.2.2.2.2 q3 (x2.toInt.toNat) (fun _ => 0)) k0 : Nat) : Int)) (lx6 : oL (newB κ.2.2.2.2 q3 (x2.toInt.toNat) (fun _ => 0)) k0 ≤ 100) (ex7 : x7 = x6 - (0 : Int32)) (tx7 : x7.toInt = x6.toInt - 0) (hx8 : x8.toInt = min x7.toInt x2.toInt) : (0 : Int32).toInt + x8.toInt ≤ (((oL (newB κ.2.2.2.2 q3 (x2.toInt.toNat) (fun _ => 0)) k0) : Nat) : Int) := by
  have q0 : (0 : Int32).toInt = 0 := by decide +kernel
  first | assumption | omega | (subst_vars; omega) | trivial
-- cpy2 @27
theorem vJ7_copyOfRangeByte_39247_10 (sa : Nat → Nat) (κ : KS) (k0 : Nat) (k2 : Int32) (x2 : Int32) (q3 : Nat) (x6 : Int32) (x7 : Int32) (x8 : Int32) (ht0 : oT κ.2.2.2.2 k0 = 8) (hPV : PV sa κ.2.2.2.2) (hpre_1 : 0 ≤ k2.toInt) (hpre_2 : k2.toInt ≤ ((oL κ.2.2.2.2 k0 : Nat) : Int)) (hl8_0 : oL κ.2.2.2.2 k0 ≤ 100) (ex2 : x2 = k2 - (0 : Int32)) (tx2 : x2.toInt = k2.toInt - 0) (kl5 : oL (newB κ.2.2.2.2 q3 (x2.toInt.toNat) (fun _ => 0)) k0 = oL κ.2.2.2.2 k0) (exz4 : EX κ.2.2.2.2 (newB κ.2.2.2.2 q3 (x2.toInt.toNat) (fun _ => 0))) (h0q3 : oT κ.2.2.2.2 q3 = 0) (nsq3 : NS (newB κ.2.2.2.2 q3 (x2.toInt.toNat) (fun _ => 0)) q3) (hlq3 : oL (newB κ.2.2.2.2 q3 (x2.toInt.toNat) (fun _ => 0)) q3 = x2.toInt.toNat) (ex6 : x6 = Int32.ofNat (oL (newB κ.2.2.2.2 q3 (x2.toInt.toNat) (fun _ => 0)) k0)) (tx6 : x6.toInt = ((oL (newB κ.2.2.2.2 q3 (x2.toInt.toNat) (fun _ => 0)) k0 : Nat) : Int)) (lx6 : oL (newB κ.2.2.2.2 q3 (x2.toInt.toNat) (fun _ => 0)) k0 ≤ 100) (ex7 : x7 = x6 - (0 : Int32)) (tx7 : x7.toInt = x6.toInt - 0) (hx8 : x8.toInt = min x7.toInt x2.toInt) : (0 : Int32).toInt + x8.toInt ≤ (((oL (newB κ.2.2.2.2 q3 (x2.toInt.toNat) (fun _ => 0)) q3) : Nat) : Int) := by
  have q0 : (0 : Int32).toInt = 0 := by decide +kernel
  first | assumption | omega | (subst_vars; omega) | trivial
-- cp0 @27
theorem vJ7_copyOfRangeByte_39247_11   : 0 ≤ (0 : Int32).toInt := by
  have q0 : (0 : Int32).toInt = 0 := by decide +kernel
  first | assumption | omega | (subst_vars; omega) | trivial
-- cp0 @27
theorem vJ7_copyOfRangeByte_39247_12 (κ : KS) (k0 : Nat) (k2 : Int32) (x2 : Int32) (q3 : Nat) (x6 : Int32) (x7 : Int32) (x8 : Int32) (hpre_1 : 0 ≤ k2.toInt) (hpre_2 : k2.toInt ≤ ((oL κ.2.2.2.2 k0 : Nat) : Int)) (hl8_0 : oL κ.2.2.2.2 k0 ≤ 100) (ex2 : x2 = k2 - (0 : Int32)) (tx2 : x2.toInt = k2.toInt - 0) (kl5 : oL (newB κ.2.2.2.2 q3 (x2.toInt.toNat) (fun _ => 0)) k0 = oL κ.2.2.2.2 k0) (hlq3 : oL (newB κ.2.2.2.2 q3 (x2.toInt.toNat) (fun _ => 0)) q3 = x2.toInt.toNat) (ex6 : x6 = Int32.ofNat (oL (newB κ.2.2.2.2 q3 (x2.toInt.toNat) (fun _ => 0)) k0)) (tx6 : x6.toInt = ((oL (newB κ.2.2.2.2 q3 (x2.toInt.toNat) (fun _ => 0)) k0 : Nat) : Int)) (lx6 : oL (newB κ.2.2.2.2 q3 (x2.toInt.toNat) (fun _ => 0)) k0 ≤ 100) (ex7 : x7 = x6 - (0 : Int32)) (tx7 : x7.toInt = x6.toInt - 0) (hx8 : x8.toInt = min x7.toInt x2.toInt) : 0 ≤ x8.toInt := by
  have q0 : (0 : Int32).toInt = 0 := by decide +kernel
  first | assumption | omega | (subst_vars; omega) | trivial
-- post @32
theorem vJ7_copyOfRangeByte_39247_13 (κ : KS) (k0 : Nat) (k2 : Int32) (x2 : Int32) (q3 : Nat) (x6 : Int32) (x7 : Int32) (x8 : Int32) (hpre_1 : 0 ≤ k2.toInt) (hpre_2 : k2.toInt ≤ ((oL κ.2.2.2.2 k0 : Nat) : Int)) (hl8_0 : oL κ.2.2.2.2 k0 ≤ 100) (ex2 : x2 = k2 - (0 : Int32)) (tx2 : x2.toInt = k2.toInt - 0) (kl5 : oL (newB κ.2.2.2.2 q3 (x2.toInt.toNat) (fun _ => 0)) k0 = oL κ.2.2.2.2 k0) (hlq3 : oL (newB κ.2.2.2.2 q3 (x2.toInt.toNat) (fun _ => 0)) q3 = x2.toInt.toNat) (ex6 : x6 = Int32.ofNat (oL (newB κ.2.2.2.2 q3 (x2.toInt.toNat) (fun _ => 0)) k0)) (tx6 : x6.toInt = ((oL (newB κ.2.2.2.2 q3 (x2.toInt.toNat) (fun _ => 0)) k0 : Nat) : Int)) (lx6 : oL (newB κ.2.2.2.2 q3 (x2.toInt.toNat) (fun _ => 0)) k0 ≤ 100) (ex7 : x7 = x6 - (0 : Int32)) (tx7 : x7.toInt = x6.toInt - 0) (hx8 : x8.toInt = min x7.toInt x2.toInt) : ((oL (newB κ.2.2.2.2 q3 (x2.toInt.toNat) (fun _ => 0)) q3 : Nat) : Int) = k2.toInt := by
  have q0 : (0 : Int32).toInt = 0 := by decide +kernel
  first | assumption | omega | (subst_vars; omega) | trivial
-- post2 @32
theorem vJ7_copyOfRangeByte_39247_14 (sa : Nat → Nat) (κ : KS) (k0 : Nat) (k2 : Int32) (x2 : Int32) (q3 : Nat) (x6 : Int32) (x7 : Int32) (x8 : Int32) (F9 : Nat → Int32) (ht0 : oT κ.2.2.2.2 k0 = 8) (hPV : PV sa κ.2.2.2.2) (hpre_1 : 0 ≤ k2.toInt) (hpre_2 : k2.toInt ≤ ((oL κ.2.2.2.2 k0 : Nat) : Int)) (hl8_0 : oL κ.2.2.2.2 k0 ≤ 100) (ex2 : x2 = k2 - (0 : Int32)) (tx2 : x2.toInt = k2.toInt - 0) (kl5 : oL (newB κ.2.2.2.2 q3 (x2.toInt.toNat) (fun _ => 0)) k0 = oL κ.2.2.2.2 k0) (exz4 : EX κ.2.2.2.2 (newB κ.2.2.2.2 q3 (x2.toInt.toNat) (fun _ => 0))) (h0q3 : oT κ.2.2.2.2 q3 = 0) (nsq3 : NS (newB κ.2.2.2.2 q3 (x2.toInt.toNat) (fun _ => 0)) q3) (hlq3 : oL (newB κ.2.2.2.2 q3 (x2.toInt.toNat) (fun _ => 0)) q3 = x2.toInt.toNat) (ex6 : x6 = Int32.ofNat (oL (newB κ.2.2.2.2 q3 (x2.toInt.toNat) (fun _ => 0)) k0)) (tx6 : x6.toInt = ((oL (newB κ.2.2.2.2 q3 (x2.toInt.toNat) (fun _ => 0)) k0 : Nat) : Int)) (lx6 : oL (newB κ.2.2.2.2 q3 (x2.toInt.toNat) (fun _ => 0)) k0 ≤ 100) (ex7 : x7 = x6 - (0 : Int32)) (tx7 : x7.toInt = x6.toInt - 0) (hx8 : x8.toInt = min x7.toInt x2.toInt) (hcF9 : BCP (newB κ.2.2.2.2 q3 (x2.toInt.toNat) (fun _ => 0)) sa k0 q3 0 0 x8.toNatClampNeg F9) (exz10 : EX (newB κ.2.2.2.2 q3 (x2.toInt.toNat) (fun _ => 0)) (sB (newB κ.2.2.2.2 q3 (x2.toInt.toNat) (fun _ => 0)) q3 F9)) : (∀ j : Nat, (j : Int) < k2.toInt → oB (sB (newB κ.2.2.2.2 q3 (x2.toInt.toNat) (fun _ => 0)) q3 F9) q3 j = oB κ.2.2.2.2 k0 j) ∧ NB (sB (newB κ.2.2.2.2 q3 (x2.toInt.toNat) (fun _ => 0)) q3 F9) q3 := by
  have q0 : (0 : Int32).toInt = 0 := by decide +kernel
  have ne : ¬ k0 = q3 := fun e => by rw [e, h0q3] at ht0; exact absurd ht0 (by decide)
  refine ⟨fun j hj => ?_, fun x hx e => NB.newB9 (n := 0) (f := fun _ => 0) hPV h0q3 x hx e⟩
  rw [show oB (sB _ q3 F9) q3 = F9 from vu_eq]
  have z := (hcF9 j).1 ⟨Nat.zero_le _, by rw [clampN]; omega⟩
  have e := z.1 (by rw [newB_T, if_neg ne, ht0])
  rw [e, show 0 + (j - 0) = j by omega]
  rw [(SM.newB ne).2.2.2.2.2.2.2]
-- grow @32
theorem vJ7_copyOfRangeByte_39247_15 (κ : KS) (k0 : Nat) (k2 : Int32) (x2 : Int32) (q3 : Nat) (x6 : Int32) (x7 : Int32) (x8 : Int32) (hpre_1 : 0 ≤ k2.toInt) (hpre_2 : k2.toInt ≤ ((oL κ.2.2.2.2 k0 : Nat) : Int)) (hl8_0 : oL κ.2.2.2.2 k0 ≤ 100) (ex2 : x2 = k2 - (0 : Int32)) (tx2 : x2.toInt = k2.toInt - 0) (kl5 : oL (newB κ.2.2.2.2 q3 (x2.toInt.toNat) (fun _ => 0)) k0 = oL κ.2.2.2.2 k0) (hlq3 : oL (newB κ.2.2.2.2 q3 (x2.toInt.toNat) (fun _ => 0)) q3 = x2.toInt.toNat) (ex6 : x6 = Int32.ofNat (oL (newB κ.2.2.2.2 q3 (x2.toInt.toNat) (fun _ => 0)) k0)) (tx6 : x6.toInt = ((oL (newB κ.2.2.2.2 q3 (x2.toInt.toNat) (fun _ => 0)) k0 : Nat) : Int)) (lx6 : oL (newB κ.2.2.2.2 q3 (x2.toInt.toNat) (fun _ => 0)) k0 ≤ 100) (ex7 : x7 = x6 - (0 : Int32)) (tx7 : x7.toInt = x6.toInt - 0) (hx8 : x8.toInt = min x7.toInt x2.toInt) : 0 + 0 + x2.toInt.toNat ≤ k2.toInt.toNat := by
  have q0 : (0 : Int32).toInt = 0 := by decide +kernel
  first | assumption | omega | (subst_vars; omega) | trivial
-- growm @32
theorem vJ7_copyOfRangeByte_39247_16 (κ : KS) (k0 : Nat) (k2 : Int32) (x2 : Int32) (q3 : Nat) (x6 : Int32) (x7 : Int32) (x8 : Int32) (hpre_1 : 0 ≤ k2.toInt) (hpre_2 : k2.toInt ≤ ((oL κ.2.2.2.2 k0 : Nat) : Int)) (hl8_0 : oL κ.2.2.2.2 k0 ≤ 100) (ex2 : x2 = k2 - (0 : Int32)) (tx2 : x2.toInt = k2.toInt - 0) (kl5 : oL (newB κ.2.2.2.2 q3 (x2.toInt.toNat) (fun _ => 0)) k0 = oL κ.2.2.2.2 k0) (hlq3 : oL (newB κ.2.2.2.2 q3 (x2.toInt.toNat) (fun _ => 0)) q3 = x2.toInt.toNat) (ex6 : x6 = Int32.ofNat (oL (newB κ.2.2.2.2 q3 (x2.toInt.toNat) (fun _ => 0)) k0)) (tx6 : x6.toInt = ((oL (newB κ.2.2.2.2 q3 (x2.toInt.toNat) (fun _ => 0)) k0 : Nat) : Int)) (lx6 : oL (newB κ.2.2.2.2 q3 (x2.toInt.toNat) (fun _ => 0)) k0 ≤ 100) (ex7 : x7 = x6 - (0 : Int32)) (tx7 : x7.toInt = x6.toInt - 0) (hx8 : x8.toInt = min x7.toInt x2.toInt) : k2.toInt.toNat ≤ k2.toInt.toNat := by
  have q0 : (0 : Int32).toInt = 0 := by decide +kernel
  first | assumption | omega | (subst_vars; omega) | trivial
set_option maxHeartbeats 4000000 in
set_option maxRecDepth 100000 in
theorem NJ7_copyOfRangeByte_39247 (l : Launch) (D : va_G) (cy : Nat → ClassId) (ad : Nat → Nat) (A : Nat → Prop) (sz0 : Nat) (sa : Nat → Nat)  (κ : KS) (sz sl : Nat) (hAF : ∀ q, A q → Fr sz0 q) (hAn : ∀ q : Nat, sz ≤ q → A q) (k0 : Nat) (k1 : Int32) (k2 : Int32) (ht0 : oT κ.2.2.2.2 k0 = 8) (hPV : PV sa κ.2.2.2.2) (hpre : k1.toInt = 0 ∧ 0 ≤ k2.toInt ∧ k2.toInt ≤ ((oL κ.2.2.2.2 k0 : Nat) : Int)) : Met l yJ7_copyOfRangeByte_39247 (Cond.code yJ7_copyOfRangeByte_39247 cJ7_copyOfRangeByte_39247 5 (some (.array .byte)) :: GWc) ({ frames := 1, cells := 1, slots := k2.toInt.toNat, locals := 40 }) (PcC D cy ad A sz0 sa [.ref k0, .int k1, .int k2] κ sz sl) (va_Qq (fun (r : Option Nat) (u : PL) => ((EX κ.2.2.2.2 u) ∧ (PV sa u) ∧ (KPx True κ.2.2.2.2 u) ∧ (NN u 8 r) ∧ (((oL u ((r).getD 0) : Nat) : Int) = k2.toInt)) ∧ ((∀ j : Nat, (j : Int) < k2.toInt → oB u (r.getD 0) j = oB κ.2.2.2.2 k0 j) ∧ NB u (r.getD 0))) (fun (u : PL) (t : State) => Bx D cy ad A sz sl (tP κ u) (1) (k2.toInt.toNat) t) A) (1) (k2.toInt.toNat) A := by
  refine CM_of (loc0 := [(0, .ref k0), (1, .int k1), (2, .int k2)]) (own := RJ7) (nm := "copyOfRangeByte") (by decide) rfl rfl rfl (Nat.le_of_ble_eq_true rfl) hAF hAn ?_
  intro p e s m below meth c ls hsz hsl C hP hS hl
  obtain ⟨hpre_0, hpre_1, hpre_2⟩ := hpre
  have e9 : k1 = 0 := Int32.toInt_inj.mp (hpre_0.trans (by decide +kernel))
  subst e9
  have hl8_0 : oL κ.2.2.2.2 k0 ≤ 100 := (hPV.t8 ht0).1
  refine lv_iload_n C.x C.b dJ7_copyOfRangeByte_39247_0 rfl (lv_at hl 1 rfl) ?_
  refine lv_iload_n C.x C.b dJ7_copyOfRangeByte_39247_1 rfl (lv_at hl 2 rfl) ?_
  refine c_callSv (C2 := "") (b := 0) (n := 2) (As := [.int 0, .int k2]) (rest := []) C hP hS hl.1 (NJ7_checkLength_df160 l D cy ad A sz0 sa κ s.heap.size (SLT s.heap) C.f (fun q h => C.a q (Nat.le_trans hS.1 h)) (0 : Int32) k2 hPV (vJ7_copyOfRangeByte_39247_1 κ k0 k2 hpre_1 hpre_2 hl8_0)) ⟨cw_324, cw_326, by decide +kernel⟩ ⟨cw_325, cw_184⟩ rfl rfl (lv_room (Nat.le_of_ble_eq_true rfl)) ⟨Nat.le_of_ble_eq_true rfl, Nat.le_of_ble_eq_true rfl⟩ ⟨(Nat.le_of_ble_eq_true rfl), (vJ7_copyOfRangeByte_39247_2 κ k0 k2 hpre_1 hpre_2 hl8_0)⟩ dJ7_copyOfRangeByte_39247_2 (fun u H locs hr1 hP hS => ?_)
  have hr1 : True := hr1
  refine lv_iload_n C.x C.b dJ7_copyOfRangeByte_39247_5 rfl (lv_at hl 2 rfl) ?_
  refine lv_iload_n C.x C.b dJ7_copyOfRangeByte_39247_6 rfl (lv_at hl 1 rfl) ?_
  refine lv_isub C.x C.b dJ7_copyOfRangeByte_39247_7 ?_
  refine lv_topi (fun x2 ex2 => ?_)
  have tx2 : x2.toInt = k2.toInt - 0 := (vJ7_copyOfRangeByte_39247_3 κ k0 k2 x2 hpre_1 hpre_2 hl8_0 ex2)
  refine lv_istore_n (lv' := [(3, .int x2), (0, .ref k0), (1, .int 0), (2, .int k2)]) C.x C.b dJ7_copyOfRangeByte_39247_8 rfl hl (by decide) rfl (fun ls hl => ?_)
  refine lv_iload_n C.x C.b dJ7_copyOfRangeByte_39247_9 rfl (lv_at hl 0 rfl) ?_
  refine cn_b C hP hS (vJ7_copyOfRangeByte_39247_4 κ k0 k2 x2 hpre_1 hpre_2 hl8_0 ex2 tx2) (Nat.le_trans (vJ7_copyOfRangeByte_39247_5 κ k0 k2 x2 hpre_1 hpre_2 hl8_0 ex2 tx2) (by decide)) cw_19 ⟨(Nat.le_of_ble_eq_true rfl), (vJ7_copyOfRangeByte_39247_6 κ k0 k2 x2 hpre_1 hpre_2 hl8_0 ex2 tx2)⟩ dJ7_copyOfRangeByte_39247_10 (fun q3 H h0q3 hP hS => ?_)
  have exz4 : EX κ.2.2.2.2 (newB κ.2.2.2.2 q3 (x2.toInt.toNat) (fun _ => 0)) := (EX.newB h0q3)
  have kl5 : oL (newB κ.2.2.2.2 q3 (x2.toInt.toNat) (fun _ => 0)) k0 = oL κ.2.2.2.2 k0 := exz4.L ht0 (by decide)
  have kpz4 : KPx True κ.2.2.2.2 (newB κ.2.2.2.2 q3 (x2.toInt.toNat) (fun _ => 0)) := KPx.rf.newB9 hPV h0q3
  have nsq3 : NS (newB κ.2.2.2.2 q3 (x2.toInt.toNat) (fun _ => 0)) q3 := NS.newB9 hPV h0q3
  have pvz4 : PV sa (newB κ.2.2.2.2 q3 (x2.toInt.toNat) (fun _ => 0)) := (hPV.byt h0q3 (vJ7_copyOfRangeByte_39247_5 κ k0 k2 x2 hpre_1 hpre_2 hl8_0 ex2 tx2) B8.zero)
  have hlq3 : oL (newB κ.2.2.2.2 q3 (x2.toInt.toNat) (fun _ => 0)) q3 = x2.toInt.toNat := vu_eq
  refine lv_astore (lv' := [(4, .ref q3), (3, .int x2), (0, .ref k0), (1, .int 0), (2, .int k2)]) C.x C.b dJ7_copyOfRangeByte_39247_12 hl (by decide) rfl (fun ls hl => ?_)
  refine lv_aload_n C.x C.b dJ7_copyOfRangeByte_39247_14 rfl (lv_at hl 2 rfl) ?_
  refine lv_iload_n C.x C.b dJ7_copyOfRangeByte_39247_15 rfl (lv_at hl 3 rfl) ?_
  refine lv_aload C.x C.b dJ7_copyOfRangeByte_39247_16 (lv_at hl 0 rfl) ?_
  refine lv_iconst (v := 0) C.x C.b dJ7_copyOfRangeByte_39247_18 (by decide +kernel) ?_
  refine lv_aload_n C.x C.b dJ7_copyOfRangeByte_39247_19 rfl (lv_at hl 2 rfl) ?_
  refine pl_8 C hP (t20 (a := k0) (t := 8) (exz4.T ht0 (by decide))) rfl dJ7_copyOfRangeByte_39247_20 (fun x6 ex6 => ?_)
  have lx6 : oL (newB κ.2.2.2.2 q3 (x2.toInt.toNat) (fun _ => 0)) k0 ≤ 100 := (pvz4.t8 (exz4.T ht0 (by decide))).1
  have tx6 : x6.toInt = ((oL (newB κ.2.2.2.2 q3 (x2.toInt.toNat) (fun _ => 0)) k0 : Nat) : Int) := by rw [ex6]; exact nI_toInt (n := oL (newB κ.2.2.2.2 q3 (x2.toInt.toNat) (fun _ => 0)) k0) (by omega)
  refine lv_iload_n C.x C.b dJ7_copyOfRangeByte_39247_21 rfl (lv_at hl 3 rfl) ?_
  refine lv_isub C.x C.b dJ7_copyOfRangeByte_39247_22 ?_
  refine lv_topi (fun x7 ex7 => ?_)
  have tx7 : x7.toInt = x6.toInt - 0 := (vJ7_copyOfRangeByte_39247_7 κ k0 k2 x2 q3 x6 x7 hpre_1 hpre_2 hl8_0 ex2 tx2 kl5 hlq3 ex6 tx6 lx6 ex7)
  refine lv_iload_n C.x C.b dJ7_copyOfRangeByte_39247_23 rfl (lv_at hl 1 rfl) ?_
  refine c_min C hl.1 cw_192 cw_193 cw_176 cw_194 (Nat.le_of_ble_eq_true rfl) (Nat.le_of_ble_eq_true rfl) (Nat.le_of_ble_eq_true rfl) (vJ7_copyOfRangeByte_39247_8 κ k0 k2 x2 q3 x6 x7 hpre_1 hpre_2 hl8_0 ex2 tx2 kl5 hlq3 ex6 tx6 lx6 ex7 tx7) dJ7_copyOfRangeByte_39247_24 (fun x8 hx8 => ?_)
  have hx8 : x8.toInt = min x7.toInt x2.toInt := by have h := hx8; exact h
  refine ct_copy (n0 := (oL (newB κ.2.2.2.2 q3 (x2.toInt.toNat) (fun _ => 0)) k0)) (n1 := (oL (newB κ.2.2.2.2 q3 (x2.toInt.toNat) (fun _ => 0)) q3)) C hP hS hl.1 (bok_8 pvz4 (exz4.T ht0 (by decide))) (t20 (a := q3) (t := 8) (by show oT (newB κ.2.2.2.2 q3 (x2.toInt.toNat) (fun _ => 0)) q3 = 8; rw [newB_T, if_pos rfl])) rfl (pvz4.t8 (by show oT (newB κ.2.2.2.2 q3 (x2.toInt.toNat) (fun _ => 0)) q3 = 8; rw [newB_T, if_pos rfl])).2 (vJ7_copyOfRangeByte_39247_11  ) (vJ7_copyOfRangeByte_39247_11  ) (vJ7_copyOfRangeByte_39247_12 κ k0 k2 x2 q3 x6 x7 x8 hpre_1 hpre_2 hl8_0 ex2 tx2 kl5 hlq3 ex6 tx6 lx6 ex7 tx7 hx8) (vJ7_copyOfRangeByte_39247_9 κ k0 k2 x2 q3 x6 x7 x8 hpre_1 hpre_2 hl8_0 ex2 tx2 kl5 hlq3 ex6 tx6 lx6 ex7 tx7 hx8) (vJ7_copyOfRangeByte_39247_10 sa κ k0 k2 x2 q3 x6 x7 x8 ht0 hPV hpre_1 hpre_2 hl8_0 ex2 tx2 kl5 exz4 h0q3 nsq3 hlq3 ex6 tx6 lx6 ex7 tx7 hx8) ⟨cw_195, cw_196, cw_197, cw_198⟩ ⟨Nat.le_of_ble_eq_true rfl, Nat.le_of_ble_eq_true rfl⟩ dJ7_copyOfRangeByte_39247_27 (fun H locs F9 hfF9 hcF9 hP hS => ?_)
  have exz10 : EX (newB κ.2.2.2.2 q3 (x2.toInt.toNat) (fun _ => 0)) (sB (newB κ.2.2.2.2 q3 (x2.toInt.toNat) (fun _ => 0)) q3 F9) := EX.stB
  have kpz10 : KPx True κ.2.2.2.2 (sB (newB κ.2.2.2.2 q3 (x2.toInt.toNat) (fun _ => 0)) q3 F9) := kpz4.sB9 (show NS (newB κ.2.2.2.2 q3 (x2.toInt.toNat) (fun _ => 0)) q3 from nsq3)
  have pvz10 : PV sa (sB (newB κ.2.2.2.2 q3 (x2.toInt.toNat) (fun _ => 0)) q3 F9) := (pvz4.stB (by show oT (newB κ.2.2.2.2 q3 (x2.toInt.toNat) (fun _ => 0)) q3 = 8; rw [newB_T, if_pos rfl]) hfF9)
  refine lv_aload C.x C.b dJ7_copyOfRangeByte_39247_30 (lv_at hl 0 rfl) ?_
  have hP : CH D cy ad A (tP κ (sB (newB κ.2.2.2.2 q3 (x2.toInt.toNat) (fun _ => 0)) q3 F9)) H := CH.cong hP rfl rfl rfl rfl rfl rfl rfl rfl rfl rfl rfl rfl rfl rfl rfl rfl rfl rfl rfl rfl rfl rfl rfl rfl rfl rfl rfl
  exact c_retq (v := (some q3)) (Or.inr ⟨_, rfl⟩) C hsz hsl (sB (newB κ.2.2.2.2 q3 (x2.toInt.toNat) (fun _ => 0)) q3 F9) ⟨⟨(exz4.trans exz10), pvz10, kpz10, ⟨q3, rfl, (exz10.T (by show oT (newB κ.2.2.2.2 q3 (x2.toInt.toNat) (fun _ => 0)) q3 = 8; rw [newB_T, if_pos rfl]) (by decide))⟩, (vJ7_copyOfRangeByte_39247_13 κ k0 k2 x2 q3 x6 x7 x8 hpre_1 hpre_2 hl8_0 ex2 tx2 kl5 hlq3 ex6 tx6 lx6 ex7 tx7 hx8)⟩, (vJ7_copyOfRangeByte_39247_14 sa κ k0 k2 x2 q3 x6 x7 x8 F9 ht0 hPV hpre_1 hpre_2 hl8_0 ex2 tx2 kl5 exz4 h0q3 nsq3 hlq3 ex6 tx6 lx6 ex7 tx7 hx8 hcF9 exz10)⟩ hP hS ⟨(Nat.le_of_ble_eq_true rfl), (vJ7_copyOfRangeByte_39247_15 κ k0 k2 x2 q3 x6 x7 x8 hpre_1 hpre_2 hl8_0 ex2 tx2 kl5 hlq3 ex6 tx6 lx6 ex7 tx7 hx8)⟩ ⟨(Nat.le_of_ble_eq_true rfl), (vJ7_copyOfRangeByte_39247_16 κ k0 k2 x2 q3 x6 x7 x8 hpre_1 hpre_2 hl8_0 ex2 tx2 kl5 hlq3 ex6 tx6 lx6 ex7 tx7 hx8)⟩ dJ7_copyOfRangeByte_39247_32

-- room @18
theorem vJ7_copyOfRange_39247_1 (κ : KS) (k0 : Nat) (k2 : Int32) (x2 : Int32) (hpre_1 : 0 ≤ k2.toInt) (hpre_2 : k2.toInt ≤ ((oL κ.2.2.2.2 k0 : Nat) : Int)) (hl8_0 : oL κ.2.2.2.2 k0 ≤ 100) (ex2 : x2 = Int32.ofNat (oL κ.2.2.2.2 k0)) (tx2 : x2.toInt = ((oL κ.2.2.2.2 k0 : Nat) : Int)) (lx2 : oL κ.2.2.2.2 k0 ≤ 100) (c3 : k2.toInt = x2.toInt) : 0 + (oL κ.2.2.2.2 k0) ≤ k2.toInt.toNat := by
  first | assumption | omega | (subst_vars; omega) | trivial
-- post @24
theorem vJ7_copyOfRange_39247_2 (κ : KS) (k0 : Nat) (k2 : Int32) (x2 : Int32) (q4 : Nat) (hpre_1 : 0 ≤ k2.toInt) (hpre_2 : k2.toInt ≤ ((oL κ.2.2.2.2 k0 : Nat) : Int)) (hl8_0 : oL κ.2.2.2.2 k0 ≤ 100) (ex2 : x2 = Int32.ofNat (oL κ.2.2.2.2 k0)) (tx2 : x2.toInt = ((oL κ.2.2.2.2 k0 : Nat) : Int)) (lx2 : oL κ.2.2.2.2 k0 ≤ 100) (c3 : k2.toInt = x2.toInt) (kl6 : oL (newB κ.2.2.2.2 q4 (oL κ.2.2.2.2 k0) (oB κ.2.2.2.2 k0)) k0 = oL κ.2.2.2.2 k0) (hlq4 : oL (newB κ.2.2.2.2 q4 (oL κ.2.2.2.2 k0) (oB κ.2.2.2.2 k0)) q4 = (oL κ.2.2.2.2 k0)) : ((oL (newB κ.2.2.2.2 q4 (oL κ.2.2.2.2 k0) (oB κ.2.2.2.2 k0)) q4 : Nat) : Int) = k2.toInt := by
  first | assumption | omega | (subst_vars; omega) | trivial
-- post2 @24
theorem vJ7_copyOfRange_39247_3 (sa : Nat → Nat) (κ : KS) (k0 : Nat) (k2 : Int32) (x2 : Int32) (q4 : Nat) (ht0 : oT κ.2.2.2.2 k0 = 8) (hPV : PV sa κ.2.2.2.2) (hpre_1 : 0 ≤ k2.toInt) (hpre_2 : k2.toInt ≤ ((oL κ.2.2.2.2 k0 : Nat) : Int)) (hl8_0 : oL κ.2.2.2.2 k0 ≤ 100) (ex2 : x2 = Int32.ofNat (oL κ.2.2.2.2 k0)) (tx2 : x2.toInt = ((oL κ.2.2.2.2 k0 : Nat) : Int)) (lx2 : oL κ.2.2.2.2 k0 ≤ 100) (c3 : k2.toInt = x2.toInt) (kl6 : oL (newB κ.2.2.2.2 q4 (oL κ.2.2.2.2 k0) (oB κ.2.2.2.2 k0)) k0 = oL κ.2.2.2.2 k0) (exz5 : EX κ.2.2.2.2 (newB κ.2.2.2.2 q4 (oL κ.2.2.2.2 k0) (oB κ.2.2.2.2 k0))) (h0q4 : oT κ.2.2.2.2 q4 = 0) (nsq4 : NS (newB κ.2.2.2.2 q4 (oL κ.2.2.2.2 k0) (oB κ.2.2.2.2 k0)) q4) (hlq4 : oL (newB κ.2.2.2.2 q4 (oL κ.2.2.2.2 k0) (oB κ.2.2.2.2 k0)) q4 = (oL κ.2.2.2.2 k0)) : (∀ j : Nat, (j : Int) < k2.toInt → oB (newB κ.2.2.2.2 q4 (oL κ.2.2.2.2 k0) (oB κ.2.2.2.2 k0)) q4 j = oB κ.2.2.2.2 k0 j) ∧ NB (newB κ.2.2.2.2 q4 (oL κ.2.2.2.2 k0) (oB κ.2.2.2.2 k0)) q4 := by
  refine ⟨fun j hj => ?_, fun x hx e => NB.newB9 (n := 0) (f := fun _ => 0) hPV h0q4 x hx e⟩
  rw [show oB (newB κ.2.2.2.2 q4 _ _) q4 = _ from vu_eq]
-- grow @24
theorem vJ7_copyOfRange_39247_4 (κ : KS) (k0 : Nat) (k2 : Int32) (x2 : Int32) (q4 : Nat) (hpre_1 : 0 ≤ k2.toInt) (hpre_2 : k2.toInt ≤ ((oL κ.2.2.2.2 k0 : Nat) : Int)) (hl8_0 : oL κ.2.2.2.2 k0 ≤ 100) (ex2 : x2 = Int32.ofNat (oL κ.2.2.2.2 k0)) (tx2 : x2.toInt = ((oL κ.2.2.2.2 k0 : Nat) : Int)) (lx2 : oL κ.2.2.2.2 k0 ≤ 100) (c3 : k2.toInt = x2.toInt) (kl6 : oL (newB κ.2.2.2.2 q4 (oL κ.2.2.2.2 k0) (oB κ.2.2.2.2 k0)) k0 = oL κ.2.2.2.2 k0) (hlq4 : oL (newB κ.2.2.2.2 q4 (oL κ.2.2.2.2 k0) (oB κ.2.2.2.2 k0)) q4 = (oL κ.2.2.2.2 k0)) : 0 + (oL κ.2.2.2.2 k0) ≤ k2.toInt.toNat := by
  first | assumption | omega | (subst_vars; omega) | trivial
-- growm @24
theorem vJ7_copyOfRange_39247_5 (κ : KS) (k0 : Nat) (k2 : Int32) (x2 : Int32) (q4 : Nat) (hpre_1 : 0 ≤ k2.toInt) (hpre_2 : k2.toInt ≤ ((oL κ.2.2.2.2 k0 : Nat) : Int)) (hl8_0 : oL κ.2.2.2.2 k0 ≤ 100) (ex2 : x2 = Int32.ofNat (oL κ.2.2.2.2 k0)) (tx2 : x2.toInt = ((oL κ.2.2.2.2 k0 : Nat) : Int)) (lx2 : oL κ.2.2.2.2 k0 ≤ 100) (c3 : k2.toInt = x2.toInt) (kl6 : oL (newB κ.2.2.2.2 q4 (oL κ.2.2.2.2 k0) (oB κ.2.2.2.2 k0)) k0 = oL κ.2.2.2.2 k0) (hlq4 : oL (newB κ.2.2.2.2 q4 (oL κ.2.2.2.2 k0) (oB κ.2.2.2.2 k0)) q4 = (oL κ.2.2.2.2 k0)) : k2.toInt.toNat ≤ k2.toInt.toNat := by
  first | assumption | omega | (subst_vars; omega) | trivial
-- pre:J7_copyOfRangeByte_39247@13 @13
theorem vJ7_copyOfRange_39247_6 (κ : KS) (k0 : Nat) (k2 : Int32) (x2 : Int32) (hpre_1 : 0 ≤ k2.toInt) (hpre_2 : k2.toInt ≤ ((oL κ.2.2.2.2 k0 : Nat) : Int)) (hl8_0 : oL κ.2.2.2.2 k0 ≤ 100) (ex2 : x2 = Int32.ofNat (oL κ.2.2.2.2 k0)) (tx2 : x2.toInt = ((oL κ.2.2.2.2 k0 : Nat) : Int)) (lx2 : oL κ.2.2.2.2 k0 ≤ 100) (c3 : ¬ k2.toInt = x2.toInt) : (0 : Int32).toInt = 0 ∧ 0 ≤ k2.toInt ∧ k2.toInt ≤ ((oL κ.2.2.2.2 k0 : Nat) : Int) := by
  have q0 : (0 : Int32).toInt = 0 := by decide +kernel
  refine ⟨?_, ?_, ?_⟩ <;> first | assumption | omega | (subst_vars; omega) | trivial
-- room @13
theorem vJ7_copyOfRange_39247_7 (κ : KS) (k0 : Nat) (k2 : Int32) (x2 : Int32) (hpre_1 : 0 ≤ k2.toInt) (hpre_2 : k2.toInt ≤ ((oL κ.2.2.2.2 k0 : Nat) : Int)) (hl8_0 : oL κ.2.2.2.2 k0 ≤ 100) (ex2 : x2 = Int32.ofNat (oL κ.2.2.2.2 k0)) (tx2 : x2.toInt = ((oL κ.2.2.2.2 k0 : Nat) : Int)) (lx2 : oL κ.2.2.2.2 k0 ≤ 100) (c3 : ¬ k2.toInt = x2.toInt) : 0 + k2.toInt.toNat ≤ k2.toInt.toNat := by
  first | assumption | omega | (subst_vars; omega) | trivial
-- post @16
theorem vJ7_copyOfRange_39247_8 (κ : KS) (k0 : Nat) (k2 : Int32) (x2 : Int32) (P8 : PL) (b11 : Nat) (hpre_1 : 0 ≤ k2.toInt) (hpre_2 : k2.toInt ≤ ((oL κ.2.2.2.2 k0 : Nat) : Int)) (hl8_0 : oL κ.2.2.2.2 k0 ≤ 100) (ex2 : x2 = Int32.ofNat (oL κ.2.2.2.2 k0)) (tx2 : x2.toInt = ((oL κ.2.2.2.2 k0 : Nat) : Int)) (lx2 : oL κ.2.2.2.2 k0 ≤ 100) (c3 : ¬ k2.toInt = x2.toInt) (kl9 : oL P8 k0 = oL κ.2.2.2.2 k0) (hr7_4 : ((oL P8 b11 : Nat) : Int) = k2.toInt) : ((oL P8 b11 : Nat) : Int) = k2.toInt := by
  first | assumption | omega | (subst_vars; omega) | trivial
-- post2 @16
theorem vJ7_copyOfRange_39247_9 (sa : Nat → Nat) (κ : KS) (k0 : Nat) (k2 : Int32) (x2 : Int32) (P8 : PL) (b11 : Nat) (ht0 : oT κ.2.2.2.2 k0 = 8) (hPV : PV sa κ.2.2.2.2) (hpre_1 : 0 ≤ k2.toInt) (hpre_2 : k2.toInt ≤ ((oL κ.2.2.2.2 k0 : Nat) : Int)) (hl8_0 : oL κ.2.2.2.2 k0 ≤ 100) (ex2 : x2 = Int32.ofNat (oL κ.2.2.2.2 k0)) (tx2 : x2.toInt = ((oL κ.2.2.2.2 k0 : Nat) : Int)) (lx2 : oL κ.2.2.2.2 k0 ≤ 100) (c3 : ¬ k2.toInt = x2.toInt) (kl9 : oL P8 k0 = oL κ.2.2.2.2 k0) (hr7_0 : EX κ.2.2.2.2 P8) (hr7_2 : KPx True κ.2.2.2.2 P8) (hr7y_0 : ∀ j : Nat, (j : Int) < k2.toInt → oB P8 b11 j = oB κ.2.2.2.2 k0 j) (hr7y_1 : NB P8 b11) (hr7_4 : ((oL P8 b11 : Nat) : Int) = k2.toInt) : (∀ j : Nat, (j : Int) < k2.toInt → oB P8 b11 j = oB κ.2.2.2.2 k0 j) ∧ NB P8 b11 := by
  exact ⟨hr7y_0, hr7y_1⟩
-- grow @16
theorem vJ7_copyOfRange_39247_10 (κ : KS) (k0 : Nat) (k2 : Int32) (x2 : Int32) (P8 : PL) (b11 : Nat) (hpre_1 : 0 ≤ k2.toInt) (hpre_2 : k2.toInt ≤ ((oL κ.2.2.2.2 k0 : Nat) : Int)) (hl8_0 : oL κ.2.2.2.2 k0 ≤ 100) (ex2 : x2 = Int32.ofNat (oL κ.2.2.2.2 k0)) (tx2 : x2.toInt = ((oL κ.2.2.2.2 k0 : Nat) : Int)) (lx2 : oL κ.2.2.2.2 k0 ≤ 100) (c3 : ¬ k2.toInt = x2.toInt) (kl9 : oL P8 k0 = oL κ.2.2.2.2 k0) (hr7_4 : ((oL P8 b11 : Nat) : Int) = k2.toInt) : 0 + k2.toInt.toNat ≤ k2.toInt.toNat := by
  first | assumption | omega | (subst_vars; omega) | trivial
-- growm @16
theorem vJ7_copyOfRange_39247_11 (κ : KS) (k0 : Nat) (k2 : Int32) (x2 : Int32) (P8 : PL) (b11 : Nat) (hpre_1 : 0 ≤ k2.toInt) (hpre_2 : k2.toInt ≤ ((oL κ.2.2.2.2 k0 : Nat) : Int)) (hl8_0 : oL κ.2.2.2.2 k0 ≤ 100) (ex2 : x2 = Int32.ofNat (oL κ.2.2.2.2 k0)) (tx2 : x2.toInt = ((oL κ.2.2.2.2 k0 : Nat) : Int)) (lx2 : oL κ.2.2.2.2 k0 ≤ 100) (c3 : ¬ k2.toInt = x2.toInt) (kl9 : oL P8 k0 = oL κ.2.2.2.2 k0) (hr7_4 : ((oL P8 b11 : Nat) : Int) = k2.toInt) : k2.toInt.toNat ≤ k2.toInt.toNat := by
  first | assumption | omega | (subst_vars; omega) | trivial
set_option maxHeartbeats 4000000 in
set_option maxRecDepth 100000 in
theorem NJ7_copyOfRange_39247 (l : Launch) (D : va_G) (cy : Nat → ClassId) (ad : Nat → Nat) (A : Nat → Prop) (sz0 : Nat) (sa : Nat → Nat)  (κ : KS) (sz sl : Nat) (hAF : ∀ q, A q → Fr sz0 q) (hAn : ∀ q : Nat, sz ≤ q → A q) (k0 : Nat) (k1 : Int32) (k2 : Int32) (ht0 : oT κ.2.2.2.2 k0 = 8) (hPV : PV sa κ.2.2.2.2) (hpre : k1.toInt = 0 ∧ 0 ≤ k2.toInt ∧ k2.toInt ≤ ((oL κ.2.2.2.2 k0 : Nat) : Int)) : Met l yJ7_copyOfRange_39247 (Cond.code yJ7_copyOfRange_39247 cJ7_copyOfRange_39247 3 (some (.array .byte)) :: GWc) ({ frames := 2, cells := 1, slots := k2.toInt.toNat, locals := 64 }) (PcC D cy ad A sz0 sa [.ref k0, .int k1, .int k2] κ sz sl) (va_Qq (fun (r : Option Nat) (u : PL) => ((EX κ.2.2.2.2 u) ∧ (PV sa u) ∧ (KPx True κ.2.2.2.2 u) ∧ (NN u 8 r) ∧ (((oL u ((r).getD 0) : Nat) : Int) = k2.toInt)) ∧ ((∀ j : Nat, (j : Int) < k2.toInt → oB u (r.getD 0) j = oB κ.2.2.2.2 k0 j) ∧ NB u (r.getD 0))) (fun (u : PL) (t : State) => Bx D cy ad A sz sl (tP κ u) (1) (k2.toInt.toNat) t) A) (1) (k2.toInt.toNat) A := by
  refine CM_of (loc0 := [(0, .ref k0), (1, .int k1), (2, .int k2)]) (own := RJ7) (nm := "copyOfRange") (by decide) rfl rfl rfl (Nat.le_of_ble_eq_true rfl) hAF hAn ?_
  intro p e s m below meth c ls hsz hsl C hP hS hl
  obtain ⟨hpre_0, hpre_1, hpre_2⟩ := hpre
  have e9 : k1 = 0 := Int32.toInt_inj.mp (hpre_0.trans (by decide +kernel))
  subst e9
  have hl8_0 : oL κ.2.2.2.2 k0 ≤ 100 := (hPV.t8 ht0).1
  refine lv_iload_n C.x C.b dJ7_copyOfRange_39247_0 rfl (lv_at hl 1 rfl) ?_
  refine lv_if_ne (tgt := 10) C.x C.b dJ7_copyOfRange_39247_1 (by decide) (fun c1 => absurd (by decide +kernel) c1) (fun _ => ?_)
  refine lv_iload_n C.x C.b dJ7_copyOfRange_39247_4 rfl (lv_at hl 2 rfl) ?_
  refine lv_aload_n C.x C.b dJ7_copyOfRange_39247_5 rfl (lv_at hl 0 rfl) ?_
  refine pl_8 C hP (t20 (a := k0) (t := 8) ht0) rfl dJ7_copyOfRange_39247_6 (fun x2 ex2 => ?_)
  have lx2 : oL κ.2.2.2.2 k0 ≤ 100 := (hPV.t8 ht0).1
  have tx2 : x2.toInt = ((oL κ.2.2.2.2 k0 : Nat) : Int) := by rw [ex2]; exact nI_toInt (n := oL κ.2.2.2.2 k0) (by omega)
  refine lv_icmp_eq (tgt := 17) C.x C.b dJ7_copyOfRange_39247_7 (by decide) (fun c3 => ?_) (fun c3 => ?_)
  · have c3 : k2.toInt = x2.toInt := by have h := z_eq c3; exact h
    refine lv_aload_n C.x C.b dJ7_copyOfRange_39247_17 rfl (lv_at hl 0 rfl) ?_
    refine ct_clone (n := (oL κ.2.2.2.2 k0)) C hP hS hl.1 (t20 (a := k0) (t := 8) ht0) rfl (hPV.t8 ht0).2 ⟨cw_186, cw_187, cw_188, cw_189, cw_190⟩ ⟨Nat.le_of_ble_eq_true rfl, Nat.le_of_ble_eq_true rfl⟩ ⟨(Nat.le_of_ble_eq_true rfl), (vJ7_copyOfRange_39247_1 κ k0 k2 x2 hpre_1 hpre_2 hl8_0 ex2 tx2 lx2 c3)⟩ dJ7_copyOfRange_39247_18 (fun q4 H h0q4 hP hS => ?_)
    have exz5 : EX κ.2.2.2.2 (newB κ.2.2.2.2 q4 (oL κ.2.2.2.2 k0) (oB κ.2.2.2.2 k0)) := (EX.newB h0q4)
    have kl6 : oL (newB κ.2.2.2.2 q4 (oL κ.2.2.2.2 k0) (oB κ.2.2.2.2 k0)) k0 = oL κ.2.2.2.2 k0 := exz5.L ht0 (by decide)
    have kpz5 : KPx True κ.2.2.2.2 (newB κ.2.2.2.2 q4 (oL κ.2.2.2.2 k0) (oB κ.2.2.2.2 k0)) := KPx.rf.newB9 hPV h0q4
    have nsq4 : NS (newB κ.2.2.2.2 q4 (oL κ.2.2.2.2 k0) (oB κ.2.2.2.2 k0)) q4 := NS.newB9 hPV h0q4
    have pvz5 : PV sa (newB κ.2.2.2.2 q4 (oL κ.2.2.2.2 k0) (oB κ.2.2.2.2 k0)) := (hPV.byt h0q4 (hPV.t8 ht0).1 (hPV.t8 ht0).2)
    have hlq4 : oL (newB κ.2.2.2.2 q4 (oL κ.2.2.2.2 k0) (oB κ.2.2.2.2 k0)) q4 = (oL κ.2.2.2.2 k0) := vu_eq
    refine c_castB C hP (t20 (a := q4) (t := 8) (by show oT (newB κ.2.2.2.2 q4 (oL κ.2.2.2.2 k0) (oB κ.2.2.2.2 k0)) q4 = 8; rw [newB_T, if_pos rfl])) cw_191 dJ7_copyOfRange_39247_21 ?_
    exact c_retq (v := (some q4)) (Or.inr ⟨_, rfl⟩) C hsz hsl (newB κ.2.2.2.2 q4 (oL κ.2.2.2.2 k0) (oB κ.2.2.2.2 k0)) ⟨⟨exz5, pvz5, kpz5, ⟨q4, rfl, (by show oT (newB κ.2.2.2.2 q4 (oL κ.2.2.2.2 k0) (oB κ.2.2.2.2 k0)) q4 = 8; rw [newB_T, if_pos rfl])⟩, (vJ7_copyOfRange_39247_2 κ k0 k2 x2 q4 hpre_1 hpre_2 hl8_0 ex2 tx2 lx2 c3 kl6 hlq4)⟩, (vJ7_copyOfRange_39247_3 sa κ k0 k2 x2 q4 ht0 hPV hpre_1 hpre_2 hl8_0 ex2 tx2 lx2 c3 kl6 exz5 h0q4 nsq4 hlq4)⟩ hP hS ⟨(Nat.le_of_ble_eq_true rfl), (vJ7_copyOfRange_39247_4 κ k0 k2 x2 q4 hpre_1 hpre_2 hl8_0 ex2 tx2 lx2 c3 kl6 hlq4)⟩ ⟨(Nat.le_of_ble_eq_true rfl), (vJ7_copyOfRange_39247_5 κ k0 k2 x2 q4 hpre_1 hpre_2 hl8_0 ex2 tx2 lx2 c3 kl6 hlq4)⟩ dJ7_copyOfRange_39247_24
  · have c3 : ¬ k2.toInt = x2.toInt := by have h := z_ne c3; exact h
    refine lv_aload_n C.x C.b dJ7_copyOfRange_39247_10 rfl (lv_at hl 0 rfl) ?_
    refine lv_iload_n C.x C.b dJ7_copyOfRange_39247_11 rfl (lv_at hl 1 rfl) ?_
    refine lv_iload_n C.x C.b dJ7_copyOfRange_39247_12 rfl (lv_at hl 2 rfl) ?_
    refine c_callSq (C2 := "") (b := 0) (n := 3) (As := [.ref k0, .int 0, .int k2]) (rest := []) C hP hS hl.1 (NJ7_copyOfRangeByte_39247 l D cy ad A sz0 sa κ s.heap.size (SLT s.heap) C.f (fun q h => C.a q (Nat.le_trans hS.1 h)) k0 (0 : Int32) k2 ht0 hPV (vJ7_copyOfRange_39247_6 κ k0 k2 x2 hpre_1 hpre_2 hl8_0 ex2 tx2 lx2 c3)) ⟨cw_321, cw_323, by decide +kernel⟩ ⟨cw_322, cw_184⟩ rfl rfl (lv_room (Nat.le_of_ble_eq_true rfl)) ⟨Nat.le_of_ble_eq_true rfl, Nat.le_of_ble_eq_true rfl⟩ ⟨(Nat.le_of_ble_eq_true rfl), (vJ7_copyOfRange_39247_7 κ k0 k2 x2 hpre_1 hpre_2 hl8_0 ex2 tx2 lx2 c3)⟩ dJ7_copyOfRange_39247_13 (fun r7 u H locs hr7 hP hS => ?_)
    obtain ⟨P8, rfl⟩ : ∃ z, z = u := ⟨_, rfl⟩
    have hP : CH D cy ad A (tP κ P8) H := hP
    obtain ⟨hr7, hr7y⟩ := hr7
    have hr7y : (∀ j : Nat, (j : Int) < k2.toInt → oB P8 (r7.getD 0) j = oB κ.2.2.2.2 k0 j) ∧ NB P8 (r7.getD 0) := hr7y
    have hr7 : (EX κ.2.2.2.2 P8) ∧ (PV sa P8) ∧ (KPx True κ.2.2.2.2 P8) ∧ (NN P8 8 r7) ∧ (((oL P8 ((r7).getD 0) : Nat) : Int) = k2.toInt) := hr7
    obtain ⟨hr7_0, hr7_1, hr7_2, hr7_3, hr7_4⟩ := hr7
    have kl9 : oL P8 k0 = oL κ.2.2.2.2 k0 := hr7_0.L ht0 (by decide)
    have kpz10 : KPx True κ.2.2.2.2 P8 := KPx.rf.trans hr7_2
    obtain ⟨b11, rfl, tb11⟩ := hr7_3
    obtain ⟨hr7y_0, hr7y_1⟩ := hr7y
    exact c_retq (v := (some b11)) (Or.inr ⟨_, rfl⟩) C hsz hsl P8 ⟨⟨hr7_0, hr7_1, kpz10, ⟨b11, rfl, tb11⟩, (vJ7_copyOfRange_39247_8 κ k0 k2 x2 P8 b11 hpre_1 hpre_2 hl8_0 ex2 tx2 lx2 c3 kl9 hr7_4)⟩, (vJ7_copyOfRange_39247_9 sa κ k0 k2 x2 P8 b11 ht0 hPV hpre_1 hpre_2 hl8_0 ex2 tx2 lx2 c3 kl9 hr7_0 hr7_2 hr7y_0 hr7y_1 hr7_4)⟩ hP hS ⟨(Nat.le_of_ble_eq_true rfl), (vJ7_copyOfRange_39247_10 κ k0 k2 x2 P8 b11 hpre_1 hpre_2 hl8_0 ex2 tx2 lx2 c3 kl9 hr7_4)⟩ ⟨(Nat.le_of_ble_eq_true rfl), (vJ7_copyOfRange_39247_11 κ k0 k2 x2 P8 b11 hpre_1 hpre_2 hl8_0 ex2 tx2 lx2 c3 kl9 hr7_4)⟩ dJ7_copyOfRange_39247_16

-- room @5
theorem vJ0_init_db425_1 (κ : KS) (k1 : Nat) (hpre : (oI κ.2.2.2.2 25 k1).toInt ≤ 40) (hc0 : 0 ≤ (oI κ.2.2.2.2 25 k1).toInt) : 0 + 0 ≤ (oI κ.2.2.2.2 25 k1).toInt.toNat := by
  first | assumption | omega | (subst_vars; omega) | trivial
-- room @10
theorem vJ0_init_db425_2 (κ : KS) (k1 : Nat) (b2 : Nat) (hpre : (oI κ.2.2.2.2 25 k1).toInt ≤ 40) (hc0 : 0 ≤ (oI κ.2.2.2.2 25 k1).toInt) (hr1_1 : (oI κ.2.2.2.2 25 k1).toInt ≤ ((oL κ.2.2.2.2 b2 : Nat) : Int)) : 0 + 0 + 0 ≤ (oI κ.2.2.2.2 25 k1).toInt.toNat := by
  first | assumption | omega | (subst_vars; omega) | trivial
-- room @16
theorem vJ0_init_db425_3 (κ : KS) (k1 : Nat) (b2 : Nat) (r3 : Int32) (hpre : (oI κ.2.2.2.2 25 k1).toInt ≤ 40) (hc0 : 0 ≤ (oI κ.2.2.2.2 25 k1).toInt) (hr1_1 : (oI κ.2.2.2.2 25 k1).toInt ≤ ((oL κ.2.2.2.2 b2 : Nat) : Int)) (hr3 : r3.toInt = (oI κ.2.2.2.2 25 k1).toInt) : 0 + 0 + 0 + 0 ≤ (oI κ.2.2.2.2 25 k1).toInt.toNat := by
  first | assumption | omega | (subst_vars; omega) | trivial
-- pre:J7_copyOfRange_39247@32 @32
theorem vJ0_init_db425_4 (κ : KS) (k1 : Nat) (b2 : Nat) (r3 : Int32) (hpre : (oI κ.2.2.2.2 25 k1).toInt ≤ 40) (hc0 : 0 ≤ (oI κ.2.2.2.2 25 k1).toInt) (hr1_1 : (oI κ.2.2.2.2 25 k1).toInt ≤ ((oL κ.2.2.2.2 b2 : Nat) : Int)) (hr3 : r3.toInt = (oI κ.2.2.2.2 25 k1).toInt) : (0 : Int32).toInt = 0 ∧ 0 ≤ r3.toInt ∧ r3.toInt ≤ ((oL κ.2.2.2.2 b2 : Nat) : Int) := by
  have q0 : (0 : Int32).toInt = 0 := by decide +kernel
  refine ⟨?_, ?_, ?_⟩ <;> first | assumption | omega | (subst_vars; omega) | trivial
-- room @32
theorem vJ0_init_db425_5 (κ : KS) (k1 : Nat) (b2 : Nat) (r3 : Int32) (hpre : (oI κ.2.2.2.2 25 k1).toInt ≤ 40) (hc0 : 0 ≤ (oI κ.2.2.2.2 25 k1).toInt) (hr1_1 : (oI κ.2.2.2.2 25 k1).toInt ≤ ((oL κ.2.2.2.2 b2 : Nat) : Int)) (hr3 : r3.toInt = (oI κ.2.2.2.2 25 k1).toInt) : 0 + 0 + 0 + 0 + r3.toInt.toNat ≤ (oI κ.2.2.2.2 25 k1).toInt.toNat := by
  first | assumption | omega | (subst_vars; omega) | trivial
-- l40 @97
theorem vJ0_init_db425_6 (κ : KS) (k1 : Nat) (b2 : Nat) (r3 : Int32) (P8 : PL) (b11 : Nat) (hpre : (oI κ.2.2.2.2 25 k1).toInt ≤ 40) (hc0 : 0 ≤ (oI κ.2.2.2.2 25 k1).toInt) (hr1_1 : (oI κ.2.2.2.2 25 k1).toInt ≤ ((oL κ.2.2.2.2 b2 : Nat) : Int)) (hr3 : r3.toInt = (oI κ.2.2.2.2 25 k1).toInt) (kl9 : oL P8 b2 = oL κ.2.2.2.2 b2) (hr7_4 : ((oL P8 b11 : Nat) : Int) = r3.toInt) : oL P8 b11 ≤ 40 := by
  first | assumption | omega | (subst_vars; omega) | trivial
-- hnb2 @97
theorem vJ0_init_db425_7 (sa : Nat → Nat) (κ : KS) (k0 : Nat) (k1 : Nat) (b2 : Nat) (r3 : Int32) (P8 : PL) (b11 : Nat) (ht0 : oT κ.2.2.2.2 k0 = 27) (ht1 : oT κ.2.2.2.2 k1 = 12) (hPV : PV sa κ.2.2.2.2) (hpre : (oI κ.2.2.2.2 25 k1).toInt ≤ 40) (hc0 : 0 ≤ (oI κ.2.2.2.2 25 k1).toInt) (hr1y : oR κ.2.2.2.2 12 k1 = some b2) (hr1_1 : (oI κ.2.2.2.2 25 k1).toInt ≤ ((oL κ.2.2.2.2 b2 : Nat) : Int)) (hr3 : r3.toInt = (oI κ.2.2.2.2 25 k1).toInt) (kl9 : oL P8 b2 = oL κ.2.2.2.2 b2) (hr7_0 : EX (sI κ.2.2.2.2 20 k0 (0 : Int32)) P8) (hr7_2 : KPx True (sI κ.2.2.2.2 20 k0 (0 : Int32)) P8) (hr7y_0 : ∀ j : Nat, (j : Int) < r3.toInt → oB P8 b11 j = oB (sI κ.2.2.2.2 20 k0 (0 : Int32)) b2 j) (hr7y_1 : NB P8 b11) (hr7_4 : ((oL P8 b11 : Nat) : Int) = r3.toInt) : ∀ x c, oT (sR P8 11 k0 (some b11)) x = 12 → oR (sR P8 11 k0 (some b11)) 12 x = some c → ¬ oR (sR P8 11 k0 (some b11)) 11 k0 = some c := by
  have q0 : (0 : Int32).toInt = 0 := by decide +kernel
  intro x c hx e e2
  rw [sR_eq] at e2
  rw [sR_nk (by decide)] at e
  exact hr7y_1 x hx (e.trans e2.symm)
-- post2 @97
theorem vJ0_init_db425_8 (sa : Nat → Nat) (κ : KS) (k0 : Nat) (k1 : Nat) (b2 : Nat) (r3 : Int32) (P8 : PL) (b11 : Nat) (ht0 : oT κ.2.2.2.2 k0 = 27) (ht1 : oT κ.2.2.2.2 k1 = 12) (hPV : PV sa κ.2.2.2.2) (hpre : (oI κ.2.2.2.2 25 k1).toInt ≤ 40) (hc0 : 0 ≤ (oI κ.2.2.2.2 25 k1).toInt) (hr1y : oR κ.2.2.2.2 12 k1 = some b2) (hr1_1 : (oI κ.2.2.2.2 25 k1).toInt ≤ ((oL κ.2.2.2.2 b2 : Nat) : Int)) (hr3 : r3.toInt = (oI κ.2.2.2.2 25 k1).toInt) (kl9 : oL P8 b2 = oL κ.2.2.2.2 b2) (hr7_0 : EX (sI κ.2.2.2.2 20 k0 (0 : Int32)) P8) (hr7_2 : KPx True (sI κ.2.2.2.2 20 k0 (0 : Int32)) P8) (hr7y_0 : ∀ j : Nat, (j : Int) < r3.toInt → oB P8 b11 j = oB (sI κ.2.2.2.2 20 k0 (0 : Int32)) b2 j) (hr7y_1 : NB P8 b11) (hr7_4 : ((oL P8 b11 : Nat) : Int) = r3.toInt) : oR (sR P8 11 k0 (some b11)) 11 k0 = some b11 → oT (sR P8 11 k0 (some b11)) b11 = 8 → oT (sR P8 11 k0 (some b11)) k0 = 27 → ∀ s9 : List Int, SBX κ.2.2.2.2 k1 s9 → TXq (sC (sT (sR P8 11 k0 (some b11)) k0 7) k0 (0)) sa k0 s9 := by
  have q0 : (0 : Int32).toInt = 0 := by decide +kernel
  intro e1 e2 e3 s9 h
  obtain ⟨h1, b0, h2, h3⟩ := h
  rw [hr1y] at h2
  obtain rfl := Option.some.inj h2
  refine Or.inl ⟨fin_T, b11, e1, ?_, ?_, fun k hk => ?_⟩
  · show va_up _ k0 7 b11 = 8
    rw [vu_ne (fun e => by have f2 : oT P8 b11 = 8 := e2; have f3 : oT P8 k0 = 27 := e3; rw [e, f3] at f2; exact absurd f2 (by decide))]; exact e2
  · show oL P8 b11 = s9.length
    omega
  · show (oB P8 b11 k).toInt = s9.getD k 0
    rw [hr7y_0 k (by omega)]; exact h3 k hk
-- sl @97
theorem vJ0_init_db425_9 (κ : KS) (k1 : Nat) (b2 : Nat) (r3 : Int32) (P8 : PL) (b11 : Nat) (hpre : (oI κ.2.2.2.2 25 k1).toInt ≤ 40) (hc0 : 0 ≤ (oI κ.2.2.2.2 25 k1).toInt) (hr1_1 : (oI κ.2.2.2.2 25 k1).toInt ≤ ((oL κ.2.2.2.2 b2 : Nat) : Int)) (hr3 : r3.toInt = (oI κ.2.2.2.2 25 k1).toInt) (kl9 : oL P8 b2 = oL κ.2.2.2.2 b2) (hr7_4 : ((oL P8 b11 : Nat) : Int) = r3.toInt) : oL P8 b11 = (oI κ.2.2.2.2 25 k1).toInt.toNat := by
  first | assumption | omega | (subst_vars; omega) | trivial
-- grow @97
theorem vJ0_init_db425_10 (κ : KS) (k1 : Nat) (b2 : Nat) (r3 : Int32) (P8 : PL) (b11 : Nat) (hpre : (oI κ.2.2.2.2 25 k1).toInt ≤ 40) (hc0 : 0 ≤ (oI κ.2.2.2.2 25 k1).toInt) (hr1_1 : (oI κ.2.2.2.2 25 k1).toInt ≤ ((oL κ.2.2.2.2 b2 : Nat) : Int)) (hr3 : r3.toInt = (oI κ.2.2.2.2 25 k1).toInt) (kl9 : oL P8 b2 = oL κ.2.2.2.2 b2) (hr7_4 : ((oL P8 b11 : Nat) : Int) = r3.toInt) : 0 + 0 + 0 + 0 + r3.toInt.toNat ≤ (oI κ.2.2.2.2 25 k1).toInt.toNat := by
  first | assumption | omega | (subst_vars; omega) | trivial
-- growm @97
theorem vJ0_init_db425_11 (κ : KS) (k1 : Nat) (b2 : Nat) (r3 : Int32) (P8 : PL) (b11 : Nat) (hpre : (oI κ.2.2.2.2 25 k1).toInt ≤ 40) (hc0 : 0 ≤ (oI κ.2.2.2.2 25 k1).toInt) (hr1_1 : (oI κ.2.2.2.2 25 k1).toInt ≤ ((oL κ.2.2.2.2 b2 : Nat) : Int)) (hr3 : r3.toInt = (oI κ.2.2.2.2 25 k1).toInt) (kl9 : oL P8 b2 = oL κ.2.2.2.2 b2) (hr7_4 : ((oL P8 b11 : Nat) : Int) = r3.toInt) : (oI κ.2.2.2.2 25 k1).toInt.toNat ≤ (oI κ.2.2.2.2 25 k1).toInt.toNat := by
  first | assumption | omega | (subst_vars; omega) | trivial
set_option maxHeartbeats 4000000 in
set_option maxRecDepth 100000 in
theorem NJ0_init_db425 (l : Launch) (D : va_G) (cy : Nat → ClassId) (ad : Nat → Nat) (A : Nat → Prop) (sz0 : Nat) (sa : Nat → Nat)  (κ : KS) (sz sl : Nat) (hAF : ∀ q, A q → Fr sz0 q) (hAn : ∀ q : Nat, sz ≤ q → A q) (k0 : Nat) (k1 : Nat) (k2 : Option Nat) (ht0 : oT κ.2.2.2.2 k0 = 27) (ht1 : oT κ.2.2.2.2 k1 = 12) (hPV : PV sa κ.2.2.2.2) (hpre : (oI κ.2.2.2.2 25 k1).toInt ≤ 40) : Met l yJ0_init_db425 (Cond.code yJ0_init_db425 cJ0_init_db425 5 none :: GWc) ({ frames := 3, cells := 1, slots := (oI κ.2.2.2.2 25 k1).toInt.toNat, locals := 86 }) (PcC D cy ad A sz0 sa [.ref k0, .ref k1, va_rf k2] κ sz sl) (va_Qv (fun (u : PL) => ((EXP (fun a => ¬ a = k0) κ.2.2.2.2 u) ∧ (PV sa u) ∧ (oT u k0 = 7) ∧ (KPx True κ.2.2.2.2 u) ∧ (SL u sa k0 (oI κ.2.2.2.2 25 k1).toInt.toNat)) ∧ (∀ s9 : List Int, SBX κ.2.2.2.2 k1 s9 → TXq u sa k0 s9)) (fun (u : PL) (t : State) => Bx D cy ad A sz sl (tP κ u) (1) ((oI κ.2.2.2.2 25 k1).toInt.toNat) t) A) (1) ((oI κ.2.2.2.2 25 k1).toInt.toNat) A := by
  refine CM_of (loc0 := [(0, .ref k0), (1, .ref k1), (2, va_rf k2)]) (own := RJ0) (nm := "<init>") (by decide) rfl rfl (by cases k2 <;> rfl) (by cases k2 <;> exact Nat.le_of_ble_eq_true rfl) hAF hAn ?_
  intro p e s m below meth c ls hsz hsl C hP hS hl
  have hc0 : 0 ≤ (oI κ.2.2.2.2 25 k1).toInt := (hPV.t12 ht1).2.2
  refine lv_aload_n C.x C.b dJ0_init_db425_0 rfl (lv_at hl 0 rfl) ?_
  refine W.objInit C.x C.b C.o (C.w _ cw_301) (C.w _ cw_2) (C.w _ cw_3) rfl (by rw [C.ml]; exact hl.1) rfl dJ0_init_db425_1 (Nat.le_of_ble_eq_true rfl) (Nat.le_of_ble_eq_true rfl) ?_
  refine W.eq (g2 := F0 m 4 ls []) rfl ?_
  refine lv_aload_n C.x C.b dJ0_init_db425_4 rfl (lv_at hl 1 rfl) ?_
  refine c_callUq (owner := "java/lang/AbstractStringBuilder") (n := 0) (As := []) (rest := []) C hP hS hl.1 (NJ5_getValue_6d5f1 l D cy ad A sz0 sa κ s.heap.size (SLT s.heap) C.f (fun q h => C.a q (Nat.le_trans hS.1 h)) k1 ht1 hPV) ⟨cw_303, cw_307, by decide +kernel⟩ ⟨cw_304, cw_305, cw_306, cw_15⟩ rfl (hP.recvP (t := 12) (ci := 1) C.K (t20 (a := k1) (t := 12) ht1) (by decide) rfl rfl) rfl rfl (lv_room (Nat.le_of_ble_eq_true rfl)) ⟨Nat.le_of_ble_eq_true rfl, Nat.le_of_ble_eq_true rfl⟩ ⟨(Nat.le_of_ble_eq_true rfl), (vJ0_init_db425_1 κ k1 hpre hc0)⟩ dJ0_init_db425_5 (fun r1 u H locs hr1 hP hS => ?_)
  obtain ⟨hr1, hr1y⟩ := hr1
  have hr1y : oR κ.2.2.2.2 12 k1 = some (r1.getD 0) := hr1y
  have hr1 : (NN κ.2.2.2.2 8 r1) ∧ ((oI κ.2.2.2.2 25 k1).toInt ≤ ((oL κ.2.2.2.2 ((r1).getD 0) : Nat) : Int)) := hr1
  obtain ⟨hr1_0, hr1_1⟩ := hr1
  obtain ⟨b2, rfl, tb2⟩ := hr1_0
  refine lv_astore_n (lv' := [(3, .ref b2), (0, .ref k0), (1, .ref k1), (2, va_rf k2)]) C.x C.b dJ0_init_db425_8 rfl hl (by decide) (by cases k2 <;> rfl) (fun ls hl => ?_)
  refine lv_aload_n C.x C.b dJ0_init_db425_9 rfl (lv_at hl 2 rfl) ?_
  refine c_callOi (owner := "java/lang/AbstractStringBuilder") (n := 0) (As := []) (rest := []) C hP hS hl.1 (NJ4_length_8abf5 l D cy ad A sz0 sa κ H.size (SLT H) C.f (fun q h => C.a q (Nat.le_trans hS.1 h)) k1 ht1 hPV) ⟨cw_308, cw_313, by decide +kernel⟩ ⟨cw_309, cw_315, cw_311, cw_312, cw_8, cw_316⟩ (hP.recvP (t := 12) (ci := 1) C.K (t20 (a := k1) (t := 12) ht1) (by decide) rfl rfl) rfl rfl (lv_room (Nat.le_of_ble_eq_true rfl)) ⟨Nat.le_of_ble_eq_true rfl, Nat.le_of_ble_eq_true rfl⟩ ⟨(Nat.le_of_ble_eq_true rfl), (vJ0_init_db425_2 κ k1 b2 hpre hc0 hr1_1)⟩ dJ0_init_db425_10 (fun r3 u H locs hr3 hP hS => ?_)
  have hr3 : (r3.toInt = (oI κ.2.2.2.2 25 k1).toInt) := hr3
  refine lv_istore (lv' := [(4, .int r3), (3, .ref b2), (0, .ref k0), (1, .ref k1), (2, va_rf k2)]) C.x C.b dJ0_init_db425_13 hl (by decide) (by cases k2 <;> rfl) (fun ls hl => ?_)
  refine lv_aload_n C.x C.b dJ0_init_db425_15 rfl (lv_at hl 3 rfl) ?_
  refine c_callUi (owner := "java/lang/AbstractStringBuilder") (n := 0) (As := []) (rest := []) C hP hS hl.1 (NJ5_isLatin1_aae02 l D cy ad A sz0 sa κ H.size (SLT H) C.f (fun q h => C.a q (Nat.le_trans hS.1 h)) k1 ht1 hPV) ⟨cw_317, cw_203, by decide +kernel⟩ ⟨cw_200, cw_201, cw_202, cw_15⟩ rfl (hP.recvP (t := 12) (ci := 1) C.K (t20 (a := k1) (t := 12) ht1) (by decide) rfl rfl) rfl rfl (lv_room (Nat.le_of_ble_eq_true rfl)) ⟨Nat.le_of_ble_eq_true rfl, Nat.le_of_ble_eq_true rfl⟩ ⟨(Nat.le_of_ble_eq_true rfl), (vJ0_init_db425_3 κ k1 b2 r3 hpre hc0 hr1_1 hr3)⟩ dJ0_init_db425_16 (fun r4 u H locs hr4 hP hS => ?_)
  have hr4 : (r4 = (1 : Int32)) := hr4
  subst hr4
  refine lv_if_eq (tgt := 41) C.x C.b dJ0_init_db425_19 (by decide) (fun c5 => absurd c5 (by decide +kernel)) (fun _ => ?_)
  refine lv_aload_n C.x C.b dJ0_init_db425_22 rfl (lv_at hl 2 rfl) ?_
  refine lv_iconst (v := 0) C.x C.b dJ0_init_db425_23 (by decide +kernel) ?_
  refine pp_J0_1 C rfl rfl hP hS (t20 (a := k0) (t := 27) ht0) (Or.inl rfl) cw_74 dJ0_init_db425_24 (fun H locs hP hS => ?_)
  have pvz6 : PV sa (sI κ.2.2.2.2 20 k0 (0 : Int32)) := hPV.rI (raw_le ht0 (by decide))
  have xpz6 : EXP (fun a => ¬ a = k0) κ.2.2.2.2 (sI κ.2.2.2.2 20 k0 (0 : Int32)) := XP.rf.trans XP.xI
  have kpz6 : KPx True κ.2.2.2.2 (sI κ.2.2.2.2 20 k0 (0 : Int32)) := KPx.rf.rI9 (raw_le ht0 (by decide))
  refine lv_aload_n C.x C.b dJ0_init_db425_27 rfl (lv_at hl 2 rfl) ?_
  refine lv_aload_n C.x C.b dJ0_init_db425_28 rfl (lv_at hl 1 rfl) ?_
  refine lv_iconst (v := 0) C.x C.b dJ0_init_db425_29 (by decide +kernel) ?_
  refine lv_iload C.x C.b dJ0_init_db425_30 (lv_at hl 0 rfl) ?_
  refine c_callSq (C2 := "") (b := 0) (n := 3) (As := [.ref b2, .int 0, .int r3]) (rest := [.ref k0]) C hP hS hl.1 (NJ7_copyOfRange_39247 l D cy ad A sz0 sa (tP κ (sI κ.2.2.2.2 20 k0 (0 : Int32))) H.size (SLT H) C.f (fun q h => C.a q (Nat.le_trans hS.1 h)) b2 (0 : Int32) r3 tb2 pvz6 (vJ0_init_db425_4 κ k1 b2 r3 hpre hc0 hr1_1 hr3)) ⟨cw_318, cw_320, by decide +kernel⟩ ⟨cw_319, cw_184⟩ rfl rfl (lv_room (Nat.le_of_ble_eq_true rfl)) ⟨Nat.le_of_ble_eq_true rfl, Nat.le_of_ble_eq_true rfl⟩ ⟨(Nat.le_of_ble_eq_true rfl), (vJ0_init_db425_5 κ k1 b2 r3 hpre hc0 hr1_1 hr3)⟩ dJ0_init_db425_32 (fun r7 u H locs hr7 hP hS => ?_)
  obtain ⟨P8, rfl⟩ : ∃ z, z = u := ⟨_, rfl⟩
  have hP : CH D cy ad A (tP (tP κ (sI κ.2.2.2.2 20 k0 (0 : Int32))) P8) H := hP
  obtain ⟨hr7, hr7y⟩ := hr7
  have hr7y : (∀ j : Nat, (j : Int) < r3.toInt → oB P8 (r7.getD 0) j = oB (sI κ.2.2.2.2 20 k0 (0 : Int32)) b2 j) ∧ NB P8 (r7.getD 0) := hr7y
  have hr7 : (EX (sI κ.2.2.2.2 20 k0 (0 : Int32)) P8) ∧ (PV sa P8) ∧ (KPx True (sI κ.2.2.2.2 20 k0 (0 : Int32)) P8) ∧ (NN P8 8 r7) ∧ (((oL P8 ((r7).getD 0) : Nat) : Int) = r3.toInt) := hr7
  obtain ⟨hr7_0, hr7_1, hr7_2, hr7_3, hr7_4⟩ := hr7
  have kl9 : oL P8 b2 = oL κ.2.2.2.2 b2 := hr7_0.L tb2 (by decide)
  have kpz10 : KPx True κ.2.2.2.2 P8 := kpz6.trans hr7_2
  obtain ⟨b11, rfl, tb11⟩ := hr7_3
  obtain ⟨hr7y_0, hr7y_1⟩ := hr7y
  have xpz12 : EXP (fun a => ¬ a = k0) κ.2.2.2.2 P8 := xpz6.trans (XP.ex hr7_0)
  refine pp_J0_0 (v := (some b11)) C rfl rfl hP hS (t20 (a := k0) (t := 27) (hr7_0.T ht0 (by decide))) cw_75 dJ0_init_db425_35 (fun H locs hP hS => ?_)
  have pvz13 : PV sa (sR P8 11 k0 (some b11)) := hr7_1.rR (raw_le (hr7_0.T ht0 (by decide)) (by decide))
  have xpz13 : EXP (fun a => ¬ a = k0) κ.2.2.2.2 (sR P8 11 k0 (some b11)) := xpz12.trans XP.xR
  have kpz13 : KPx True κ.2.2.2.2 (sR P8 11 k0 (some b11)) := kpz10.rR9 (raw_le (hr7_0.T ht0 (by decide)) (by decide))
  refine lv_goto (tgt := 97) C.x C.b dJ0_init_db425_38 (by decide) ?_
  have hP := CH.fin (t := 7) (n := 0) hP (show oT (sR P8 11 k0 (some b11)) k0 = 20 + 7 from (hr7_0.T ht0 (by decide))) (by decide)
  have pvF : PV sa (sC (sT (sR P8 11 k0 (some b11)) k0 7) k0 (0)) := fin_7 pvz13 (hr7_0.T ht0 (by decide)) ⟨b11, sR_eq, tb11, (vJ0_init_db425_6 κ k1 b2 r3 P8 b11 hpre hc0 hr1_1 hr3 kl9 hr7_4)⟩ ((hr7_0.I (k := 20) ht0 (by decide) (by decide)).trans sI_eq) (vJ0_init_db425_7 sa κ k0 k1 b2 r3 P8 b11 ht0 ht1 hPV hpre hc0 hr1y hr1_1 hr3 kl9 hr7_0 hr7_2 hr7y_0 hr7y_1 hr7_4)
  have xpF : EXP (fun a => ¬ a = k0) κ.2.2.2.2 (sC (sT (sR P8 11 k0 (some b11)) k0 7) k0 (0)) := xpz13.trans XP.xC
  have kpF : KPx True κ.2.2.2.2 (sC (sT (sR P8 11 k0 (some b11)) k0 7) k0 (0)) := kpz13.fin9 (raw_le (hr7_0.T ht0 (by decide)) (by decide))
  have hP : CH D cy ad A (tP (tP (tP (tP κ (sI κ.2.2.2.2 20 k0 (0 : Int32))) P8) (sR P8 11 k0 (some b11))) (sC (sT (sR P8 11 k0 (some b11)) k0 7) k0 (0))) H := hP
  have hP : CH D cy ad A (tP κ (sC (sT (sR P8 11 k0 (some b11)) k0 7) k0 (0))) H := CH.cong hP rfl rfl rfl rfl rfl rfl rfl rfl rfl rfl rfl rfl rfl rfl rfl rfl rfl rfl rfl rfl rfl rfl rfl rfl rfl rfl rfl
  exact c_retv C hsz hsl (sC (sT (sR P8 11 k0 (some b11)) k0 7) k0 (0)) ⟨⟨xpF, pvF, fin_T, kpF, fin_SL (b := b11) (hr7_0.T ht0 (by decide)) sR_eq tb11 (vJ0_init_db425_9 κ k1 b2 r3 P8 b11 hpre hc0 hr1_1 hr3 kl9 hr7_4)⟩, ((vJ0_init_db425_8 sa κ k0 k1 b2 r3 P8 b11 ht0 ht1 hPV hpre hc0 hr1y hr1_1 hr3 kl9 hr7_0 hr7_2 hr7y_0 hr7y_1 hr7_4) sR_eq tb11 (hr7_0.T ht0 (by decide)))⟩ hP hS ⟨(Nat.le_of_ble_eq_true rfl), (vJ0_init_db425_10 κ k1 b2 r3 P8 b11 hpre hc0 hr1_1 hr3 kl9 hr7_4)⟩ ⟨(Nat.le_of_ble_eq_true rfl), (vJ0_init_db425_11 κ k1 b2 r3 P8 b11 hpre hc0 hr1_1 hr3 kl9 hr7_4)⟩ dJ0_init_db425_97

-- pre:J0_init_db425@3 @3
theorem vJ0_init_81219_1 (κ : KS) (k1 : Nat) (hpre : (oI κ.2.2.2.2 25 k1).toInt ≤ 40) : (oI κ.2.2.2.2 25 k1).toInt ≤ 40 := by
  first | assumption | omega | (subst_vars; omega) | trivial
-- room @3
theorem vJ0_init_81219_2 (κ : KS) (k1 : Nat) (hpre : (oI κ.2.2.2.2 25 k1).toInt ≤ 40) : 0 + ((oI κ.2.2.2.2 25 k1).toInt.toNat) ≤ (oI κ.2.2.2.2 25 k1).toInt.toNat := by
  first | assumption | omega | (subst_vars; omega) | trivial
-- post @6
theorem vJ0_init_81219_3 (sa : Nat → Nat) (κ : KS) (k0 : Nat) (k1 : Nat) (P2 : PL) (hpre : (oI κ.2.2.2.2 25 k1).toInt ≤ 40) (hr1_4 : SL P2 sa k0 (oI κ.2.2.2.2 25 k1).toInt.toNat) : SL P2 sa k0 (oI κ.2.2.2.2 25 k1).toInt.toNat := by
  first | assumption | omega | (subst_vars; omega) | trivial
-- post2 @6
theorem vJ0_init_81219_4 (sa : Nat → Nat) (κ : KS) (k0 : Nat) (k1 : Nat) (P2 : PL) (ht0 : oT κ.2.2.2.2 k0 = 27) (ht1 : oT κ.2.2.2.2 k1 = 12) (hPV : PV sa κ.2.2.2.2) (hpre : (oI κ.2.2.2.2 25 k1).toInt ≤ 40) (hr1_2 : oT P2 k0 = 7) (hr1_3 : KPx True κ.2.2.2.2 P2) (hr1y : ∀ s9 : List Int, SBX κ.2.2.2.2 k1 s9 → TXq P2 sa k0 s9) (hr1_4 : SL P2 sa k0 (oI κ.2.2.2.2 25 k1).toInt.toNat) : ∀ s9 : List Int, SBX κ.2.2.2.2 k1 s9 → TXq P2 sa k0 s9 := by
  exact hr1y
-- grow @6
theorem vJ0_init_81219_5 (sa : Nat → Nat) (κ : KS) (k0 : Nat) (k1 : Nat) (P2 : PL) (hpre : (oI κ.2.2.2.2 25 k1).toInt ≤ 40) (hr1_4 : SL P2 sa k0 (oI κ.2.2.2.2 25 k1).toInt.toNat) : 0 + ((oI κ.2.2.2.2 25 k1).toInt.toNat) ≤ (oI κ.2.2.2.2 25 k1).toInt.toNat := by
  first | assumption | omega | (subst_vars; omega) | trivial
-- growm @6
theorem vJ0_init_81219_6 (sa : Nat → Nat) (κ : KS) (k0 : Nat) (k1 : Nat) (P2 : PL) (hpre : (oI κ.2.2.2.2 25 k1).toInt ≤ 40) (hr1_4 : SL P2 sa k0 (oI κ.2.2.2.2 25 k1).toInt.toNat) : (oI κ.2.2.2.2 25 k1).toInt.toNat ≤ (oI κ.2.2.2.2 25 k1).toInt.toNat := by
  first | assumption | omega | (subst_vars; omega) | trivial
set_option maxHeartbeats 4000000 in
set_option maxRecDepth 100000 in
theorem NJ0_init_81219 (l : Launch) (D : va_G) (cy : Nat → ClassId) (ad : Nat → Nat) (A : Nat → Prop) (sz0 : Nat) (sa : Nat → Nat)  (κ : KS) (sz sl : Nat) (hAF : ∀ q, A q → Fr sz0 q) (hAn : ∀ q : Nat, sz ≤ q → A q) (k0 : Nat) (k1 : Nat) (ht0 : oT κ.2.2.2.2 k0 = 27) (ht1 : oT κ.2.2.2.2 k1 = 12) (hPV : PV sa κ.2.2.2.2) (hpre : (oI κ.2.2.2.2 25 k1).toInt ≤ 40) : Met l yJ0_init_81219 (Cond.code yJ0_init_81219 cJ0_init_81219 2 none :: GWc) ({ frames := 4, cells := 1, slots := (oI κ.2.2.2.2 25 k1).toInt.toNat, locals := 110 }) (PcC D cy ad A sz0 sa [.ref k0, .ref k1] κ sz sl) (va_Qv (fun (u : PL) => ((EXP (fun a => ¬ a = k0) κ.2.2.2.2 u) ∧ (PV sa u) ∧ (oT u k0 = 7) ∧ (KPx True κ.2.2.2.2 u) ∧ (SL u sa k0 (oI κ.2.2.2.2 25 k1).toInt.toNat)) ∧ (∀ s9 : List Int, SBX κ.2.2.2.2 k1 s9 → TXq u sa k0 s9)) (fun (u : PL) (t : State) => Bx D cy ad A sz sl (tP κ u) (1) ((oI κ.2.2.2.2 25 k1).toInt.toNat) t) A) (1) ((oI κ.2.2.2.2 25 k1).toInt.toNat) A := by
  refine CM_of (loc0 := [(0, .ref k0), (1, .ref k1)]) (own := RJ0) (nm := "<init>") (by decide) rfl rfl rfl (Nat.le_of_ble_eq_true rfl) hAF hAn ?_
  intro p e s m below meth c ls hsz hsl C hP hS hl
  refine lv_aload_n C.x C.b dJ0_init_81219_0 rfl (lv_at hl 0 rfl) ?_
  refine lv_aload_n C.x C.b dJ0_init_81219_1 rfl (lv_at hl 1 rfl) ?_
  refine lv_null C.x C.b dJ0_init_81219_2 ?_
  refine c_callIv (C2 := "") (n := 2) (As := [.ref k1, .null]) (rest := []) C hP hS hl.1 (NJ0_init_db425 l D cy ad A sz0 sa κ s.heap.size (SLT s.heap) C.f (fun q h => C.a q (Nat.le_trans hS.1 h)) k0 k1 none ht0 ht1 hPV (vJ0_init_81219_1 κ k1 hpre)) ⟨cw_298, cw_300, by decide +kernel⟩ ⟨cw_299, cw_70⟩ rfl rfl rfl (lv_room (Nat.le_of_ble_eq_true rfl)) ⟨Nat.le_of_ble_eq_true rfl, Nat.le_of_ble_eq_true rfl⟩ ⟨(Nat.le_of_ble_eq_true rfl), (vJ0_init_81219_2 κ k1 hpre)⟩ dJ0_init_81219_3 (fun u H locs hr1 hP hS => ?_)
  obtain ⟨P2, rfl⟩ : ∃ z, z = u := ⟨_, rfl⟩
  have hP : CH D cy ad A (tP κ P2) H := hP
  obtain ⟨hr1, hr1y⟩ := hr1
  have hr1y : ∀ s9 : List Int, SBX κ.2.2.2.2 k1 s9 → TXq P2 sa k0 s9 := hr1y
  have hr1 : (EXP (fun a => ¬ a = k0) κ.2.2.2.2 P2) ∧ (PV sa P2) ∧ (oT P2 k0 = 7) ∧ (KPx True κ.2.2.2.2 P2) ∧ (SL P2 sa k0 (oI κ.2.2.2.2 25 k1).toInt.toNat) := hr1
  obtain ⟨hr1_0, hr1_1, hr1_2, hr1_3, hr1_4⟩ := hr1
  have kpz3 : KPx True κ.2.2.2.2 P2 := KPx.rf.trans hr1_3
  have xpF : EXP (fun a => ¬ a = k0) κ.2.2.2.2 P2 := (XP.rf.trans hr1_0)
  exact c_retv C hsz hsl P2 ⟨⟨xpF, hr1_1, hr1_2, kpz3, (vJ0_init_81219_3 sa κ k0 k1 P2 hpre hr1_4)⟩, (vJ0_init_81219_4 sa κ k0 k1 P2 ht0 ht1 hPV hpre hr1_2 hr1_3 hr1y hr1_4)⟩ hP hS ⟨(Nat.le_of_ble_eq_true rfl), (vJ0_init_81219_5 sa κ k0 k1 P2 hpre hr1_4)⟩ ⟨(Nat.le_of_ble_eq_true rfl), (vJ0_init_81219_6 sa κ k0 k1 P2 hpre hr1_4)⟩ dJ0_init_81219_6

-- room @0
theorem vJ4_toString_0e30d_1 (κ : KS) (k0 : Nat) (hpre : (oI κ.2.2.2.2 25 k0).toInt ≤ 40) (hc0 : 0 ≤ (oI κ.2.2.2.2 25 k0).toInt) : 0 + 4 ≤ 4 + (oI κ.2.2.2.2 25 k0).toInt.toNat := by
  first | assumption | omega | (subst_vars; omega) | trivial
-- pre:J0_init_81219@5 @5
theorem vJ4_toString_0e30d_2 (κ : KS) (k0 : Nat) (q1 : Nat) (hpre : (oI κ.2.2.2.2 25 k0).toInt ≤ 40) (hc0 : 0 ≤ (oI κ.2.2.2.2 25 k0).toInt) (ak3 : (oI (newP κ.2.2.2.2 q1 27) 25 k0).toInt = (oI κ.2.2.2.2 25 k0).toInt) (bk3 : sbL (newP κ.2.2.2.2 q1 27) k0 = sbL κ.2.2.2.2 k0) : (oI (newP κ.2.2.2.2 q1 27) 25 k0).toInt ≤ 40 := by
  first | assumption | omega | (subst_vars; omega) | trivial
-- room @5
theorem vJ4_toString_0e30d_3 (κ : KS) (k0 : Nat) (q1 : Nat) (hpre : (oI κ.2.2.2.2 25 k0).toInt ≤ 40) (hc0 : 0 ≤ (oI κ.2.2.2.2 25 k0).toInt) (ak3 : (oI (newP κ.2.2.2.2 q1 27) 25 k0).toInt = (oI κ.2.2.2.2 25 k0).toInt) (bk3 : sbL (newP κ.2.2.2.2 q1 27) k0 = sbL κ.2.2.2.2 k0) : 0 + 4 + ((oI (newP κ.2.2.2.2 q1 27) 25 k0).toInt.toNat) ≤ 4 + (oI κ.2.2.2.2 25 k0).toInt.toNat := by
  first | assumption | omega | (subst_vars; omega) | trivial
-- slen @8
theorem vJ4_toString_0e30d_4 (sa : Nat → Nat) (κ : KS) (k0 : Nat) (q1 : Nat) (P5 : PL) (hpre : (oI κ.2.2.2.2 25 k0).toInt ≤ 40) (hc0 : 0 ≤ (oI κ.2.2.2.2 25 k0).toInt) (ak3 : (oI (newP κ.2.2.2.2 q1 27) 25 k0).toInt = (oI κ.2.2.2.2 25 k0).toInt) (bk3 : sbL (newP κ.2.2.2.2 q1 27) k0 = sbL κ.2.2.2.2 k0) (hr4_4 : SL P5 sa q1 (oI (newP κ.2.2.2.2 q1 27) 25 k0).toInt.toNat) : (((oI (newP κ.2.2.2.2 q1 27) 25 k0).toInt.toNat : Nat) : Int) = (oI κ.2.2.2.2 25 k0).toInt := by
  first | assumption | omega | (subst_vars; omega) | trivial
-- post2 @8
theorem vJ4_toString_0e30d_5 (sa : Nat → Nat) (κ : KS) (k0 : Nat) (q1 : Nat) (P5 : PL) (ht0 : oT κ.2.2.2.2 k0 = 12) (hPV : PV sa κ.2.2.2.2) (hpre : (oI κ.2.2.2.2 25 k0).toInt ≤ 40) (hc0 : 0 ≤ (oI κ.2.2.2.2 25 k0).toInt) (ak3 : (oI (newP κ.2.2.2.2 q1 27) 25 k0).toInt = (oI κ.2.2.2.2 25 k0).toInt) (bk3 : sbL (newP κ.2.2.2.2 q1 27) k0 = sbL κ.2.2.2.2 k0) (exz2 : EX κ.2.2.2.2 (newP κ.2.2.2.2 q1 27)) (h0q1 : oT κ.2.2.2.2 q1 = 0) (exz6 : EX κ.2.2.2.2 P5) (hr4_2 : oT P5 q1 = 7) (hr4_3 : KPx True (newP κ.2.2.2.2 q1 27) P5) (hr4y : ∀ s9 : List Int, SBX (newP κ.2.2.2.2 q1 27) k0 s9 → TXq P5 sa q1 s9) (hr4_4 : SL P5 sa q1 (oI (newP κ.2.2.2.2 q1 27) 25 k0).toInt.toNat) : ∀ s9 : List Int, SBX κ.2.2.2.2 k0 s9 → TXq P5 sa q1 s9 := by
  intro s9 h
  obtain ⟨h1, b, h2, h3⟩ := h
  have ne : ¬ k0 = q1 := fun e => by rw [e, h0q1] at ht0; exact absurd ht0 (by decide)
  obtain ⟨b9, i1, i2, _⟩ := (hPV.t12 ht0).1
  rw [h2] at i1
  obtain rfl := Option.some.inj i1
  have nb : ¬ b = q1 := fun e => by rw [e, h0q1] at i2; exact absurd i2 (by decide)
  exact hr4y s9 ⟨by rw [show oI (newP κ.2.2.2.2 q1 27) 25 k0 = oI κ.2.2.2.2 25 k0 from upd_ne ne]; exact h1, b, (vu_ne ne).trans h2, fun k hk => by rw [show oB (newP κ.2.2.2.2 q1 27) b k = oB κ.2.2.2.2 b k from congrFun (vu_ne nb) k]; exact h3 k hk⟩
-- grow @8
theorem vJ4_toString_0e30d_6 (sa : Nat → Nat) (κ : KS) (k0 : Nat) (q1 : Nat) (P5 : PL) (hpre : (oI κ.2.2.2.2 25 k0).toInt ≤ 40) (hc0 : 0 ≤ (oI κ.2.2.2.2 25 k0).toInt) (ak3 : (oI (newP κ.2.2.2.2 q1 27) 25 k0).toInt = (oI κ.2.2.2.2 25 k0).toInt) (bk3 : sbL (newP κ.2.2.2.2 q1 27) k0 = sbL κ.2.2.2.2 k0) (hr4_4 : SL P5 sa q1 (oI (newP κ.2.2.2.2 q1 27) 25 k0).toInt.toNat) : 0 + 4 + ((oI (newP κ.2.2.2.2 q1 27) 25 k0).toInt.toNat) ≤ 4 + (oI κ.2.2.2.2 25 k0).toInt.toNat := by
  first | assumption | omega | (subst_vars; omega) | trivial
-- growm @8
theorem vJ4_toString_0e30d_7 (sa : Nat → Nat) (κ : KS) (k0 : Nat) (q1 : Nat) (P5 : PL) (hpre : (oI κ.2.2.2.2 25 k0).toInt ≤ 40) (hc0 : 0 ≤ (oI κ.2.2.2.2 25 k0).toInt) (ak3 : (oI (newP κ.2.2.2.2 q1 27) 25 k0).toInt = (oI κ.2.2.2.2 25 k0).toInt) (bk3 : sbL (newP κ.2.2.2.2 q1 27) k0 = sbL κ.2.2.2.2 k0) (hr4_4 : SL P5 sa q1 (oI (newP κ.2.2.2.2 q1 27) 25 k0).toInt.toNat) : 4 + (oI κ.2.2.2.2 25 k0).toInt.toNat ≤ 4 + (oI κ.2.2.2.2 25 k0).toInt.toNat := by
  first | assumption | omega | (subst_vars; omega) | trivial
set_option maxHeartbeats 4000000 in
set_option maxRecDepth 100000 in
theorem NJ4_toString_0e30d (l : Launch) (D : va_G) (cy : Nat → ClassId) (ad : Nat → Nat) (A : Nat → Prop) (sz0 : Nat) (sa : Nat → Nat)  (κ : KS) (sz sl : Nat) (hAF : ∀ q, A q → Fr sz0 q) (hAn : ∀ q : Nat, sz ≤ q → A q) (k0 : Nat) (ht0 : oT κ.2.2.2.2 k0 = 12) (hPV : PV sa κ.2.2.2.2) (hpre : (oI κ.2.2.2.2 25 k0).toInt ≤ 40) : Met l yJ4_toString_0e30d (Cond.code yJ4_toString_0e30d cJ4_toString_0e30d 1 (some (.object "java/lang/String")) :: GWc) ({ frames := 5, cells := 2, slots := 4 + (oI κ.2.2.2.2 25 k0).toInt.toNat, locals := 131 }) (PcC D cy ad A sz0 sa [.ref k0] κ sz sl) (va_Qq (fun (r : Option Nat) (u : PL) => ((EX κ.2.2.2.2 u) ∧ (PV sa u) ∧ (KPx True κ.2.2.2.2 u) ∧ (∃ b n, r = some b ∧ SL u sa b n ∧ ((n : Nat) : Int) = (oI κ.2.2.2.2 25 k0).toInt)) ∧ (∀ s9 : List Int, SBX κ.2.2.2.2 k0 s9 → TXq u sa (r.getD 0) s9)) (fun (u : PL) (t : State) => Bx D cy ad A sz sl (tP κ u) (2) (4 + (oI κ.2.2.2.2 25 k0).toInt.toNat) t) A) (2) (4 + (oI κ.2.2.2.2 25 k0).toInt.toNat) A := by
  refine CM_of (loc0 := [(0, .ref k0)]) (own := RJ4) (nm := "toString") (by decide) rfl rfl rfl (Nat.le_of_ble_eq_true rfl) hAF hAn ?_
  intro p e s m below meth c ls hsz hsl C hP hS hl
  have hc0 : 0 ≤ (oI κ.2.2.2.2 25 k0).toInt := (hPV.t12 ht0).2.2
  refine cn_J0 C hP hS cw_293 cw_294 cw_70 ⟨(Nat.le_of_ble_eq_true rfl), (vJ4_toString_0e30d_1 κ k0 hpre hc0)⟩ dJ4_toString_0e30d_0 (fun q1 H h0q1 hP hS => ?_)
  have exz2 : EX κ.2.2.2.2 (newP κ.2.2.2.2 q1 27) := (EX.newP h0q1)
  have ssz2 : SBS κ.2.2.2.2 (newP κ.2.2.2.2 q1 27) := SBS.newP h0q1
  have ak3 : (oI (newP κ.2.2.2.2 q1 27) 25 k0).toInt = (oI κ.2.2.2.2 25 k0).toInt := ssz2.cnt ht0
  have bk3 : sbL (newP κ.2.2.2.2 q1 27) k0 = sbL κ.2.2.2.2 k0 := ssz2.len ht0 exz2 hPV
  have kpz2 : KPx True κ.2.2.2.2 (newP κ.2.2.2.2 q1 27) := KPx.rf.newP9 hPV h0q1
  have pvz2 : PV sa (newP κ.2.2.2.2 q1 27) := (hPV.raw h0q1 (by decide))
  refine lv_dup C.x C.b dJ4_toString_0e30d_3 rfl ?_
  refine lv_aload_n C.x C.b dJ4_toString_0e30d_4 rfl (lv_at hl 0 rfl) ?_
  refine c_callIv (C2 := "") (n := 1) (As := [.ref k0]) (rest := [.ref q1]) C hP hS hl.1 (NJ0_init_81219 l D cy ad A sz0 sa (tP κ (newP κ.2.2.2.2 q1 27)) H.size (SLT H) C.f (fun q h => C.a q (Nat.le_trans hS.1 h)) q1 k0 (by show oT (newP κ.2.2.2.2 q1 27) q1 = 27; rw [newP_T, if_pos rfl]) (exz2.T ht0 (by decide)) pvz2 (vJ4_toString_0e30d_2 κ k0 q1 hpre hc0 ak3 bk3)) ⟨cw_295, cw_297, by decide +kernel⟩ ⟨cw_296, cw_70⟩ rfl rfl rfl (lv_room (Nat.le_of_ble_eq_true rfl)) ⟨Nat.le_of_ble_eq_true rfl, Nat.le_of_ble_eq_true rfl⟩ ⟨(Nat.le_of_ble_eq_true rfl), (vJ4_toString_0e30d_3 κ k0 q1 hpre hc0 ak3 bk3)⟩ dJ4_toString_0e30d_5 (fun u H locs hr4 hP hS => ?_)
  obtain ⟨P5, rfl⟩ : ∃ z, z = u := ⟨_, rfl⟩
  have hP : CH D cy ad A (tP (tP κ (newP κ.2.2.2.2 q1 27)) P5) H := hP
  obtain ⟨hr4, hr4y⟩ := hr4
  have hr4y : ∀ s9 : List Int, SBX (newP κ.2.2.2.2 q1 27) k0 s9 → TXq P5 sa q1 s9 := hr4y
  have hr4 : (EXP (fun a => ¬ a = q1) (newP κ.2.2.2.2 q1 27) P5) ∧ (PV sa P5) ∧ (oT P5 q1 = 7) ∧ (KPx True (newP κ.2.2.2.2 q1 27) P5) ∧ (SL P5 sa q1 (oI (newP κ.2.2.2.2 q1 27) 25 k0).toInt.toNat) := hr4
  obtain ⟨hr4_0, hr4_1, hr4_2, hr4_3, hr4_4⟩ := hr4
  have exz6 : EX κ.2.2.2.2 P5 := EX.cons exz2 h0q1 hr4_0
  have kpz7 : KPx True κ.2.2.2.2 P5 := kpz2.trans hr4_3
  have hP : CH D cy ad A (tP κ P5) H := CH.cong hP rfl rfl rfl rfl rfl rfl rfl rfl rfl rfl rfl rfl rfl rfl rfl rfl rfl rfl rfl rfl rfl rfl rfl rfl rfl rfl rfl
  exact c_retq (v := (some q1)) (Or.inl ⟨_, rfl⟩) C hsz hsl P5 ⟨⟨exz6, hr4_1, kpz7, ⟨q1, (oI (newP κ.2.2.2.2 q1 27) 25 k0).toInt.toNat, rfl, hr4_4, (vJ4_toString_0e30d_4 sa κ k0 q1 P5 hpre hc0 ak3 bk3 hr4_4)⟩⟩, (vJ4_toString_0e30d_5 sa κ k0 q1 P5 ht0 hPV hpre hc0 ak3 bk3 exz2 h0q1 exz6 hr4_2 hr4_3 hr4y hr4_4)⟩ hP hS ⟨(Nat.le_of_ble_eq_true rfl), (vJ4_toString_0e30d_6 sa κ k0 q1 P5 hpre hc0 ak3 bk3 hr4_4)⟩ ⟨(Nat.le_of_ble_eq_true rfl), (vJ4_toString_0e30d_7 sa κ k0 q1 P5 hpre hc0 ak3 bk3 hr4_4)⟩ dJ4_toString_0e30d_8
