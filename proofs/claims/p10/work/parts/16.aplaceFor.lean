-- init@4 @4
theorem v_placeOf_1 (σ : RS) (hpre_0 : 0 ≤ (σ.1 49).toInt) (hpre_1 : (σ.1 49).toInt ≤ 12) : ((-1 : Int32).toInt = -1 ∨ (64 ≤ (-1 : Int32).toInt ∧ (-1 : Int32).toInt < 76)) ∧ 0 ≤ (0 : Int32).toInt ∧ ((0 : Int32).toInt ≤ 0 ∨ (0 : Int32).toInt ≤ (σ.1 49).toInt) := by
  have qm1 : (-1 : Int32).toInt = (-1) := by decide +kernel
  have q0 : (0 : Int32).toInt = 0 := by decide +kernel
  refine ⟨?_, ?_, ?_⟩ <;> first | assumption | omega | (subst_vars; omega) | trivial
-- init2@4 @4
theorem v_placeOf_2 (σ : RS) (k0 : Int32) (hpre_0 : 0 ≤ (σ.1 49).toInt) (hpre_1 : (σ.1 49).toInt ≤ 12) : QPL (σ.2.1 50) (0 : Int32).toInt k0 (-1 : Int32).toInt := by
  have qm1 : (-1 : Int32).toInt = (-1) := by decide +kernel
  have q0 : (0 : Int32).toInt = 0 := by decide +kernel
  exact QPL.start (by omega) (by omega)
-- post @38
theorem v_placeOf_3 (y1 : Int32) (hi4_0 : y1.toInt = -1 ∨ (64 ≤ y1.toInt ∧ y1.toInt < 76)) : y1.toInt = -1 ∨ (64 ≤ y1.toInt ∧ y1.toInt < 76) := by
  first | assumption | omega | (subst_vars; omega) | trivial
-- post2 @38
theorem v_placeOf_4 (σ : RS) (k0 : Int32) (y1 : Int32) (y2 : Int32) (hpre_0 : 0 ≤ (σ.1 49).toInt) (hpre_1 : (σ.1 49).toInt ≤ 12) (hi4_0 : y1.toInt = -1 ∨ (64 ≤ y1.toInt ∧ y1.toInt < 76)) (hi4_1 : 0 ≤ y2.toInt) (hi4_2 : y2.toInt ≤ 0 ∨ y2.toInt ≤ (σ.1 49).toInt) (hi4y : QPL (σ.2.1 50) y2.toInt k0 y1.toInt) (c3 : (σ.1 49).toInt ≤ y2.toInt) : QPL (σ.2.1 50) (σ.1 49).toInt k0 y1.toInt := by
  rcases hi4y with ⟨h1, h2⟩ | ⟨k, h1, h2, h3⟩
  · exact Or.inl ⟨h1, fun k hk => h2 k (by omega)⟩
  · exact Or.inr ⟨k, by omega, h2, h3⟩
-- in@17 @17
theorem v_placeOf_5 (σ : RS) (y2 : Int32) (hpre_0 : 0 ≤ (σ.1 49).toInt) (hpre_1 : (σ.1 49).toInt ≤ 12) (hi4_1 : 0 ≤ y2.toInt) (hi4_2 : y2.toInt ≤ 0 ∨ y2.toInt ≤ (σ.1 49).toInt) (c3 : y2.toInt < (σ.1 49).toInt) : vp_in y2 12 := by
  exact vp_in_iff.mpr ⟨by omega, by omega⟩
-- nw@31 @31
theorem v_placeOf_6 (σ : RS) (k0 : Int32) (y2 : Int32) (x4 : Int32) (x6 : Int32) (hpre_0 : 0 ≤ (σ.1 49).toInt) (hpre_1 : (σ.1 49).toInt ≤ 12) (hi4_1 : 0 ≤ y2.toInt) (hi4_2 : y2.toInt ≤ 0 ∨ y2.toInt ≤ (σ.1 49).toInt) (c3 : y2.toInt < (σ.1 49).toInt) (ex4 : x4 = (σ.2.1 50) y2.toNatClampNeg) (tx4 : x4.toInt = ((σ.2.1 50) y2.toNatClampNeg).toInt) (c5 : ¬ x4.toInt = k0.toInt) (ex6 : x6 = y2 + (1 : Int32)) : x6.toInt = y2.toInt + 1 := by
  have q1 : (1 : Int32).toInt = 1 := by decide +kernel
  have z9 : (1 : Int32).toInt = 1 := by decide +kernel
  rw [ex6, z_add (by omega) (by omega)]; first | done | omega
-- inv@4 @4
theorem v_placeOf_7 (σ : RS) (k0 : Int32) (y1 : Int32) (y2 : Int32) (x4 : Int32) (x6 : Int32) (hpre_0 : 0 ≤ (σ.1 49).toInt) (hpre_1 : (σ.1 49).toInt ≤ 12) (hi4_0 : y1.toInt = -1 ∨ (64 ≤ y1.toInt ∧ y1.toInt < 76)) (hi4_1 : 0 ≤ y2.toInt) (hi4_2 : y2.toInt ≤ 0 ∨ y2.toInt ≤ (σ.1 49).toInt) (c3 : y2.toInt < (σ.1 49).toInt) (ex4 : x4 = (σ.2.1 50) y2.toNatClampNeg) (tx4 : x4.toInt = ((σ.2.1 50) y2.toNatClampNeg).toInt) (c5 : ¬ x4.toInt = k0.toInt) (ex6 : x6 = y2 + (1 : Int32)) (tx6 : x6.toInt = y2.toInt + 1) : (y1.toInt = -1 ∨ (64 ≤ y1.toInt ∧ y1.toInt < 76)) ∧ 0 ≤ x6.toInt ∧ (x6.toInt ≤ 0 ∨ x6.toInt ≤ (σ.1 49).toInt) := by
  have q1 : (1 : Int32).toInt = 1 := by decide +kernel
  refine ⟨?_, ?_, ?_⟩ <;> first | assumption | omega | (subst_vars; omega) | trivial
-- inv2@4 @4
theorem v_placeOf_8 (σ : RS) (k0 : Int32) (y1 : Int32) (y2 : Int32) (x4 : Int32) (x6 : Int32) (hpre_0 : 0 ≤ (σ.1 49).toInt) (hpre_1 : (σ.1 49).toInt ≤ 12) (hi4_0 : y1.toInt = -1 ∨ (64 ≤ y1.toInt ∧ y1.toInt < 76)) (hi4_1 : 0 ≤ y2.toInt) (hi4_2 : y2.toInt ≤ 0 ∨ y2.toInt ≤ (σ.1 49).toInt) (hi4y : QPL (σ.2.1 50) y2.toInt k0 y1.toInt) (c3 : y2.toInt < (σ.1 49).toInt) (ex4 : x4 = (σ.2.1 50) y2.toNatClampNeg) (tx4 : x4.toInt = ((σ.2.1 50) y2.toNatClampNeg).toInt) (c5 : ¬ x4.toInt = k0.toInt) (ex6 : x6 = y2 + (1 : Int32)) (tx6 : x6.toInt = y2.toInt + 1) : QPL (σ.2.1 50) x6.toInt k0 y1.toInt := by
  have q1 : (1 : Int32).toInt = 1 := by decide +kernel
  exact hi4y.miss (k := y2.toInt.toNat) (by omega) (by omega) (by rw [← clampN y2, ← ex4]; intro h; have h := congrArg Int32.toInt h; omega) (by omega)
-- meas@4 @4
theorem v_placeOf_9 (σ : RS) (k0 : Int32) (y2 : Int32) (x4 : Int32) (x6 : Int32) (hpre_0 : 0 ≤ (σ.1 49).toInt) (hpre_1 : (σ.1 49).toInt ≤ 12) (hi4_1 : 0 ≤ y2.toInt) (hi4_2 : y2.toInt ≤ 0 ∨ y2.toInt ≤ (σ.1 49).toInt) (c3 : y2.toInt < (σ.1 49).toInt) (ex4 : x4 = (σ.2.1 50) y2.toNatClampNeg) (tx4 : x4.toInt = ((σ.2.1 50) y2.toNatClampNeg).toInt) (c5 : ¬ x4.toInt = k0.toInt) (ex6 : x6 = y2 + (1 : Int32)) (tx6 : x6.toInt = y2.toInt + 1) : ((σ.1 49).toInt - x6.toInt).toNat < ((σ.1 49).toInt - y2.toInt).toNat := by
  have q1 : (1 : Int32).toInt = 1 := by decide +kernel
  first | assumption | omega | (subst_vars; omega) | trivial
-- nw@25 @25
theorem v_placeOf_10 (σ : RS) (k0 : Int32) (y2 : Int32) (x4 : Int32) (x7 : Int32) (hpre_0 : 0 ≤ (σ.1 49).toInt) (hpre_1 : (σ.1 49).toInt ≤ 12) (hi4_1 : 0 ≤ y2.toInt) (hi4_2 : y2.toInt ≤ 0 ∨ y2.toInt ≤ (σ.1 49).toInt) (c3 : y2.toInt < (σ.1 49).toInt) (ex4 : x4 = (σ.2.1 50) y2.toNatClampNeg) (tx4 : x4.toInt = ((σ.2.1 50) y2.toNatClampNeg).toInt) (c5 : x4.toInt = k0.toInt) (ex7 : x7 = (64 : Int32) + y2) : x7.toInt = 64 + y2.toInt := by
  have q64 : (64 : Int32).toInt = 64 := by decide +kernel
  have w0 : (64 : Int32).toInt = 64 := by decide +kernel
  rw [ex7, z_add (by omega) (by omega)]; first | done | omega
-- nw@31 @31
theorem v_placeOf_11 (σ : RS) (k0 : Int32) (y2 : Int32) (x4 : Int32) (x7 : Int32) (x8 : Int32) (hpre_0 : 0 ≤ (σ.1 49).toInt) (hpre_1 : (σ.1 49).toInt ≤ 12) (hi4_1 : 0 ≤ y2.toInt) (hi4_2 : y2.toInt ≤ 0 ∨ y2.toInt ≤ (σ.1 49).toInt) (c3 : y2.toInt < (σ.1 49).toInt) (ex4 : x4 = (σ.2.1 50) y2.toNatClampNeg) (tx4 : x4.toInt = ((σ.2.1 50) y2.toNatClampNeg).toInt) (c5 : x4.toInt = k0.toInt) (ex7 : x7 = (64 : Int32) + y2) (tx7 : x7.toInt = 64 + y2.toInt) (ex8 : x8 = y2 + (1 : Int32)) : x8.toInt = y2.toInt + 1 := by
  have q1 : (1 : Int32).toInt = 1 := by decide +kernel
  have q64 : (64 : Int32).toInt = 64 := by decide +kernel
  have z9 : (1 : Int32).toInt = 1 := by decide +kernel
  rw [ex8, z_add (by omega) (by omega)]; first | done | omega
-- inv@4 @4
theorem v_placeOf_12 (σ : RS) (k0 : Int32) (y2 : Int32) (x4 : Int32) (x7 : Int32) (x8 : Int32) (hpre_0 : 0 ≤ (σ.1 49).toInt) (hpre_1 : (σ.1 49).toInt ≤ 12) (hi4_1 : 0 ≤ y2.toInt) (hi4_2 : y2.toInt ≤ 0 ∨ y2.toInt ≤ (σ.1 49).toInt) (c3 : y2.toInt < (σ.1 49).toInt) (ex4 : x4 = (σ.2.1 50) y2.toNatClampNeg) (tx4 : x4.toInt = ((σ.2.1 50) y2.toNatClampNeg).toInt) (c5 : x4.toInt = k0.toInt) (ex7 : x7 = (64 : Int32) + y2) (tx7 : x7.toInt = 64 + y2.toInt) (ex8 : x8 = y2 + (1 : Int32)) (tx8 : x8.toInt = y2.toInt + 1) : (x7.toInt = -1 ∨ (64 ≤ x7.toInt ∧ x7.toInt < 76)) ∧ 0 ≤ x8.toInt ∧ (x8.toInt ≤ 0 ∨ x8.toInt ≤ (σ.1 49).toInt) := by
  have q1 : (1 : Int32).toInt = 1 := by decide +kernel
  have q64 : (64 : Int32).toInt = 64 := by decide +kernel
  refine ⟨?_, ?_, ?_⟩ <;> first | assumption | omega | (subst_vars; omega) | trivial
-- inv2@4 @4
theorem v_placeOf_13 (σ : RS) (k0 : Int32) (y1 : Int32) (y2 : Int32) (x4 : Int32) (x7 : Int32) (x8 : Int32) (hpre_0 : 0 ≤ (σ.1 49).toInt) (hpre_1 : (σ.1 49).toInt ≤ 12) (hi4_0 : y1.toInt = -1 ∨ (64 ≤ y1.toInt ∧ y1.toInt < 76)) (hi4_1 : 0 ≤ y2.toInt) (hi4_2 : y2.toInt ≤ 0 ∨ y2.toInt ≤ (σ.1 49).toInt) (hi4y : QPL (σ.2.1 50) y2.toInt k0 y1.toInt) (c3 : y2.toInt < (σ.1 49).toInt) (ex4 : x4 = (σ.2.1 50) y2.toNatClampNeg) (tx4 : x4.toInt = ((σ.2.1 50) y2.toNatClampNeg).toInt) (c5 : x4.toInt = k0.toInt) (ex7 : x7 = (64 : Int32) + y2) (tx7 : x7.toInt = 64 + y2.toInt) (ex8 : x8 = y2 + (1 : Int32)) (tx8 : x8.toInt = y2.toInt + 1) : QPL (σ.2.1 50) x8.toInt k0 x7.toInt := by
  have q1 : (1 : Int32).toInt = 1 := by decide +kernel
  have q64 : (64 : Int32).toInt = 64 := by decide +kernel
  exact QPL.hit (k := y2.toInt.toNat) (by omega) (by rw [← clampN y2, ← ex4]; exact Int32.toInt_inj.mp (by omega)) (by omega)
-- meas@4 @4
theorem v_placeOf_14 (σ : RS) (k0 : Int32) (y2 : Int32) (x4 : Int32) (x7 : Int32) (x8 : Int32) (hpre_0 : 0 ≤ (σ.1 49).toInt) (hpre_1 : (σ.1 49).toInt ≤ 12) (hi4_1 : 0 ≤ y2.toInt) (hi4_2 : y2.toInt ≤ 0 ∨ y2.toInt ≤ (σ.1 49).toInt) (c3 : y2.toInt < (σ.1 49).toInt) (ex4 : x4 = (σ.2.1 50) y2.toNatClampNeg) (tx4 : x4.toInt = ((σ.2.1 50) y2.toNatClampNeg).toInt) (c5 : x4.toInt = k0.toInt) (ex7 : x7 = (64 : Int32) + y2) (tx7 : x7.toInt = 64 + y2.toInt) (ex8 : x8 = y2 + (1 : Int32)) (tx8 : x8.toInt = y2.toInt + 1) : ((σ.1 49).toInt - x8.toInt).toNat < ((σ.1 49).toInt - y2.toInt).toNat := by
  have q1 : (1 : Int32).toInt = 1 := by decide +kernel
  have q64 : (64 : Int32).toInt = 64 := by decide +kernel
  first | assumption | omega | (subst_vars; omega) | trivial
set_option maxHeartbeats 4000000 in
set_option maxRecDepth 100000 in
theorem L_placeOf_4_1 {p : Program} {e : Env} {s : State} {m : MethodId} {below : List Frame} {meth : Method} {c : Code} (l : Launch) (D : va_G) (cy : Nat → ClassId) (sz0 : Nat) (sa : Nat → Nat) (ad : Nat → Nat) (sz : Nat) (σ : RS) (k0 : Int32) (C : RC p s m #[.ref (ad 0), .int k0] meth c cX12_placeOf 4 (some .int) D cy sz0 sa ad (AR cy ad sz)) (hpre_0 : 0 ≤ (σ.1 49).toInt) (hpre_1 : (σ.1 49).toInt ≤ 12) : ∀ (n : Nat) (y1 : Int32) (y2 : Int32) (H : Heap) (locs : List Loc) (ls : Array Slot), ((σ.1 49).toInt - y2.toInt).toNat < n → (((y1.toInt = -1 ∨ (64 ≤ y1.toInt ∧ y1.toInt < 76)) ∧ 0 ≤ y2.toInt ∧ (y2.toInt ≤ 0 ∨ y2.toInt ≤ (σ.1 49).toInt)) ∧ (QPL (σ.2.1 50) y2.toInt k0 y1.toInt)) → RP D cy ad σ H → va_S (AR cy ad sz) s.heap H locs → lv_has ls 4 [(3, .int y2), (2, .int y1), (0, .ref (ad 0)), (1, .int k0)] → W p l e (headSpec (Cond.code yX12_placeOf cX12_placeOf 4 (some .int) :: GWm) ({ frames := 0, cells := 0, slots := 0, locals := 0 })).room s m #[.ref (ad 0), .int k0] below meth c H locs 0 0 (MQ below (va_Qi (fun (r : Int32) (u : Unit) => (r.toInt = -1 ∨ (64 ≤ r.toInt ∧ r.toInt < 76)) ∧ (QPL (σ.2.1 50) (σ.1 49).toInt k0 r.toInt)) (fun (u : Unit) (t : State) => RP D cy ad σ t.heap) (AR cy ad sz)) #[.ref (ad 0), .int k0] s 0 0 (AR cy ad sz)) (F0 m 4 ls []) := by
  have hx := C.1
  have hb := C.2.1
  have hown := C.2.2.2.2.1
  have hw := C.2.2.2.2.2.1
  intro n
  induction n with
  | zero => intro y1 y2 H locs ls hn; exact absurd hn (Nat.not_lt_zero _)
  | succ n ih4 =>
    intro y1 y2 H locs ls hn4 hi4 hP hS hl
    obtain ⟨hi4, hi4y⟩ := hi4
    obtain ⟨hi4_0, hi4_1, hi4_2⟩ := hi4
    refine lv_iload_n hx hb dX12_placeOf_4 rfl (lv_at hl 0 rfl) ?_
    refine lv_aload_n hx hb dX12_placeOf_5 rfl (lv_at hl 2 rfl) ?_
    refine rg_49 (v := (σ.1 49)) C hP rfl wm_348 dX12_placeOf_6 ?_
    refine lv_icmp_ge (tgt := 37) hx hb dX12_placeOf_9 (by decide) (fun c3 => ?_) (fun c3 => ?_)
    · have c3 : (σ.1 49).toInt ≤ y2.toInt := by have h := z_le c3; exact h
      refine lv_iload_n hx hb dX12_placeOf_37 rfl (lv_at hl 1 rfl) ?_
      exact r_reti C () ⟨(v_placeOf_3 y1 hi4_0), (v_placeOf_4 σ k0 y1 y2 hpre_0 hpre_1 hi4_0 hi4_1 hi4_2 hi4y c3)⟩ hP hS dX12_placeOf_38
    · have c3 : y2.toInt < (σ.1 49).toInt := by have h := z_nle c3; exact h
      refine lv_aload_n hx hb dX12_placeOf_12 rfl (lv_at hl 2 rfl) ?_
      refine rg_50 C hP wm_349 dX12_placeOf_13 ?_
      refine lv_iload_n hx hb dX12_placeOf_16 rfl (lv_at hl 0 rfl) ?_
      refine ra_50 (f := (σ.2.1 50)) C hP rfl (v_placeOf_5 σ y2 hpre_0 hpre_1 hi4_1 hi4_2 c3) dX12_placeOf_17 (fun x4 ex4 => ?_)
      have tx4 : x4.toInt = ((σ.2.1 50) y2.toNatClampNeg).toInt := by rw [ex4]
      refine lv_iload_n hx hb dX12_placeOf_18 rfl (lv_at hl 3 rfl) ?_
      refine lv_icmp_ne (tgt := 29) hx hb dX12_placeOf_19 (by decide) (fun c5 => ?_) (fun c5 => ?_)
      · have c5 : ¬ x4.toInt = k0.toInt := by have h := z_ne c5; exact h
        refine lv_iload_n hx hb dX12_placeOf_29 rfl (lv_at hl 1 rfl) ?_
        refine lv_istore_n (lv' := [(2, .int y1), (3, .int y2), (0, .ref (ad 0)), (1, .int k0)]) hx hb dX12_placeOf_30 rfl hl (by decide) rfl (fun ls hl => ?_)
        obtain ⟨x6, ex6⟩ : ∃ y : Int32, y = y2 + (1 : Int32) := ⟨_, rfl⟩
        have tx6 : x6.toInt = y2.toInt + 1 := (v_placeOf_6 σ k0 y2 x4 x6 hpre_0 hpre_1 hi4_1 hi4_2 c3 ex4 tx4 c5 ex6)
        refine lv_iinc (v := x6) (lv' := [(3, .int x6), (2, .int y1), (0, .ref (ad 0)), (1, .int k0)]) hx hb dX12_placeOf_31 hl (k := 1) rfl (by rw [ex6]; rfl) (by decide) rfl (fun ls hl => ?_)
        refine lv_goto (tgt := 4) hx hb dX12_placeOf_34 (by decide) ?_
        exact ih4 y1 x6 _ _ _ (Nat.lt_of_lt_of_le (v_placeOf_9 σ k0 y2 x4 x6 hpre_0 hpre_1 hi4_1 hi4_2 c3 ex4 tx4 c5 ex6 tx6) (Nat.le_of_lt_succ hn4)) ⟨(v_placeOf_7 σ k0 y1 y2 x4 x6 hpre_0 hpre_1 hi4_0 hi4_1 hi4_2 c3 ex4 tx4 c5 ex6 tx6), (v_placeOf_8 σ k0 y1 y2 x4 x6 hpre_0 hpre_1 hi4_0 hi4_1 hi4_2 hi4y c3 ex4 tx4 c5 ex6 tx6)⟩ hP hS (lv_sub hl [0, 1, 2, 3] rfl)
      · have c5 : x4.toInt = k0.toInt := by have h := z_eq c5; exact h
        refine lv_bipush (v := 64) hx hb dX12_placeOf_22 (by decide +kernel) ?_
        refine lv_iload_n hx hb dX12_placeOf_24 rfl (lv_at hl 0 rfl) ?_
        refine lv_iadd hx hb dX12_placeOf_25 ?_
        refine lv_topi (fun x7 ex7 => ?_)
        have tx7 : x7.toInt = 64 + y2.toInt := (v_placeOf_10 σ k0 y2 x4 x7 hpre_0 hpre_1 hi4_1 hi4_2 c3 ex4 tx4 c5 ex7)
        refine lv_goto (tgt := 30) hx hb dX12_placeOf_26 (by decide) ?_
        refine lv_istore_n (lv' := [(2, .int x7), (3, .int y2), (0, .ref (ad 0)), (1, .int k0)]) hx hb dX12_placeOf_30 rfl hl (by decide) rfl (fun ls hl => ?_)
        obtain ⟨x8, ex8⟩ : ∃ y : Int32, y = y2 + (1 : Int32) := ⟨_, rfl⟩
        have tx8 : x8.toInt = y2.toInt + 1 := (v_placeOf_11 σ k0 y2 x4 x7 x8 hpre_0 hpre_1 hi4_1 hi4_2 c3 ex4 tx4 c5 ex7 tx7 ex8)
        refine lv_iinc (v := x8) (lv' := [(3, .int x8), (2, .int x7), (0, .ref (ad 0)), (1, .int k0)]) hx hb dX12_placeOf_31 hl (k := 1) rfl (by rw [ex8]; rfl) (by decide) rfl (fun ls hl => ?_)
        refine lv_goto (tgt := 4) hx hb dX12_placeOf_34 (by decide) ?_
        exact ih4 x7 x8 _ _ _ (Nat.lt_of_lt_of_le (v_placeOf_14 σ k0 y2 x4 x7 x8 hpre_0 hpre_1 hi4_1 hi4_2 c3 ex4 tx4 c5 ex7 tx7 ex8 tx8) (Nat.le_of_lt_succ hn4)) ⟨(v_placeOf_12 σ k0 y2 x4 x7 x8 hpre_0 hpre_1 hi4_1 hi4_2 c3 ex4 tx4 c5 ex7 tx7 ex8 tx8), (v_placeOf_13 σ k0 y1 y2 x4 x7 x8 hpre_0 hpre_1 hi4_0 hi4_1 hi4_2 hi4y c3 ex4 tx4 c5 ex7 tx7 ex8 tx8)⟩ hP hS (lv_sub hl [0, 1, 2, 3] rfl)
set_option maxHeartbeats 4000000 in
set_option maxRecDepth 100000 in
theorem M_placeOf (l : Launch) (D : va_G) (cy : Nat → ClassId) (sz0 : Nat) (sa : Nat → Nat) (ad : Nat → Nat) (σ : RS) (sz : Nat) (k0 : Int32) (hpre : 0 ≤ (σ.1 49).toInt ∧ (σ.1 49).toInt ≤ 12) : Met l yX12_placeOf (Cond.code yX12_placeOf cX12_placeOf 4 (some .int) :: GWm) ({ frames := 0, cells := 0, slots := 0, locals := 0 }) (PcR D cy sz0 sa ad [.ref (ad 0), .int k0] σ sz) (va_Qi (fun (r : Int32) (u : Unit) => (r.toInt = -1 ∨ (64 ≤ r.toInt ∧ r.toInt < 76)) ∧ (QPL (σ.2.1 50) (σ.1 49).toInt k0 r.toInt)) (fun (u : Unit) (t : State) => RP D cy ad σ t.heap) (AR cy ad sz)) 0 0 (AR cy ad sz) := by
  refine RM_of (loc0 := [(0, .ref (ad 0)), (1, .int k0)]) (by decide) rfl rfl (Nat.le_of_ble_eq_true rfl) ?_
  intro p e s m below meth c ls hsz C hP hS hl
  have hx := C.1
  have hb := C.2.1
  have hown := C.2.2.2.2.1
  have hw := C.2.2.2.2.2.1
  clear hsz
  obtain ⟨hpre_0, hpre_1⟩ := hpre
  refine lv_iconst (v := (-1)) hx hb dX12_placeOf_0 (by decide +kernel) ?_
  refine lv_istore_n (lv' := [(2, .int (-1)), (0, .ref (ad 0)), (1, .int k0)]) hx hb dX12_placeOf_1 rfl hl (by decide) rfl (fun ls hl => ?_)
  refine lv_iconst (v := 0) hx hb dX12_placeOf_2 (by decide +kernel) ?_
  refine lv_istore_n (lv' := [(3, .int 0), (2, .int (-1)), (0, .ref (ad 0)), (1, .int k0)]) hx hb dX12_placeOf_3 rfl hl (by decide) rfl (fun ls hl => ?_)
  exact L_placeOf_4_1 l D cy sz0 sa ad sz σ k0 C hpre_0 hpre_1 (((σ.1 49).toInt - (0 : Int32).toInt).toNat + 1) (-1 : Int32) (0 : Int32) _ _ _ (Nat.lt_succ_self _) ⟨(v_placeOf_1 σ hpre_0 hpre_1), (v_placeOf_2 σ k0 hpre_0 hpre_1)⟩ hP hS (lv_sub hl [0, 1, 2, 3] rfl)

-- pre:placeOf@2 @2
theorem v_placeFor_1 (σ : RS) (hpre_0 : 0 ≤ (σ.1 49).toInt) (hpre_1 : (σ.1 49).toInt ≤ 12) : 0 ≤ (σ.1 49).toInt ∧ (σ.1 49).toInt ≤ 12 := by
  refine ⟨?_, ?_⟩ <;> first | assumption | omega | (subst_vars; omega) | trivial
-- post @48
theorem v_placeFor_2 (σ : RS) (r1 : Int32) (hpre_0 : 0 ≤ (σ.1 49).toInt) (hpre_1 : (σ.1 49).toInt ≤ 12) (hr1 : r1.toInt = -1 ∨ (64 ≤ r1.toInt ∧ r1.toInt < 76)) (c2 : 0 ≤ r1.toInt) : 0 ≤ (σ.1 49).toInt ∧ (σ.1 49).toInt ≤ 12 ∧ (r1.toInt = -1 ∨ (64 ≤ r1.toInt ∧ r1.toInt < 76)) := by
  refine ⟨?_, ?_, ?_⟩ <;> first | assumption | omega | (subst_vars; omega) | trivial
-- post2 @48
theorem v_placeFor_3 (σ : RS) (k0 : Int32) (r1 : Int32) (hpre_0 : 0 ≤ (σ.1 49).toInt) (hpre_1 : (σ.1 49).toInt ≤ 12) (hr1y : QPL (σ.2.1 50) (σ.1 49).toInt k0 r1.toInt) (hr1 : r1.toInt = -1 ∨ (64 ≤ r1.toInt ∧ r1.toInt < 76)) (c2 : 0 ≤ r1.toInt) : QPF (σ.2.1 50) (σ.2.1 50) (σ.1 49).toInt (σ.1 49).toInt k0 r1.toInt := by
  rcases hr1y with ⟨h1, h2⟩ | ⟨k, h1, h2, h3⟩
  · first
    | exact Or.inr (Or.inl ⟨h2, by omega, by omega, by rw [clampN], by omega⟩)
    | exact Or.inr (Or.inr ⟨h2, by omega, rfl, rfl, by omega⟩)
    | (exfalso; omega)
  · first
    | exact Or.inl ⟨rfl, rfl, k, h1, h2, h3⟩
    | (exfalso; omega)
-- post @48
theorem v_placeFor_4 (σ : RS) (r1 : Int32) (hpre_0 : 0 ≤ (σ.1 49).toInt) (hpre_1 : (σ.1 49).toInt ≤ 12) (hr1 : r1.toInt = -1 ∨ (64 ≤ r1.toInt ∧ r1.toInt < 76)) (c2 : r1.toInt < 0) (c3 : 12 ≤ (σ.1 49).toInt) : 0 ≤ (σ.1 49).toInt ∧ (σ.1 49).toInt ≤ 12 ∧ (r1.toInt = -1 ∨ (64 ≤ r1.toInt ∧ r1.toInt < 76)) := by
  refine ⟨?_, ?_, ?_⟩ <;> first | assumption | omega | (subst_vars; omega) | trivial
-- post2 @48
theorem v_placeFor_5 (σ : RS) (k0 : Int32) (r1 : Int32) (hpre_0 : 0 ≤ (σ.1 49).toInt) (hpre_1 : (σ.1 49).toInt ≤ 12) (hr1y : QPL (σ.2.1 50) (σ.1 49).toInt k0 r1.toInt) (hr1 : r1.toInt = -1 ∨ (64 ≤ r1.toInt ∧ r1.toInt < 76)) (c2 : r1.toInt < 0) (c3 : 12 ≤ (σ.1 49).toInt) : QPF (σ.2.1 50) (σ.2.1 50) (σ.1 49).toInt (σ.1 49).toInt k0 r1.toInt := by
  rcases hr1y with ⟨h1, h2⟩ | ⟨k, h1, h2, h3⟩
  · first
    | exact Or.inr (Or.inl ⟨h2, by omega, by omega, by rw [clampN], by omega⟩)
    | exact Or.inr (Or.inr ⟨h2, by omega, rfl, rfl, by omega⟩)
    | (exfalso; omega)
  · first
    | exact Or.inl ⟨rfl, rfl, k, h1, h2, h3⟩
    | (exfalso; omega)
-- in@28 @28
theorem v_placeFor_6 (σ : RS) (hpre_0 : 0 ≤ (σ.1 49).toInt) (hpre_1 : (σ.1 49).toInt ≤ 12) (c3 : (σ.1 49).toInt < 12) : vp_in (σ.1 49) 12 := by
  exact vp_in_iff.mpr ⟨by omega, by omega⟩
-- nw@35 @35
theorem v_placeFor_7 (σ : RS) (x4 : Int32) (hpre_0 : 0 ≤ (σ.1 49).toInt) (hpre_1 : (σ.1 49).toInt ≤ 12) (c3 : (σ.1 49).toInt < 12) (ex4 : x4 = (64 : Int32) + (σ.1 49)) : x4.toInt = 64 + (σ.1 49).toInt := by
  have q64 : (64 : Int32).toInt = 64 := by decide +kernel
  have w0 : (64 : Int32).toInt = 64 := by decide +kernel
  rw [ex4, z_add (by omega) (by omega)]; first | done | omega
-- nw@43 @43
theorem v_placeFor_8 (σ : RS) (x4 : Int32) (x5 : Int32) (hpre_0 : 0 ≤ (σ.1 49).toInt) (hpre_1 : (σ.1 49).toInt ≤ 12) (c3 : (σ.1 49).toInt < 12) (ex4 : x4 = (64 : Int32) + (σ.1 49)) (tx4 : x4.toInt = 64 + (σ.1 49).toInt) (ex5 : x5 = (σ.1 49) + (1 : Int32)) : x5.toInt = (σ.1 49).toInt + 1 := by
  have q1 : (1 : Int32).toInt = 1 := by decide +kernel
  have q64 : (64 : Int32).toInt = 64 := by decide +kernel
  have w1 : (1 : Int32).toInt = 1 := by decide +kernel
  rw [ex5, z_add (by omega) (by omega)]; first | done | omega
-- post @48
theorem v_placeFor_9 (σ : RS) (x4 : Int32) (x5 : Int32) (hpre_0 : 0 ≤ (σ.1 49).toInt) (hpre_1 : (σ.1 49).toInt ≤ 12) (c3 : (σ.1 49).toInt < 12) (ex4 : x4 = (64 : Int32) + (σ.1 49)) (tx4 : x4.toInt = 64 + (σ.1 49).toInt) (ex5 : x5 = (σ.1 49) + (1 : Int32)) (tx5 : x5.toInt = (σ.1 49).toInt + 1) : 0 ≤ x5.toInt ∧ x5.toInt ≤ 12 ∧ (x4.toInt = -1 ∨ (64 ≤ x4.toInt ∧ x4.toInt < 76)) := by
  have q1 : (1 : Int32).toInt = 1 := by decide +kernel
  have q64 : (64 : Int32).toInt = 64 := by decide +kernel
  refine ⟨?_, ?_, ?_⟩ <;> first | assumption | omega | (subst_vars; omega) | trivial
-- post2 @48
theorem v_placeFor_10 (σ : RS) (k0 : Int32) (r1 : Int32) (x4 : Int32) (x5 : Int32) (hpre_0 : 0 ≤ (σ.1 49).toInt) (hpre_1 : (σ.1 49).toInt ≤ 12) (hr1y : QPL (σ.2.1 50) (σ.1 49).toInt k0 r1.toInt) (hr1 : r1.toInt = -1 ∨ (64 ≤ r1.toInt ∧ r1.toInt < 76)) (c2 : r1.toInt < 0) (c3 : (σ.1 49).toInt < 12) (ex4 : x4 = (64 : Int32) + (σ.1 49)) (tx4 : x4.toInt = 64 + (σ.1 49).toInt) (ex5 : x5 = (σ.1 49) + (1 : Int32)) (tx5 : x5.toInt = (σ.1 49).toInt + 1) : QPF (σ.2.1 50) (upd (σ.2.1 50) (σ.1 49).toNatClampNeg k0) (σ.1 49).toInt x5.toInt k0 x4.toInt := by
  have q1 : (1 : Int32).toInt = 1 := by decide +kernel
  have q64 : (64 : Int32).toInt = 64 := by decide +kernel
  rcases hr1y with ⟨h1, h2⟩ | ⟨k, h1, h2, h3⟩
  · first
    | exact Or.inr (Or.inl ⟨h2, by omega, by omega, by rw [clampN], by omega⟩)
    | exact Or.inr (Or.inr ⟨h2, by omega, rfl, rfl, by omega⟩)
    | (exfalso; omega)
  · first
    | exact Or.inl ⟨rfl, rfl, k, h1, h2, h3⟩
    | (exfalso; omega)
set_option maxHeartbeats 4000000 in
set_option maxRecDepth 100000 in
theorem M_placeFor (l : Launch) (D : va_G) (cy : Nat → ClassId) (sz0 : Nat) (sa : Nat → Nat) (ad : Nat → Nat) (σ : RS) (sz : Nat) (k0 : Int32) (hpre : 0 ≤ (σ.1 49).toInt ∧ (σ.1 49).toInt ≤ 12) : Met l yX12_placeFor (Cond.code yX12_placeFor cX12_placeFor 3 (some .int) :: GWm) ({ frames := 1, cells := 0, slots := 0, locals := 23 }) (PcR D cy sz0 sa ad [.ref (ad 0), .int k0] σ sz) (va_Qi (fun (r : Int32) (u : (Nat → Int32) × Int32) => (0 ≤ u.2.toInt ∧ u.2.toInt ≤ 12 ∧ (r.toInt = -1 ∨ (64 ≤ r.toInt ∧ r.toInt < 76))) ∧ (QPF (σ.2.1 50) u.1 (σ.1 49).toInt u.2.toInt k0 r.toInt)) (fun (u : (Nat → Int32) × Int32) (t : State) => RP D cy ad (rS (rA σ 50 u.1) 49 u.2) t.heap) (AR cy ad sz)) 0 0 (AR cy ad sz) := by
  refine RM_of (loc0 := [(0, .ref (ad 0)), (1, .int k0)]) (by decide) rfl rfl (Nat.le_of_ble_eq_true rfl) ?_
  intro p e s m below meth c ls hsz C hP hS hl
  have hx := C.1
  have hb := C.2.1
  have hown := C.2.2.2.2.1
  have hw := C.2.2.2.2.2.1
  clear hsz
  obtain ⟨hpre_0, hpre_1⟩ := hpre
  refine lv_aload_n hx hb dX12_placeFor_0 rfl (lv_at hl 0 rfl) ?_
  refine lv_iload_n hx hb dX12_placeFor_1 rfl (lv_at hl 1 rfl) ?_
  refine r_callVi (As := [.int k0]) (rest := []) C hP hS hl.1 ⟨Nat.zero_le _, Nat.zero_le _⟩ (M_placeOf l D cy sz0 sa ad σ s.heap.size k0 (v_placeFor_1 σ hpre_0 hpre_1)) (n := 1) ⟨wm_351, wm_347, by decide +kernel⟩ ⟨wm_352, wm_353, wm_10⟩ rfl rfl (lv_room (Nat.le_of_ble_eq_true rfl)) ⟨Nat.le_of_ble_eq_true rfl, Nat.le_of_ble_eq_true rfl⟩ dX12_placeFor_2 (fun r1 u H locs hr1 hP hS => ?_)
  obtain ⟨hr1, hr1y⟩ := hr1
  have hr1y : QPL (σ.2.1 50) (σ.1 49).toInt k0 r1.toInt := hr1y
  have hr1 : r1.toInt = -1 ∨ (64 ≤ r1.toInt ∧ r1.toInt < 76) := hr1
  refine lv_istore_n (lv' := [(2, .int r1), (0, .ref (ad 0)), (1, .int k0)]) hx hb dX12_placeFor_5 rfl hl (by decide) rfl (fun ls hl => ?_)
  refine lv_iload_n hx hb dX12_placeFor_6 rfl (lv_at hl 0 rfl) ?_
  refine lv_if_ge (tgt := 47) hx hb dX12_placeFor_7 (by decide) (fun c2 => ?_) (fun c2 => ?_)
  · have c2 : 0 ≤ r1.toInt := by have h := z_le c2; rw [show (0 : Int32).toInt = 0 from by decide +kernel] at h; exact h
    refine lv_iload_n hx hb dX12_placeFor_47 rfl (lv_at hl 0 rfl) ?_
    have hP : RP D cy ad (rS (rA σ 50 (σ.2.1 50)) 49 (σ.1 49)) H := RP.cong hP (Eq.trans (b := (σ.1 0)) rfl rfl) (Eq.trans (b := (σ.1 1)) rfl rfl) (Eq.trans (b := (σ.2.1 2)) rfl rfl) (Eq.trans (b := (σ.1 3)) rfl rfl) (Eq.trans (b := (σ.2.1 4)) rfl rfl) (Eq.trans (b := (σ.2.1 5)) rfl rfl) (Eq.trans (b := (σ.2.2.1 6)) rfl rfl) (Eq.trans (b := (σ.2.1 7)) rfl rfl) (Eq.trans (b := (σ.1 8)) rfl rfl) (Eq.trans (b := (σ.1 9)) rfl rfl) (Eq.trans (b := (σ.1 10)) rfl rfl) (Eq.trans (b := (σ.2.1 11)) rfl rfl) (Eq.trans (b := (σ.2.2.1 12)) rfl rfl) (Eq.trans (b := (σ.2.1 13)) rfl rfl) (Eq.trans (b := (σ.1 14)) rfl rfl) (Eq.trans (b := (σ.1 15)) rfl rfl) (Eq.trans (b := (σ.1 16)) rfl rfl) (Eq.trans (b := (σ.1 17)) rfl rfl) (Eq.trans (b := (σ.1 18)) rfl rfl) (Eq.trans (b := (σ.1 19)) rfl rfl) (Eq.trans (b := (σ.2.1 20)) rfl rfl) (Eq.trans (b := (σ.2.1 21)) rfl rfl) (Eq.trans (b := (σ.2.1 22)) rfl rfl) (Eq.trans (b := (σ.2.1 23)) rfl rfl) (Eq.trans (b := (σ.2.1 24)) rfl rfl) (Eq.trans (b := (σ.2.1 25)) rfl rfl) (Eq.trans (b := (σ.2.1 26)) rfl rfl) (Eq.trans (b := (σ.2.1 27)) rfl rfl) (Eq.trans (b := (σ.2.1 28)) rfl rfl) (Eq.trans (b := (σ.1 29)) rfl rfl) (Eq.trans (b := (σ.2.1 30)) rfl rfl) (Eq.trans (b := (σ.2.1 31)) rfl rfl) (Eq.trans (b := (σ.2.1 32)) rfl rfl) (Eq.trans (b := (σ.1 33)) rfl rfl) (Eq.trans (b := (σ.1 34)) rfl rfl) (Eq.trans (b := (σ.1 35)) rfl rfl) (Eq.trans (b := (σ.2.1 36)) rfl rfl) (Eq.trans (b := (σ.2.1 37)) rfl rfl) (Eq.trans (b := (σ.2.1 38)) rfl rfl) (Eq.trans (b := (σ.2.1 39)) rfl rfl) (Eq.trans (b := (σ.2.1 40)) rfl rfl) (Eq.trans (b := (σ.2.1 41)) rfl rfl) (Eq.trans (b := (σ.2.1 42)) rfl rfl) (Eq.trans (b := (σ.2.1 43)) rfl rfl) (Eq.trans (b := (σ.2.1 44)) rfl rfl) (Eq.trans (b := (σ.2.1 45)) rfl rfl) (Eq.trans (b := (σ.2.1 46)) rfl rfl) (Eq.trans (b := (σ.1 47)) rfl rfl) (Eq.trans (b := (σ.2.1 48)) rfl rfl) (Eq.trans (b := (σ.1 49)) rfl rfl) (Eq.trans (b := (σ.2.1 50)) rfl rfl) (Eq.trans (b := (σ.2.1 51)) rfl rfl) (Eq.trans (b := (σ.2.2.1 52)) rfl rfl) (Eq.trans (b := (σ.2.2.1 53)) rfl rfl) (Eq.trans (b := (σ.2.2.2)) rfl rfl) (Eq.trans (b := (σ.1 55)) rfl rfl) (Eq.trans (b := (σ.1 56)) rfl rfl) (Eq.trans (b := (σ.1 57)) rfl rfl) (Eq.trans (b := (σ.2.1 58)) rfl rfl) (Eq.trans (b := (σ.1 59)) rfl rfl)
    exact r_reti C ⟨(σ.2.1 50), (σ.1 49)⟩ ⟨(v_placeFor_2 σ r1 hpre_0 hpre_1 hr1 c2), (v_placeFor_3 σ k0 r1 hpre_0 hpre_1 hr1y hr1 c2)⟩ hP hS dX12_placeFor_48
  · have c2 : r1.toInt < 0 := by have h := z_nle c2; rw [show (0 : Int32).toInt = 0 from by decide +kernel] at h; exact h
    refine lv_aload_n hx hb dX12_placeFor_10 rfl (lv_at hl 1 rfl) ?_
    refine rg_49 (v := (σ.1 49)) C hP rfl wm_348 dX12_placeFor_11 ?_
    refine lv_bipush (v := 12) hx hb dX12_placeFor_14 (by decide +kernel) ?_
    refine lv_icmp_ge (tgt := 47) hx hb dX12_placeFor_16 (by decide) (fun c3 => ?_) (fun c3 => ?_)
    · have c3 : 12 ≤ (σ.1 49).toInt := by have h := z_le c3; rw [show (12 : Int32).toInt = 12 from by decide +kernel] at h; exact h
      refine lv_iload_n hx hb dX12_placeFor_47 rfl (lv_at hl 0 rfl) ?_
      have hP : RP D cy ad (rS (rA σ 50 (σ.2.1 50)) 49 (σ.1 49)) H := RP.cong hP (Eq.trans (b := (σ.1 0)) rfl rfl) (Eq.trans (b := (σ.1 1)) rfl rfl) (Eq.trans (b := (σ.2.1 2)) rfl rfl) (Eq.trans (b := (σ.1 3)) rfl rfl) (Eq.trans (b := (σ.2.1 4)) rfl rfl) (Eq.trans (b := (σ.2.1 5)) rfl rfl) (Eq.trans (b := (σ.2.2.1 6)) rfl rfl) (Eq.trans (b := (σ.2.1 7)) rfl rfl) (Eq.trans (b := (σ.1 8)) rfl rfl) (Eq.trans (b := (σ.1 9)) rfl rfl) (Eq.trans (b := (σ.1 10)) rfl rfl) (Eq.trans (b := (σ.2.1 11)) rfl rfl) (Eq.trans (b := (σ.2.2.1 12)) rfl rfl) (Eq.trans (b := (σ.2.1 13)) rfl rfl) (Eq.trans (b := (σ.1 14)) rfl rfl) (Eq.trans (b := (σ.1 15)) rfl rfl) (Eq.trans (b := (σ.1 16)) rfl rfl) (Eq.trans (b := (σ.1 17)) rfl rfl) (Eq.trans (b := (σ.1 18)) rfl rfl) (Eq.trans (b := (σ.1 19)) rfl rfl) (Eq.trans (b := (σ.2.1 20)) rfl rfl) (Eq.trans (b := (σ.2.1 21)) rfl rfl) (Eq.trans (b := (σ.2.1 22)) rfl rfl) (Eq.trans (b := (σ.2.1 23)) rfl rfl) (Eq.trans (b := (σ.2.1 24)) rfl rfl) (Eq.trans (b := (σ.2.1 25)) rfl rfl) (Eq.trans (b := (σ.2.1 26)) rfl rfl) (Eq.trans (b := (σ.2.1 27)) rfl rfl) (Eq.trans (b := (σ.2.1 28)) rfl rfl) (Eq.trans (b := (σ.1 29)) rfl rfl) (Eq.trans (b := (σ.2.1 30)) rfl rfl) (Eq.trans (b := (σ.2.1 31)) rfl rfl) (Eq.trans (b := (σ.2.1 32)) rfl rfl) (Eq.trans (b := (σ.1 33)) rfl rfl) (Eq.trans (b := (σ.1 34)) rfl rfl) (Eq.trans (b := (σ.1 35)) rfl rfl) (Eq.trans (b := (σ.2.1 36)) rfl rfl) (Eq.trans (b := (σ.2.1 37)) rfl rfl) (Eq.trans (b := (σ.2.1 38)) rfl rfl) (Eq.trans (b := (σ.2.1 39)) rfl rfl) (Eq.trans (b := (σ.2.1 40)) rfl rfl) (Eq.trans (b := (σ.2.1 41)) rfl rfl) (Eq.trans (b := (σ.2.1 42)) rfl rfl) (Eq.trans (b := (σ.2.1 43)) rfl rfl) (Eq.trans (b := (σ.2.1 44)) rfl rfl) (Eq.trans (b := (σ.2.1 45)) rfl rfl) (Eq.trans (b := (σ.2.1 46)) rfl rfl) (Eq.trans (b := (σ.1 47)) rfl rfl) (Eq.trans (b := (σ.2.1 48)) rfl rfl) (Eq.trans (b := (σ.1 49)) rfl rfl) (Eq.trans (b := (σ.2.1 50)) rfl rfl) (Eq.trans (b := (σ.2.1 51)) rfl rfl) (Eq.trans (b := (σ.2.2.1 52)) rfl rfl) (Eq.trans (b := (σ.2.2.1 53)) rfl rfl) (Eq.trans (b := (σ.2.2.2)) rfl rfl) (Eq.trans (b := (σ.1 55)) rfl rfl) (Eq.trans (b := (σ.1 56)) rfl rfl) (Eq.trans (b := (σ.1 57)) rfl rfl) (Eq.trans (b := (σ.2.1 58)) rfl rfl) (Eq.trans (b := (σ.1 59)) rfl rfl)
      exact r_reti C ⟨(σ.2.1 50), (σ.1 49)⟩ ⟨(v_placeFor_4 σ r1 hpre_0 hpre_1 hr1 c2 c3), (v_placeFor_5 σ k0 r1 hpre_0 hpre_1 hr1y hr1 c2 c3)⟩ hP hS dX12_placeFor_48
    · have c3 : (σ.1 49).toInt < 12 := by have h := z_nle c3; rw [show (12 : Int32).toInt = 12 from by decide +kernel] at h; exact h
      refine lv_aload_n hx hb dX12_placeFor_19 rfl (lv_at hl 1 rfl) ?_
      refine rg_50 C hP wm_349 dX12_placeFor_20 ?_
      refine lv_aload_n hx hb dX12_placeFor_23 rfl (lv_at hl 1 rfl) ?_
      refine rg_49 (v := (σ.1 49)) C hP rfl wm_348 dX12_placeFor_24 ?_
      refine lv_iload_n hx hb dX12_placeFor_27 rfl (lv_at hl 2 rfl) ?_
      refine rw_50 (f := (σ.2.1 50)) C hP hS rfl (v_placeFor_6 σ hpre_0 hpre_1 c3) dX12_placeFor_28 (fun H locs hP hS => ?_)
      refine lv_bipush (v := 64) hx hb dX12_placeFor_29 (by decide +kernel) ?_
      refine lv_aload_n hx hb dX12_placeFor_31 rfl (lv_at hl 1 rfl) ?_
      refine rg_49 (v := (σ.1 49)) C hP rfl wm_348 dX12_placeFor_32 ?_
      refine lv_iadd hx hb dX12_placeFor_35 ?_
      refine lv_topi (fun x4 ex4 => ?_)
      have tx4 : x4.toInt = 64 + (σ.1 49).toInt := (v_placeFor_7 σ x4 hpre_0 hpre_1 c3 ex4)
      refine lv_istore_n (lv' := [(2, .int x4), (0, .ref (ad 0)), (1, .int k0)]) hx hb dX12_placeFor_36 rfl hl (by decide) rfl (fun ls hl => ?_)
      refine lv_aload_n hx hb dX12_placeFor_37 rfl (lv_at hl 1 rfl) ?_
      refine lv_dup hx hb dX12_placeFor_38 rfl ?_
      refine rg_49 (v := (σ.1 49)) C hP rfl wm_348 dX12_placeFor_39 ?_
      refine lv_iconst (v := 1) hx hb dX12_placeFor_42 (by decide +kernel) ?_
      refine lv_iadd hx hb dX12_placeFor_43 ?_
      refine lv_topi (fun x5 ex5 => ?_)
      have tx5 : x5.toInt = (σ.1 49).toInt + 1 := (v_placeFor_8 σ x4 x5 hpre_0 hpre_1 c3 ex4 tx4 ex5)
      refine rp_49 C hP hS wm_348 dX12_placeFor_44 (fun H locs hP hS => ?_)
      refine lv_iload_n hx hb dX12_placeFor_47 rfl (lv_at hl 0 rfl) ?_
      exact r_reti C ⟨(upd (σ.2.1 50) (σ.1 49).toNatClampNeg k0), x5⟩ ⟨(v_placeFor_9 σ x4 x5 hpre_0 hpre_1 c3 ex4 tx4 ex5 tx5), (v_placeFor_10 σ k0 r1 x4 x5 hpre_0 hpre_1 hr1y hr1 c2 c3 ex4 tx4 ex5 tx5)⟩ hP hS dX12_placeFor_48
