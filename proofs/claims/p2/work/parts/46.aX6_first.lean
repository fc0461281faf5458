-- post @11
theorem vX6_kind_1 (κ : KS) (r1 : Int32) (hpre : (κ.1 7).toInt ≤ 41) (hr1 : (¬ r1.toInt = 0 → 0 ≤ (κ.1 3).toInt ∧ (κ.1 3).toInt < (κ.1 7).toInt)) : (¬ r1.toInt = 0 → 0 ≤ (κ.1 3).toInt ∧ (κ.1 3).toInt < (κ.1 7).toInt) := by
  first | assumption | omega | (subst_vars; omega) | trivial
-- post2 @11
theorem vX6_kind_2 (κ : KS) (r1 : Int32) (hpre : (κ.1 7).toInt ≤ 41) (hr1y : (κ.1 7).toInt ≤ 41 → r1.toInt = cT (κ.2.2.1 10) (κ.1 7) (κ.1 3).toInt) (hr1 : (¬ r1.toInt = 0 → 0 ≤ (κ.1 3).toInt ∧ (κ.1 3).toInt < (κ.1 7).toInt)) : r1.toInt = (cT (κ.2.2.1 10) (κ.1 7)) (κ.1 3).toInt := by
  exact hr1y (by omega)
set_option maxHeartbeats 4000000 in
set_option maxRecDepth 100000 in
theorem NX6_kind (l : Launch) (D : va_G) (cy : Nat → ClassId) (ad : Nat → Nat) (A : Nat → Prop) (sz0 : Nat) (sa : Nat → Nat)  (κ : KS) (sz sl : Nat) (hAF : ∀ q, A q → Fr sz0 q) (hAn : ∀ q : Nat, sz ≤ q → A q)  (hpre : (κ.1 7).toInt ≤ 41) : Met l yX6_kind (Cond.code yX6_kind cX6_kind 1 (some .int) :: GWc) ({ frames := 1, cells := 0, slots := 0, locals := 21 }) (PcC D cy ad A sz0 sa [.ref (ad 1)] κ sz sl) (va_Qi (fun (r : Int32) (u : Unit) => (((¬ r.toInt = 0 → 0 ≤ (κ.1 3).toInt ∧ (κ.1 3).toInt < (κ.1 7).toInt))) ∧ (r.toInt = (cT (κ.2.2.1 10) (κ.1 7)) (κ.1 3).toInt)) (fun (u : Unit) (t : State) => Bx D cy ad A sz sl κ (0) (0) t) A) (0) (0) A := by
  refine CM_of (loc0 := [(0, .ref (ad 1))]) (own := RX6) (nm := "kind") (by decide) rfl rfl rfl (Nat.le_of_ble_eq_true rfl) hAF hAn ?_
  intro p e s m below meth c ls hsz hsl C hP hS hl
  refine lv_aload_n C.x C.b dX6_kind_0 rfl (lv_at hl 0 rfl) ?_
  refine cg_X6_0 C hP cw_563 dX6_kind_1 ?_
  refine lv_aload_n C.x C.b dX6_kind_4 rfl (lv_at hl 0 rfl) ?_
  refine cg_X6_1 (v := (κ.1 3)) C hP rfl cw_567 dX6_kind_5 ?_
  refine c_callVi (n := 1) (As := [.int (κ.1 3)]) (rest := []) C hP hS hl.1 (NX4_kindAt l D cy ad A sz0 sa κ s.heap.size (SLT s.heap) C.f (fun q h => C.a q (Nat.le_trans hS.1 h)) (κ.1 3) ) ⟨cw_601, cw_475, by decide +kernel⟩ ⟨cw_602, cw_603, cw_484⟩ rfl (hP.recvS (k := 2) (ci := 6) C.K rfl rfl) rfl rfl (lv_room (Nat.le_of_ble_eq_true rfl)) ⟨Nat.le_of_ble_eq_true rfl, Nat.le_of_ble_eq_true rfl⟩ ⟨(Nat.le_of_ble_eq_true rfl), (Nat.le_of_ble_eq_true rfl)⟩ dX6_kind_8 (fun r1 u H locs hr1 hP hS => ?_)
  obtain ⟨hr1, hr1y⟩ := hr1
  have hr1y : (κ.1 7).toInt ≤ 41 → r1.toInt = cT (κ.2.2.1 10) (κ.1 7) (κ.1 3).toInt := hr1y
  have hr1 : ((¬ r1.toInt = 0 → 0 ≤ (κ.1 3).toInt ∧ (κ.1 3).toInt < (κ.1 7).toInt)) := hr1
  exact c_reti C hsz hsl () ⟨(vX6_kind_1 κ r1 hpre hr1), (vX6_kind_2 κ r1 hpre hr1y hr1)⟩ hP hS ⟨(Nat.le_of_ble_eq_true rfl), (Nat.le_of_ble_eq_true rfl)⟩ ⟨(Nat.le_of_ble_eq_true rfl), (Nat.le_of_ble_eq_true rfl)⟩ dX6_kind_11

-- pre:X6_kind@1 @1
theorem vX6_takes_1 (κ : KS) (hpre_0 : 0 ≤ (κ.1 3).toInt) (hpre_1 : (κ.1 3).toInt ≤ (κ.1 7).toInt) (hpre_2 : (κ.1 7).toInt ≤ 41) : (κ.1 7).toInt ≤ 41 := by
  first | assumption | omega | (subst_vars; omega) | trivial
-- nw@16 @16
theorem vX6_takes_2 (κ : KS) (k0 : Int32) (r1 : Int32) (x3 : Int32) (hpre_0 : 0 ≤ (κ.1 3).toInt) (hpre_1 : (κ.1 3).toInt ≤ (κ.1 7).toInt) (hpre_2 : (κ.1 7).toInt ≤ 41) (hpre_3 : ¬ k0.toInt = 0) (hr1 : (¬ r1.toInt = 0 → 0 ≤ (κ.1 3).toInt ∧ (κ.1 3).toInt < (κ.1 7).toInt)) (c2 : r1.toInt = k0.toInt) (ex3 : x3 = (κ.1 3) + (1 : Int32)) : x3.toInt = (κ.1 3).toInt + 1 := by
  have q1 : (1 : Int32).toInt = 1 := by decide +kernel
  have w1 : (1 : Int32).toInt = 1 := by decide +kernel
  rw [ex3, z_add (by omega) (by omega)]; first | done | omega
-- retz @21
theorem vX6_takes_3   : 0 ≤ (1 : Int32).toInt ∧ (1 : Int32).toInt ≤ 1 := by
  have q1 : (1 : Int32).toInt = 1 := by decide +kernel
  refine ⟨?_, ?_⟩ <;> first | assumption | omega | (subst_vars; omega) | trivial
-- post @21
theorem vX6_takes_4 (κ : KS) (k0 : Int32) (r1 : Int32) (x3 : Int32) (hpre_0 : 0 ≤ (κ.1 3).toInt) (hpre_1 : (κ.1 3).toInt ≤ (κ.1 7).toInt) (hpre_2 : (κ.1 7).toInt ≤ 41) (hpre_3 : ¬ k0.toInt = 0) (hr1 : (¬ r1.toInt = 0 → 0 ≤ (κ.1 3).toInt ∧ (κ.1 3).toInt < (κ.1 7).toInt)) (c2 : r1.toInt = k0.toInt) (ex3 : x3 = (κ.1 3) + (1 : Int32)) (tx3 : x3.toInt = (κ.1 3).toInt + 1) : ((1 : Int32).toInt = 0 → x3.toInt = (κ.1 3).toInt) ∧ (¬ (1 : Int32).toInt = 0 → x3.toInt = (κ.1 3).toInt + 1 ∧ (κ.1 3).toInt < (κ.1 7).toInt) := by
  have q1 : (1 : Int32).toInt = 1 := by decide +kernel
  refine ⟨?_, ?_⟩ <;> first | assumption | omega | (subst_vars; omega) | trivial
-- post2 @21
theorem vX6_takes_5 (κ : KS) (k0 : Int32) (r1 : Int32) (x3 : Int32) (hpre_0 : 0 ≤ (κ.1 3).toInt) (hpre_1 : (κ.1 3).toInt ≤ (κ.1 7).toInt) (hpre_2 : (κ.1 7).toInt ≤ 41) (hpre_3 : ¬ k0.toInt = 0) (hr1y : r1.toInt = (cT (κ.2.2.1 10) (κ.1 7)) (κ.1 3).toInt) (hr1 : (¬ r1.toInt = 0 → 0 ≤ (κ.1 3).toInt ∧ (κ.1 3).toInt < (κ.1 7).toInt)) (c2 : r1.toInt = k0.toInt) (ex3 : x3 = (κ.1 3) + (1 : Int32)) (tx3 : x3.toInt = (κ.1 3).toInt + 1) : ((1 : Int32).toInt = 0 → ¬ (cT (κ.2.2.1 10) (κ.1 7)) (κ.1 3).toInt = k0.toInt) ∧ (¬ (1 : Int32).toInt = 0 → (cT (κ.2.2.1 10) (κ.1 7)) (κ.1 3).toInt = k0.toInt) := by
  have q1 : (1 : Int32).toInt = 1 := by decide +kernel
  refine ⟨fun h9 => ?_, fun h9 => ?_⟩ <;> omega
-- retz @9
theorem vX6_takes_6   : 0 ≤ (0 : Int32).toInt ∧ (0 : Int32).toInt ≤ 1 := by
  have q0 : (0 : Int32).toInt = 0 := by decide +kernel
  refine ⟨?_, ?_⟩ <;> first | assumption | omega | (subst_vars; omega) | trivial
-- post @9
theorem vX6_takes_7 (κ : KS) (k0 : Int32) (r1 : Int32) (hpre_0 : 0 ≤ (κ.1 3).toInt) (hpre_1 : (κ.1 3).toInt ≤ (κ.1 7).toInt) (hpre_2 : (κ.1 7).toInt ≤ 41) (hpre_3 : ¬ k0.toInt = 0) (hr1 : (¬ r1.toInt = 0 → 0 ≤ (κ.1 3).toInt ∧ (κ.1 3).toInt < (κ.1 7).toInt)) (c2 : ¬ r1.toInt = k0.toInt) : ((0 : Int32).toInt = 0 → (κ.1 3).toInt = (κ.1 3).toInt) ∧ (¬ (0 : Int32).toInt = 0 → (κ.1 3).toInt = (κ.1 3).toInt + 1 ∧ (κ.1 3).toInt < (κ.1 7).toInt) := by
  have q0 : (0 : Int32).toInt = 0 := by decide +kernel
  refine ⟨?_, ?_⟩ <;> first | assumption | omega | (subst_vars; omega) | trivial
-- post2 @9
theorem vX6_takes_8 (κ : KS) (k0 : Int32) (r1 : Int32) (hpre_0 : 0 ≤ (κ.1 3).toInt) (hpre_1 : (κ.1 3).toInt ≤ (κ.1 7).toInt) (hpre_2 : (κ.1 7).toInt ≤ 41) (hpre_3 : ¬ k0.toInt = 0) (hr1y : r1.toInt = (cT (κ.2.2.1 10) (κ.1 7)) (κ.1 3).toInt) (hr1 : (¬ r1.toInt = 0 → 0 ≤ (κ.1 3).toInt ∧ (κ.1 3).toInt < (κ.1 7).toInt)) (c2 : ¬ r1.toInt = k0.toInt) : ((0 : Int32).toInt = 0 → ¬ (cT (κ.2.2.1 10) (κ.1 7)) (κ.1 3).toInt = k0.toInt) ∧ (¬ (0 : Int32).toInt = 0 → (cT (κ.2.2.1 10) (κ.1 7)) (κ.1 3).toInt = k0.toInt) := by
  have q0 : (0 : Int32).toInt = 0 := by decide +kernel
  refine ⟨fun h9 => ?_, fun h9 => ?_⟩ <;> omega
set_option maxHeartbeats 4000000 in
set_option maxRecDepth 100000 in
theorem NX6_takes (l : Launch) (D : va_G) (cy : Nat → ClassId) (ad : Nat → Nat) (A : Nat → Prop) (sz0 : Nat) (sa : Nat → Nat)  (κ : KS) (sz sl : Nat) (hAF : ∀ q, A q → Fr sz0 q) (hAn : ∀ q : Nat, sz ≤ q → A q) (k0 : Int32) (hpre : 0 ≤ (κ.1 3).toInt ∧ (κ.1 3).toInt ≤ (κ.1 7).toInt ∧ (κ.1 7).toInt ≤ 41 ∧ ¬ k0.toInt = 0) : Met l yX6_takes (Cond.code yX6_takes cX6_takes 2 (some .boolean) :: GWc) ({ frames := 2, cells := 0, slots := 0, locals := 41 }) (PcC D cy ad A sz0 sa [.ref (ad 1), .int k0] κ sz sl) (va_Qi (fun (r : Int32) (u : Int32) => ((0 ≤ r.toInt ∧ r.toInt ≤ 1) ∧ ((r.toInt = 0 → u.toInt = (κ.1 3).toInt) ∧ (¬ r.toInt = 0 → u.toInt = (κ.1 3).toInt + 1 ∧ (κ.1 3).toInt < (κ.1 7).toInt))) ∧ ((r.toInt = 0 → ¬ (cT (κ.2.2.1 10) (κ.1 7)) (κ.1 3).toInt = k0.toInt) ∧ (¬ r.toInt = 0 → (cT (κ.2.2.1 10) (κ.1 7)) (κ.1 3).toInt = k0.toInt))) (fun (u : Int32) (t : State) => Bx D cy ad A sz sl (tI κ 3 u) (0) (0) t) A) (0) (0) A := by
  refine CM_of (loc0 := [(0, .ref (ad 1)), (1, .int k0)]) (own := RX6) (nm := "takes") (by decide) rfl rfl rfl (Nat.le_of_ble_eq_true rfl) hAF hAn ?_
  intro p e s m below meth c ls hsz hsl C hP hS hl
  obtain ⟨hpre_0, hpre_1, hpre_2, hpre_3⟩ := hpre
  refine lv_aload_n C.x C.b dX6_takes_0 rfl (lv_at hl 0 rfl) ?_
  refine c_callVi (n := 0) (As := []) (rest := []) C hP hS hl.1 (NX6_kind l D cy ad A sz0 sa κ s.heap.size (SLT s.heap) C.f (fun q h => C.a q (Nat.le_trans hS.1 h))  (vX6_takes_1 κ hpre_0 hpre_1 hpre_2)) ⟨cw_597, cw_600, by decide +kernel⟩ ⟨cw_598, cw_599, cw_577⟩ rfl (hP.recvS (k := 1) (ci := 8) C.K rfl rfl) rfl rfl (lv_room (Nat.le_of_ble_eq_true rfl)) ⟨Nat.le_of_ble_eq_true rfl, Nat.le_of_ble_eq_true rfl⟩ ⟨(Nat.le_of_ble_eq_true rfl), (Nat.le_of_ble_eq_true rfl)⟩ dX6_takes_1 (fun r1 u H locs hr1 hP hS => ?_)
  obtain ⟨hr1, hr1y⟩ := hr1
  have hr1y : r1.toInt = (cT (κ.2.2.1 10) (κ.1 7)) (κ.1 3).toInt := hr1y
  have hr1 : ((¬ r1.toInt = 0 → 0 ≤ (κ.1 3).toInt ∧ (κ.1 3).toInt < (κ.1 7).toInt)) := hr1
  refine lv_iload_n C.x C.b dX6_takes_4 rfl (lv_at hl 1 rfl) ?_
  refine lv_icmp_eq (tgt := 10) C.x C.b dX6_takes_5 (by decide) (fun c2 => ?_) (fun c2 => ?_)
  · have c2 : r1.toInt = k0.toInt := by have h := z_eq c2; exact h
    refine lv_aload_n C.x C.b dX6_takes_10 rfl (lv_at hl 0 rfl) ?_
    refine lv_dup C.x C.b dX6_takes_11 rfl ?_
    refine cg_X6_1 (v := (κ.1 3)) C hP rfl cw_567 dX6_takes_12 ?_
    refine lv_iconst (v := 1) C.x C.b dX6_takes_15 (by decide +kernel) ?_
    refine lv_iadd C.x C.b dX6_takes_16 ?_
    refine lv_topi (fun x3 ex3 => ?_)
    have tx3 : x3.toInt = (κ.1 3).toInt + 1 := (vX6_takes_2 κ k0 r1 x3 hpre_0 hpre_1 hpre_2 hpre_3 hr1 c2 ex3)
    refine cp_X6_1 (v := x3) C hP hS cw_567 dX6_takes_17 (fun H locs hP hS => ?_)
    refine lv_iconst (v := 1) C.x C.b dX6_takes_20 (by decide +kernel) ?_
    exact c_retz (ty := .boolean) (hv := rfl) C hsz hsl x3 ⟨⟨(vX6_takes_3  ), (vX6_takes_4 κ k0 r1 x3 hpre_0 hpre_1 hpre_2 hpre_3 hr1 c2 ex3 tx3)⟩, (vX6_takes_5 κ k0 r1 x3 hpre_0 hpre_1 hpre_2 hpre_3 hr1y hr1 c2 ex3 tx3)⟩ hP hS ⟨(Nat.le_of_ble_eq_true rfl), (Nat.le_of_ble_eq_true rfl)⟩ ⟨(Nat.le_of_ble_eq_true rfl), (Nat.le_of_ble_eq_true rfl)⟩ dX6_takes_21
  · have c2 : ¬ r1.toInt = k0.toInt := by have h := z_ne c2; exact h
    refine lv_iconst (v := 0) C.x C.b dX6_takes_8 (by decide +kernel) ?_
    have hP : CH D cy ad A (tI κ 3 (κ.1 3)) H := CH.cong hP rfl rfl rfl rfl rfl rfl rfl rfl rfl rfl rfl rfl rfl rfl rfl rfl rfl rfl rfl rfl rfl rfl rfl rfl rfl rfl rfl
    exact c_retz (ty := .boolean) (hv := rfl) C hsz hsl (κ.1 3) ⟨⟨(vX6_takes_6  ), (vX6_takes_7 κ k0 r1 hpre_0 hpre_1 hpre_2 hpre_3 hr1 c2)⟩, (vX6_takes_8 κ k0 r1 hpre_0 hpre_1 hpre_2 hpre_3 hr1y hr1 c2)⟩ hP hS ⟨(Nat.le_of_ble_eq_true rfl), (Nat.le_of_ble_eq_true rfl)⟩ ⟨(Nat.le_of_ble_eq_true rfl), (Nat.le_of_ble_eq_true rfl)⟩ dX6_takes_9

-- nw@6 @6
theorem vX6_takeName_1 (κ : KS) (x1 : Int32) (hpre_0 : 0 ≤ (κ.1 3).toInt) (hpre_1 : (κ.1 3).toInt ≤ (κ.1 7).toInt) (hpre_2 : (κ.1 7).toInt ≤ 41) (hpre_3 : (κ.1 3).toInt < (κ.1 7).toInt) (ex1 : x1 = (κ.1 3) + (1 : Int32)) : x1.toInt = (κ.1 3).toInt + 1 := by
  have q1 : (1 : Int32).toInt = 1 := by decide +kernel
  have w1 : (1 : Int32).toInt = 1 := by decide +kernel
  rw [ex1, z_add (by omega) (by omega)]; first | done | omega
-- nw@19 @19
theorem vX6_takeName_2 (κ : KS) (x1 : Int32) (x2 : Int32) (hpre_0 : 0 ≤ (κ.1 3).toInt) (hpre_1 : (κ.1 3).toInt ≤ (κ.1 7).toInt) (hpre_2 : (κ.1 7).toInt ≤ 41) (hpre_3 : (κ.1 3).toInt < (κ.1 7).toInt) (ex1 : x1 = (κ.1 3) + (1 : Int32)) (tx1 : x1.toInt = (κ.1 3).toInt + 1) (ex2 : x2 = x1 - (1 : Int32)) : x2.toInt = x1.toInt - 1 := by
  have q1 : (1 : Int32).toInt = 1 := by decide +kernel
  have w1 : (1 : Int32).toInt = 1 := by decide +kernel
  rw [ex2, z_sub (by omega) (by omega)]; first | done | omega
-- post @23
theorem vX6_takeName_3 (κ : KS) (x1 : Int32) (x2 : Int32) (hpre_0 : 0 ≤ (κ.1 3).toInt) (hpre_1 : (κ.1 3).toInt ≤ (κ.1 7).toInt) (hpre_2 : (κ.1 7).toInt ≤ 41) (hpre_3 : (κ.1 3).toInt < (κ.1 7).toInt) (ex1 : x1 = (κ.1 3) + (1 : Int32)) (tx1 : x1.toInt = (κ.1 3).toInt + 1) (ex2 : x2 = x1 - (1 : Int32)) (tx2 : x2.toInt = x1.toInt - 1) : x1.toInt = (κ.1 3).toInt + 1 := by
  have q1 : (1 : Int32).toInt = 1 := by decide +kernel
  first | assumption | omega | (subst_vars; omega) | trivial
-- post2 @23
theorem vX6_takeName_4 (κ : KS) (x1 : Int32) (x2 : Int32) (r3 : Int32) (hpre_0 : 0 ≤ (κ.1 3).toInt) (hpre_1 : (κ.1 3).toInt ≤ (κ.1 7).toInt) (hpre_2 : (κ.1 7).toInt ≤ 41) (hpre_3 : (κ.1 3).toInt < (κ.1 7).toInt) (ex1 : x1 = (κ.1 3) + (1 : Int32)) (tx1 : x1.toInt = (κ.1 3).toInt + 1) (ex2 : x2 = x1 - (1 : Int32)) (tx2 : x2.toInt = x1.toInt - 1) (hr3y : (κ.1 7).toInt ≤ 41 → r3.toInt = cT (κ.2.2.1 12) (κ.1 7) x2.toInt) : r3.toInt = (cT (κ.2.2.1 12) (κ.1 7)) (κ.1 3).toInt := by
  have q1 : (1 : Int32).toInt = 1 := by decide +kernel
  have a := hr3y (by omega)
  rw [a, show x2.toInt = (κ.1 3).toInt by omega]
set_option maxHeartbeats 4000000 in
set_option maxRecDepth 100000 in
theorem NX6_takeName (l : Launch) (D : va_G) (cy : Nat → ClassId) (ad : Nat → Nat) (A : Nat → Prop) (sz0 : Nat) (sa : Nat → Nat)  (κ : KS) (sz sl : Nat) (hAF : ∀ q, A q → Fr sz0 q) (hAn : ∀ q : Nat, sz ≤ q → A q)  (hpre : 0 ≤ (κ.1 3).toInt ∧ (κ.1 3).toInt ≤ (κ.1 7).toInt ∧ (κ.1 7).toInt ≤ 41 ∧ (κ.1 3).toInt < (κ.1 7).toInt) : Met l yX6_takeName (Cond.code yX6_takeName cX6_takeName 1 (some .int) :: GWc) ({ frames := 1, cells := 0, slots := 0, locals := 21 }) (PcC D cy ad A sz0 sa [.ref (ad 1)] κ sz sl) (va_Qi (fun (r : Int32) (u : Int32) => ((u.toInt = (κ.1 3).toInt + 1)) ∧ (r.toInt = (cT (κ.2.2.1 12) (κ.1 7)) (κ.1 3).toInt)) (fun (u : Int32) (t : State) => Bx D cy ad A sz sl (tI κ 3 u) (0) (0) t) A) (0) (0) A := by
  refine CM_of (loc0 := [(0, .ref (ad 1))]) (own := RX6) (nm := "takeName") (by decide) rfl rfl rfl (Nat.le_of_ble_eq_true rfl) hAF hAn ?_
  intro p e s m below meth c ls hsz hsl C hP hS hl
  obtain ⟨hpre_0, hpre_1, hpre_2, hpre_3⟩ := hpre
  refine lv_aload_n C.x C.b dX6_takeName_0 rfl (lv_at hl 0 rfl) ?_
  refine lv_dup C.x C.b dX6_takeName_1 rfl ?_
  refine cg_X6_1 (v := (κ.1 3)) C hP rfl cw_567 dX6_takeName_2 ?_
  refine lv_iconst (v := 1) C.x C.b dX6_takeName_5 (by decide +kernel) ?_
  refine lv_iadd C.x C.b dX6_takeName_6 ?_
  refine lv_topi (fun x1 ex1 => ?_)
  have tx1 : x1.toInt = (κ.1 3).toInt + 1 := (vX6_takeName_1 κ x1 hpre_0 hpre_1 hpre_2 hpre_3 ex1)
  refine cp_X6_1 (v := x1) C hP hS cw_567 dX6_takeName_7 (fun H locs hP hS => ?_)
  refine lv_aload_n C.x C.b dX6_takeName_10 rfl (lv_at hl 0 rfl) ?_
  refine cg_X6_0 C hP cw_563 dX6_takeName_11 ?_
  refine lv_aload_n C.x C.b dX6_takeName_14 rfl (lv_at hl 0 rfl) ?_
  refine cg_X6_1 (v := x1) C hP rfl cw_567 dX6_takeName_15 ?_
  refine lv_iconst (v := 1) C.x C.b dX6_takeName_18 (by decide +kernel) ?_
  refine lv_isub C.x C.b dX6_takeName_19 ?_
  refine lv_topi (fun x2 ex2 => ?_)
  have tx2 : x2.toInt = x1.toInt - 1 := (vX6_takeName_2 κ x1 x2 hpre_0 hpre_1 hpre_2 hpre_3 ex1 tx1 ex2)
  refine c_callVi (n := 1) (As := [.int x2]) (rest := []) C hP hS hl.1 (NX4_nameAt l D cy ad A sz0 sa (tI κ 3 x1) H.size (SLT H) C.f (fun q h => C.a q (Nat.le_trans hS.1 h)) x2 ) ⟨cw_630, cw_478, by decide +kernel⟩ ⟨cw_631, cw_632, cw_484⟩ rfl (hP.recvS (k := 2) (ci := 6) C.K rfl rfl) rfl rfl (lv_room (Nat.le_of_ble_eq_true rfl)) ⟨Nat.le_of_ble_eq_true rfl, Nat.le_of_ble_eq_true rfl⟩ ⟨(Nat.le_of_ble_eq_true rfl), (Nat.le_of_ble_eq_true rfl)⟩ dX6_takeName_20 (fun r3 u H locs hr3 hP hS => ?_)
  obtain ⟨hr3, hr3y⟩ := hr3
  have hr3y : (κ.1 7).toInt ≤ 41 → r3.toInt = cT (κ.2.2.1 12) (κ.1 7) x2.toInt := hr3y
  have hr3 : True := hr3
  exact c_reti C hsz hsl x1 ⟨(vX6_takeName_3 κ x1 x2 hpre_0 hpre_1 hpre_2 hpre_3 ex1 tx1 ex2 tx2), (vX6_takeName_4 κ x1 x2 r3 hpre_0 hpre_1 hpre_2 hpre_3 ex1 tx1 ex2 tx2 hr3y)⟩ hP hS ⟨(Nat.le_of_ble_eq_true rfl), (Nat.le_of_ble_eq_true rfl)⟩ ⟨(Nat.le_of_ble_eq_true rfl), (Nat.le_of_ble_eq_true rfl)⟩ dX6_takeName_23

-- post @21
theorem vX6_refuse_1 (κ : KS)  : cto κ.2.2.2.2 none = 0 := by
  have zc0 : cto κ.2.2.2.2 none = 0 := rfl
  first | assumption | omega | (subst_vars; omega) | trivial
-- post2 @21
theorem vX6_refuse_2 (κ : KS) (k0 : Int32) (r1 : Int32) (hpre : (κ.1 7).toInt ≤ 41) (hr1y : (κ.1 7).toInt ≤ 41 → r1.toInt = cT (κ.2.2.1 11) (κ.1 7) (κ.1 3).toInt) : none = (none : Option Nat) ∧ k0.toInt = k0.toInt ∧ r1.toInt = (cT (κ.2.2.1 11) (κ.1 7)) (κ.1 3).toInt := by
  exact ⟨rfl, rfl, hr1y (by omega)⟩
set_option maxHeartbeats 4000000 in
set_option maxRecDepth 100000 in
theorem NX6_refuse (l : Launch) (D : va_G) (cy : Nat → ClassId) (ad : Nat → Nat) (A : Nat → Prop) (sz0 : Nat) (sa : Nat → Nat)  (κ : KS) (sz sl : Nat) (hAF : ∀ q, A q → Fr sz0 q) (hAn : ∀ q : Nat, sz ≤ q → A q) (k0 : Int32) (hpre : (κ.1 7).toInt ≤ 41) : Met l yX6_refuse (Cond.code yX6_refuse cX6_refuse 2 (some (.object "PhraseDesk$Node")) :: GWc) ({ frames := 1, cells := 0, slots := 0, locals := 21 }) (PcC D cy ad A sz0 sa [.ref (ad 1), .int k0] κ sz sl) (va_Qq (fun (r : Option Nat) (u : Int32 × Int32) => ((NT κ.2.2.2.2 2 r) ∧ (cto κ.2.2.2.2 r = 0)) ∧ (r = (none : Option Nat) ∧ u.1.toInt = k0.toInt ∧ u.2.toInt = (cT (κ.2.2.1 11) (κ.1 7)) (κ.1 3).toInt)) (fun (u : Int32 × Int32) (t : State) => Bx D cy ad A sz sl (tI (tI κ 4 u.1) 5 u.2) (0) (0) t) A) (0) (0) A := by
  refine CM_of (loc0 := [(0, .ref (ad 1)), (1, .int k0)]) (own := RX6) (nm := "refuse") (by decide) rfl rfl rfl (Nat.le_of_ble_eq_true rfl) hAF hAn ?_
  intro p e s m below meth c ls hsz hsl C hP hS hl
  refine lv_aload_n C.x C.b dX6_refuse_0 rfl (lv_at hl 0 rfl) ?_
  refine lv_iload_n C.x C.b dX6_refuse_1 rfl (lv_at hl 1 rfl) ?_
  refine cp_X6_2 (v := k0) C hP hS cw_568 dX6_refuse_2 (fun H locs hP hS => ?_)
  refine lv_aload_n C.x C.b dX6_refuse_5 rfl (lv_at hl 0 rfl) ?_
  refine lv_aload_n C.x C.b dX6_refuse_6 rfl (lv_at hl 0 rfl) ?_
  refine cg_X6_0 C hP cw_563 dX6_refuse_7 ?_
  refine lv_aload_n C.x C.b dX6_refuse_10 rfl (lv_at hl 0 rfl) ?_
  refine cg_X6_1 (v := (κ.1 3)) C hP rfl cw_567 dX6_refuse_11 ?_
  refine c_callVi (n := 1) (As := [.int (κ.1 3)]) (rest := [.ref (ad 1)]) C hP hS hl.1 (NX4_placeAt l D cy ad A sz0 sa (tI κ 4 k0) H.size (SLT H) C.f (fun q h => C.a q (Nat.le_trans hS.1 h)) (κ.1 3) ) ⟨cw_587, cw_477, by decide +kernel⟩ ⟨cw_588, cw_589, cw_484⟩ rfl (hP.recvS (k := 2) (ci := 6) C.K rfl rfl) rfl rfl (lv_room (Nat.le_of_ble_eq_true rfl)) ⟨Nat.le_of_ble_eq_true rfl, Nat.le_of_ble_eq_true rfl⟩ ⟨(Nat.le_of_ble_eq_true rfl), (Nat.le_of_ble_eq_true rfl)⟩ dX6_refuse_14 (fun r1 u H locs hr1 hP hS => ?_)
  obtain ⟨hr1, hr1y⟩ := hr1
  have hr1y : (κ.1 7).toInt ≤ 41 → r1.toInt = cT (κ.2.2.1 11) (κ.1 7) (κ.1 3).toInt := hr1y
  have hr1 : True := hr1
  refine cp_X6_3 (v := r1) C hP hS cw_569 dX6_refuse_17 (fun H locs hP hS => ?_)
  refine lv_null C.x C.b dX6_refuse_20 ?_
  exact c_retq (v := none) (Or.inl ⟨_, rfl⟩) C hsz hsl ⟨k0, r1⟩ ⟨⟨nt_n, (vX6_refuse_1 κ )⟩, (vX6_refuse_2 κ k0 r1 hpre hr1y)⟩ hP hS ⟨(Nat.le_of_ble_eq_true rfl), (Nat.le_of_ble_eq_true rfl)⟩ ⟨(Nat.le_of_ble_eq_true rfl), (Nat.le_of_ble_eq_true rfl)⟩ dX6_refuse_21

-- post @125
theorem vX6_levelOf_1 (k0 : Int32) (c1_0 : k0.toInt = 37) : (k0.toInt = 0 → (4 : Int32).toInt = -1) := by
  have q4 : (4 : Int32).toInt = 4 := by decide +kernel
  first | assumption | omega | (subst_vars; omega) | trivial
-- post2 @125
theorem vX6_levelOf_2 (k0 : Int32) (c1_0 : k0.toInt = 37) : (4 : Int32).toInt = LVO k0.toInt := by
  have q4 : (4 : Int32).toInt = 4 := by decide +kernel
  unfold LVO
  (repeat' split) <;> omega
-- post @125
theorem vX6_levelOf_3 (k0 : Int32) (c1_0 : ¬ k0.toInt = 37) (c1_1 : k0.toInt = 42) : (k0.toInt = 0 → (4 : Int32).toInt = -1) := by
  have q4 : (4 : Int32).toInt = 4 := by decide +kernel
  first | assumption | omega | (subst_vars; omega) | trivial
-- post2 @125
theorem vX6_levelOf_4 (k0 : Int32) (c1_0 : ¬ k0.toInt = 37) (c1_1 : k0.toInt = 42) : (4 : Int32).toInt = LVO k0.toInt := by
  have q4 : (4 : Int32).toInt = 4 := by decide +kernel
  unfold LVO
  (repeat' split) <;> omega
-- post @123
theorem vX6_levelOf_5 (k0 : Int32) (c1_0 : ¬ k0.toInt = 37) (c1_1 : ¬ k0.toInt = 42) (c1_2 : k0.toInt = 43) : (k0.toInt = 0 → (3 : Int32).toInt = -1) := by
  have q3 : (3 : Int32).toInt = 3 := by decide +kernel
  first | assumption | omega | (subst_vars; omega) | trivial
-- post2 @123
theorem vX6_levelOf_6 (k0 : Int32) (c1_0 : ¬ k0.toInt = 37) (c1_1 : ¬ k0.toInt = 42) (c1_2 : k0.toInt = 43) : (3 : Int32).toInt = LVO k0.toInt := by
  have q3 : (3 : Int32).toInt = 3 := by decide +kernel
  unfold LVO
  (repeat' split) <;> omega
-- post @123
theorem vX6_levelOf_7 (k0 : Int32) (c1_0 : ¬ k0.toInt = 37) (c1_1 : ¬ k0.toInt = 42) (c1_2 : ¬ k0.toInt = 43) (c1_3 : k0.toInt = 45) : (k0.toInt = 0 → (3 : Int32).toInt = -1) := by
  have q3 : (3 : Int32).toInt = 3 := by decide +kernel
  first | assumption | omega | (subst_vars; omega) | trivial
-- post2 @123
theorem vX6_levelOf_8 (k0 : Int32) (c1_0 : ¬ k0.toInt = 37) (c1_1 : ¬ k0.toInt = 42) (c1_2 : ¬ k0.toInt = 43) (c1_3 : k0.toInt = 45) : (3 : Int32).toInt = LVO k0.toInt := by
  have q3 : (3 : Int32).toInt = 3 := by decide +kernel
  unfold LVO
  (repeat' split) <;> omega
-- post @125
theorem vX6_levelOf_9 (k0 : Int32) (c1_0 : ¬ k0.toInt = 37) (c1_1 : ¬ k0.toInt = 42) (c1_2 : ¬ k0.toInt = 43) (c1_3 : ¬ k0.toInt = 45) (c1_4 : k0.toInt = 47) : (k0.toInt = 0 → (4 : Int32).toInt = -1) := by
  have q4 : (4 : Int32).toInt = 4 := by decide +kernel
  first | assumption | omega | (subst_vars; omega) | trivial
-- post2 @125
theorem vX6_levelOf_10 (k0 : Int32) (c1_0 : ¬ k0.toInt = 37) (c1_1 : ¬ k0.toInt = 42) (c1_2 : ¬ k0.toInt = 43) (c1_3 : ¬ k0.toInt = 45) (c1_4 : k0.toInt = 47) : (4 : Int32).toInt = LVO k0.toInt := by
  have q4 : (4 : Int32).toInt = 4 := by decide +kernel
  unfold LVO
  (repeat' split) <;> omega
-- post @121
theorem vX6_levelOf_11 (k0 : Int32) (c1_0 : ¬ k0.toInt = 37) (c1_1 : ¬ k0.toInt = 42) (c1_2 : ¬ k0.toInt = 43) (c1_3 : ¬ k0.toInt = 45) (c1_4 : ¬ k0.toInt = 47) (c1_5 : k0.toInt = 60) : (k0.toInt = 0 → (2 : Int32).toInt = -1) := by
  have q2 : (2 : Int32).toInt = 2 := by decide +kernel
  first | assumption | omega | (subst_vars; omega) | trivial
-- post2 @121
theorem vX6_levelOf_12 (k0 : Int32) (c1_0 : ¬ k0.toInt = 37) (c1_1 : ¬ k0.toInt = 42) (c1_2 : ¬ k0.toInt = 43) (c1_3 : ¬ k0.toInt = 45) (c1_4 : ¬ k0.toInt = 47) (c1_5 : k0.toInt = 60) : (2 : Int32).toInt = LVO k0.toInt := by
  have q2 : (2 : Int32).toInt = 2 := by decide +kernel
  unfold LVO
  (repeat' split) <;> omega
-- post @121
theorem vX6_levelOf_13 (k0 : Int32) (c1_0 : ¬ k0.toInt = 37) (c1_1 : ¬ k0.toInt = 42) (c1_2 : ¬ k0.toInt = 43) (c1_3 : ¬ k0.toInt = 45) (c1_4 : ¬ k0.toInt = 47) (c1_5 : ¬ k0.toInt = 60) (c1_6 : k0.toInt = 62) : (k0.toInt = 0 → (2 : Int32).toInt = -1) := by
  have q2 : (2 : Int32).toInt = 2 := by decide +kernel
  first | assumption | omega | (subst_vars; omega) | trivial
-- post2 @121
theorem vX6_levelOf_14 (k0 : Int32) (c1_0 : ¬ k0.toInt = 37) (c1_1 : ¬ k0.toInt = 42) (c1_2 : ¬ k0.toInt = 43) (c1_3 : ¬ k0.toInt = 45) (c1_4 : ¬ k0.toInt = 47) (c1_5 : ¬ k0.toInt = 60) (c1_6 : k0.toInt = 62) : (2 : Int32).toInt = LVO k0.toInt := by
  have q2 : (2 : Int32).toInt = 2 := by decide +kernel
  unfold LVO
  (repeat' split) <;> omega
-- post @121
theorem vX6_levelOf_15 (k0 : Int32) (c1_0 : ¬ k0.toInt = 37) (c1_1 : ¬ k0.toInt = 42) (c1_2 : ¬ k0.toInt = 43) (c1_3 : ¬ k0.toInt = 45) (c1_4 : ¬ k0.toInt = 47) (c1_5 : ¬ k0.toInt = 60) (c1_6 : ¬ k0.toInt = 62) (c1_7 : k0.toInt = 8509) : (k0.toInt = 0 → (2 : Int32).toInt = -1) := by
  have q2 : (2 : Int32).toInt = 2 := by decide +kernel
  first | assumption | omega | (subst_vars; omega) | trivial
-- post2 @121
theorem vX6_levelOf_16 (k0 : Int32) (c1_0 : ¬ k0.toInt = 37) (c1_1 : ¬ k0.toInt = 42) (c1_2 : ¬ k0.toInt = 43) (c1_3 : ¬ k0.toInt = 45) (c1_4 : ¬ k0.toInt = 47) (c1_5 : ¬ k0.toInt = 60) (c1_6 : ¬ k0.toInt = 62) (c1_7 : k0.toInt = 8509) : (2 : Int32).toInt = LVO k0.toInt := by
  have q2 : (2 : Int32).toInt = 2 := by decide +kernel
  unfold LVO
  (repeat' split) <;> omega
-- post @119
theorem vX6_levelOf_17 (k0 : Int32) (c1_0 : ¬ k0.toInt = 37) (c1_1 : ¬ k0.toInt = 42) (c1_2 : ¬ k0.toInt = 43) (c1_3 : ¬ k0.toInt = 45) (c1_4 : ¬ k0.toInt = 47) (c1_5 : ¬ k0.toInt = 60) (c1_6 : ¬ k0.toInt = 62) (c1_7 : ¬ k0.toInt = 8509) (c1_8 : k0.toInt = 9766) : (k0.toInt = 0 → (1 : Int32).toInt = -1) := by
  have q1 : (1 : Int32).toInt = 1 := by decide +kernel
  first | assumption | omega | (subst_vars; omega) | trivial
-- post2 @119
theorem vX6_levelOf_18 (k0 : Int32) (c1_0 : ¬ k0.toInt = 37) (c1_1 : ¬ k0.toInt = 42) (c1_2 : ¬ k0.toInt = 43) (c1_3 : ¬ k0.toInt = 45) (c1_4 : ¬ k0.toInt = 47) (c1_5 : ¬ k0.toInt = 60) (c1_6 : ¬ k0.toInt = 62) (c1_7 : ¬ k0.toInt = 8509) (c1_8 : k0.toInt = 9766) : (1 : Int32).toInt = LVO k0.toInt := by
  have q1 : (1 : Int32).toInt = 1 := by decide +kernel
  unfold LVO
  (repeat' split) <;> omega
-- post @121
theorem vX6_levelOf_19 (k0 : Int32) (c1_0 : ¬ k0.toInt = 37) (c1_1 : ¬ k0.toInt = 42) (c1_2 : ¬ k0.toInt = 43) (c1_3 : ¬ k0.toInt = 45) (c1_4 : ¬ k0.toInt = 47) (c1_5 : ¬ k0.toInt = 60) (c1_6 : ¬ k0.toInt = 62) (c1_7 : ¬ k0.toInt = 8509) (c1_8 : ¬ k0.toInt = 9766) (c1_9 : k0.toInt = 15421) : (k0.toInt = 0 → (2 : Int32).toInt = -1) := by
  have q2 : (2 : Int32).toInt = 2 := by decide +kernel
  first | assumption | omega | (subst_vars; omega) | trivial
-- post2 @121
theorem vX6_levelOf_20 (k0 : Int32) (c1_0 : ¬ k0.toInt = 37) (c1_1 : ¬ k0.toInt = 42) (c1_2 : ¬ k0.toInt = 43) (c1_3 : ¬ k0.toInt = 45) (c1_4 : ¬ k0.toInt = 47) (c1_5 : ¬ k0.toInt = 60) (c1_6 : ¬ k0.toInt = 62) (c1_7 : ¬ k0.toInt = 8509) (c1_8 : ¬ k0.toInt = 9766) (c1_9 : k0.toInt = 15421) : (2 : Int32).toInt = LVO k0.toInt := by
  have q2 : (2 : Int32).toInt = 2 := by decide +kernel
  unfold LVO
  (repeat' split) <;> omega
-- post @121
theorem vX6_levelOf_21 (k0 : Int32) (c1_0 : ¬ k0.toInt = 37) (c1_1 : ¬ k0.toInt = 42) (c1_2 : ¬ k0.toInt = 43) (c1_3 : ¬ k0.toInt = 45) (c1_4 : ¬ k0.toInt = 47) (c1_5 : ¬ k0.toInt = 60) (c1_6 : ¬ k0.toInt = 62) (c1_7 : ¬ k0.toInt = 8509) (c1_8 : ¬ k0.toInt = 9766) (c1_9 : ¬ k0.toInt = 15421) (c1_10 : k0.toInt = 15677) : (k0.toInt = 0 → (2 : Int32).toInt = -1) := by
  have q2 : (2 : Int32).toInt = 2 := by decide +kernel
  first | assumption | omega | (subst_vars; omega) | trivial
-- post2 @121
theorem vX6_levelOf_22 (k0 : Int32) (c1_0 : ¬ k0.toInt = 37) (c1_1 : ¬ k0.toInt = 42) (c1_2 : ¬ k0.toInt = 43) (c1_3 : ¬ k0.toInt = 45) (c1_4 : ¬ k0.toInt = 47) (c1_5 : ¬ k0.toInt = 60) (c1_6 : ¬ k0.toInt = 62) (c1_7 : ¬ k0.toInt = 8509) (c1_8 : ¬ k0.toInt = 9766) (c1_9 : ¬ k0.toInt = 15421) (c1_10 : k0.toInt = 15677) : (2 : Int32).toInt = LVO k0.toInt := by
  have q2 : (2 : Int32).toInt = 2 := by decide +kernel
  unfold LVO
  (repeat' split) <;> omega
-- post @121
theorem vX6_levelOf_23 (k0 : Int32) (c1_0 : ¬ k0.toInt = 37) (c1_1 : ¬ k0.toInt = 42) (c1_2 : ¬ k0.toInt = 43) (c1_3 : ¬ k0.toInt = 45) (c1_4 : ¬ k0.toInt = 47) (c1_5 : ¬ k0.toInt = 60) (c1_6 : ¬ k0.toInt = 62) (c1_7 : ¬ k0.toInt = 8509) (c1_8 : ¬ k0.toInt = 9766) (c1_9 : ¬ k0.toInt = 15421) (c1_10 : ¬ k0.toInt = 15677) (c1_11 : k0.toInt = 15933) : (k0.toInt = 0 → (2 : Int32).toInt = -1) := by
  have q2 : (2 : Int32).toInt = 2 := by decide +kernel
  first | assumption | omega | (subst_vars; omega) | trivial
-- post2 @121
theorem vX6_levelOf_24 (k0 : Int32) (c1_0 : ¬ k0.toInt = 37) (c1_1 : ¬ k0.toInt = 42) (c1_2 : ¬ k0.toInt = 43) (c1_3 : ¬ k0.toInt = 45) (c1_4 : ¬ k0.toInt = 47) (c1_5 : ¬ k0.toInt = 60) (c1_6 : ¬ k0.toInt = 62) (c1_7 : ¬ k0.toInt = 8509) (c1_8 : ¬ k0.toInt = 9766) (c1_9 : ¬ k0.toInt = 15421) (c1_10 : ¬ k0.toInt = 15677) (c1_11 : k0.toInt = 15933) : (2 : Int32).toInt = LVO k0.toInt := by
  have q2 : (2 : Int32).toInt = 2 := by decide +kernel
  unfold LVO
  (repeat' split) <;> omega
-- post @117
theorem vX6_levelOf_25 (k0 : Int32) (c1_0 : ¬ k0.toInt = 37) (c1_1 : ¬ k0.toInt = 42) (c1_2 : ¬ k0.toInt = 43) (c1_3 : ¬ k0.toInt = 45) (c1_4 : ¬ k0.toInt = 47) (c1_5 : ¬ k0.toInt = 60) (c1_6 : ¬ k0.toInt = 62) (c1_7 : ¬ k0.toInt = 8509) (c1_8 : ¬ k0.toInt = 9766) (c1_9 : ¬ k0.toInt = 15421) (c1_10 : ¬ k0.toInt = 15677) (c1_11 : ¬ k0.toInt = 15933) (c1_12 : k0.toInt = 31868) : (k0.toInt = 0 → (0 : Int32).toInt = -1) := by
  have q0 : (0 : Int32).toInt = 0 := by decide +kernel
  first | assumption | omega | (subst_vars; omega) | trivial
-- post2 @117
theorem vX6_levelOf_26 (k0 : Int32) (c1_0 : ¬ k0.toInt = 37) (c1_1 : ¬ k0.toInt = 42) (c1_2 : ¬ k0.toInt = 43) (c1_3 : ¬ k0.toInt = 45) (c1_4 : ¬ k0.toInt = 47) (c1_5 : ¬ k0.toInt = 60) (c1_6 : ¬ k0.toInt = 62) (c1_7 : ¬ k0.toInt = 8509) (c1_8 : ¬ k0.toInt = 9766) (c1_9 : ¬ k0.toInt = 15421) (c1_10 : ¬ k0.toInt = 15677) (c1_11 : ¬ k0.toInt = 15933) (c1_12 : k0.toInt = 31868) : (0 : Int32).toInt = LVO k0.toInt := by
  have q0 : (0 : Int32).toInt = 0 := by decide +kernel
  unfold LVO
  (repeat' split) <;> omega
-- post @127
theorem vX6_levelOf_27 (k0 : Int32) (c1_0 : ¬ k0.toInt = 37) (c1_1 : ¬ k0.toInt = 42) (c1_2 : ¬ k0.toInt = 43) (c1_3 : ¬ k0.toInt = 45) (c1_4 : ¬ k0.toInt = 47) (c1_5 : ¬ k0.toInt = 60) (c1_6 : ¬ k0.toInt = 62) (c1_7 : ¬ k0.toInt = 8509) (c1_8 : ¬ k0.toInt = 9766) (c1_9 : ¬ k0.toInt = 15421) (c1_10 : ¬ k0.toInt = 15677) (c1_11 : ¬ k0.toInt = 15933) (c1_12 : ¬ k0.toInt = 31868) : (k0.toInt = 0 → (-1 : Int32).toInt = -1) := by
  have qm1 : (-1 : Int32).toInt = (-1) := by decide +kernel
  first | assumption | omega | (subst_vars; omega) | trivial
-- post2 @127
theorem vX6_levelOf_28 (k0 : Int32) (c1_0 : ¬ k0.toInt = 37) (c1_1 : ¬ k0.toInt = 42) (c1_2 : ¬ k0.toInt = 43) (c1_3 : ¬ k0.toInt = 45) (c1_4 : ¬ k0.toInt = 47) (c1_5 : ¬ k0.toInt = 60) (c1_6 : ¬ k0.toInt = 62) (c1_7 : ¬ k0.toInt = 8509) (c1_8 : ¬ k0.toInt = 9766) (c1_9 : ¬ k0.toInt = 15421) (c1_10 : ¬ k0.toInt = 15677) (c1_11 : ¬ k0.toInt = 15933) (c1_12 : ¬ k0.toInt = 31868) : (-1 : Int32).toInt = LVO k0.toInt := by
  have qm1 : (-1 : Int32).toInt = (-1) := by decide +kernel
  unfold LVO
  (repeat' split) <;> omega
set_option maxHeartbeats 4000000 in
set_option maxRecDepth 100000 in
theorem NX6_levelOf (l : Launch) (D : va_G) (cy : Nat → ClassId) (ad : Nat → Nat) (A : Nat → Prop) (sz0 : Nat) (sa : Nat → Nat)  (κ : KS) (sz sl : Nat) (hAF : ∀ q, A q → Fr sz0 q) (hAn : ∀ q : Nat, sz ≤ q → A q) (k0 : Int32)  : Met l yX6_levelOf (Cond.code yX6_levelOf cX6_levelOf 1 (some .int) :: GWc) ({ frames := 0, cells := 0, slots := 0, locals := 0 }) (PcC D cy ad A sz0 sa [.int k0] κ sz sl) (va_Qi (fun (r : Int32) (u : Unit) => (((k0.toInt = 0 → r.toInt = -1))) ∧ (r.toInt = LVO k0.toInt)) (fun (u : Unit) (t : State) => Bx D cy ad A sz sl κ (0) (0) t) A) (0) (0) A := by
  refine CM_of (loc0 := [(0, .int k0)]) (own := RX6) (nm := "levelOf") (by decide) rfl rfl rfl (Nat.le_of_ble_eq_true rfl) hAF hAn ?_
  intro p e s m below meth c ls hsz hsl C hP hS hl
  refine lv_iload_n C.x C.b dX6_levelOf_0 rfl (lv_at hl 0 rfl) ?_
  by_cases c1_0 : k0.toInt = 37
  · refine lv_lookup (off := 123) (tgt := 124) C.x C.b dX6_levelOf_1 (by decide) (by rw [c1_0]; decide) (by decide) ?_
    refine lv_iconst (v := 4) C.x C.b dX6_levelOf_124 (by decide +kernel) ?_
    exact c_reti C hsz hsl () ⟨(vX6_levelOf_1 k0 c1_0), (vX6_levelOf_2 k0 c1_0)⟩ hP hS ⟨(Nat.le_of_ble_eq_true rfl), (Nat.le_of_ble_eq_true rfl)⟩ ⟨(Nat.le_of_ble_eq_true rfl), (Nat.le_of_ble_eq_true rfl)⟩ dX6_levelOf_125
  · by_cases c1_1 : k0.toInt = 42
    · refine lv_lookup (off := 123) (tgt := 124) C.x C.b dX6_levelOf_1 (by decide) (by rw [c1_1]; decide) (by decide) ?_
      refine lv_iconst (v := 4) C.x C.b dX6_levelOf_124 (by decide +kernel) ?_
      exact c_reti C hsz hsl () ⟨(vX6_levelOf_3 k0 c1_0 c1_1), (vX6_levelOf_4 k0 c1_0 c1_1)⟩ hP hS ⟨(Nat.le_of_ble_eq_true rfl), (Nat.le_of_ble_eq_true rfl)⟩ ⟨(Nat.le_of_ble_eq_true rfl), (Nat.le_of_ble_eq_true rfl)⟩ dX6_levelOf_125
    · by_cases c1_2 : k0.toInt = 43
      · refine lv_lookup (off := 121) (tgt := 122) C.x C.b dX6_levelOf_1 (by decide) (by rw [c1_2]; decide) (by decide) ?_
        refine lv_iconst (v := 3) C.x C.b dX6_levelOf_122 (by decide +kernel) ?_
        exact c_reti C hsz hsl () ⟨(vX6_levelOf_5 k0 c1_0 c1_1 c1_2), (vX6_levelOf_6 k0 c1_0 c1_1 c1_2)⟩ hP hS ⟨(Nat.le_of_ble_eq_true rfl), (Nat.le_of_ble_eq_true rfl)⟩ ⟨(Nat.le_of_ble_eq_true rfl), (Nat.le_of_ble_eq_true rfl)⟩ dX6_levelOf_123
      · by_cases c1_3 : k0.toInt = 45
        · refine lv_lookup (off := 121) (tgt := 122) C.x C.b dX6_levelOf_1 (by decide) (by rw [c1_3]; decide) (by decide) ?_
          refine lv_iconst (v := 3) C.x C.b dX6_levelOf_122 (by decide +kernel) ?_
          exact c_reti C hsz hsl () ⟨(vX6_levelOf_7 k0 c1_0 c1_1 c1_2 c1_3), (vX6_levelOf_8 k0 c1_0 c1_1 c1_2 c1_3)⟩ hP hS ⟨(Nat.le_of_ble_eq_true rfl), (Nat.le_of_ble_eq_true rfl)⟩ ⟨(Nat.le_of_ble_eq_true rfl), (Nat.le_of_ble_eq_true rfl)⟩ dX6_levelOf_123
        · by_cases c1_4 : k0.toInt = 47
          · refine lv_lookup (off := 123) (tgt := 124) C.x C.b dX6_levelOf_1 (by decide) (by rw [c1_4]; decide) (by decide) ?_
            refine lv_iconst (v := 4) C.x C.b dX6_levelOf_124 (by decide +kernel) ?_
            exact c_reti C hsz hsl () ⟨(vX6_levelOf_9 k0 c1_0 c1_1 c1_2 c1_3 c1_4), (vX6_levelOf_10 k0 c1_0 c1_1 c1_2 c1_3 c1_4)⟩ hP hS ⟨(Nat.le_of_ble_eq_true rfl), (Nat.le_of_ble_eq_true rfl)⟩ ⟨(Nat.le_of_ble_eq_true rfl), (Nat.le_of_ble_eq_true rfl)⟩ dX6_levelOf_125
          · by_cases c1_5 : k0.toInt = 60
            · refine lv_lookup (off := 119) (tgt := 120) C.x C.b dX6_levelOf_1 (by decide) (by rw [c1_5]; decide) (by decide) ?_
              refine lv_iconst (v := 2) C.x C.b dX6_levelOf_120 (by decide +kernel) ?_
              exact c_reti C hsz hsl () ⟨(vX6_levelOf_11 k0 c1_0 c1_1 c1_2 c1_3 c1_4 c1_5), (vX6_levelOf_12 k0 c1_0 c1_1 c1_2 c1_3 c1_4 c1_5)⟩ hP hS ⟨(Nat.le_of_ble_eq_true rfl), (Nat.le_of_ble_eq_true rfl)⟩ ⟨(Nat.le_of_ble_eq_true rfl), (Nat.le_of_ble_eq_true rfl)⟩ dX6_levelOf_121
            · by_cases c1_6 : k0.toInt = 62
              · refine lv_lookup (off := 119) (tgt := 120) C.x C.b dX6_levelOf_1 (by decide) (by rw [c1_6]; decide) (by decide) ?_
                refine lv_iconst (v := 2) C.x C.b dX6_levelOf_120 (by decide +kernel) ?_
                exact c_reti C hsz hsl () ⟨(vX6_levelOf_13 k0 c1_0 c1_1 c1_2 c1_3 c1_4 c1_5 c1_6), (vX6_levelOf_14 k0 c1_0 c1_1 c1_2 c1_3 c1_4 c1_5 c1_6)⟩ hP hS ⟨(Nat.le_of_ble_eq_true rfl), (Nat.le_of_ble_eq_true rfl)⟩ ⟨(Nat.le_of_ble_eq_true rfl), (Nat.le_of_ble_eq_true rfl)⟩ dX6_levelOf_121
              · by_cases c1_7 : k0.toInt = 8509
                · refine lv_lookup (off := 119) (tgt := 120) C.x C.b dX6_levelOf_1 (by decide) (by rw [c1_7]; decide) (by decide) ?_
                  refine lv_iconst (v := 2) C.x C.b dX6_levelOf_120 (by decide +kernel) ?_
                  exact c_reti C hsz hsl () ⟨(vX6_levelOf_15 k0 c1_0 c1_1 c1_2 c1_3 c1_4 c1_5 c1_6 c1_7), (vX6_levelOf_16 k0 c1_0 c1_1 c1_2 c1_3 c1_4 c1_5 c1_6 c1_7)⟩ hP hS ⟨(Nat.le_of_ble_eq_true rfl), (Nat.le_of_ble_eq_true rfl)⟩ ⟨(Nat.le_of_ble_eq_true rfl), (Nat.le_of_ble_eq_true rfl)⟩ dX6_levelOf_121
                · by_cases c1_8 : k0.toInt = 9766
                  · refine lv_lookup (off := 117) (tgt := 118) C.x C.b dX6_levelOf_1 (by decide) (by rw [c1_8]; decide) (by decide) ?_
                    refine lv_iconst (v := 1) C.x C.b dX6_levelOf_118 (by decide +kernel) ?_
                    exact c_reti C hsz hsl () ⟨(vX6_levelOf_17 k0 c1_0 c1_1 c1_2 c1_3 c1_4 c1_5 c1_6 c1_7 c1_8), (vX6_levelOf_18 k0 c1_0 c1_1 c1_2 c1_3 c1_4 c1_5 c1_6 c1_7 c1_8)⟩ hP hS ⟨(Nat.le_of_ble_eq_true rfl), (Nat.le_of_ble_eq_true rfl)⟩ ⟨(Nat.le_of_ble_eq_true rfl), (Nat.le_of_ble_eq_true rfl)⟩ dX6_levelOf_119
                  · by_cases c1_9 : k0.toInt = 15421
                    · refine lv_lookup (off := 119) (tgt := 120) C.x C.b dX6_levelOf_1 (by decide) (by rw [c1_9]; decide) (by decide) ?_
                      refine lv_iconst (v := 2) C.x C.b dX6_levelOf_120 (by decide +kernel) ?_
                      exact c_reti C hsz hsl () ⟨(vX6_levelOf_19 k0 c1_0 c1_1 c1_2 c1_3 c1_4 c1_5 c1_6 c1_7 c1_8 c1_9), (vX6_levelOf_20 k0 c1_0 c1_1 c1_2 c1_3 c1_4 c1_5 c1_6 c1_7 c1_8 c1_9)⟩ hP hS ⟨(Nat.le_of_ble_eq_true rfl), (Nat.le_of_ble_eq_true rfl)⟩ ⟨(Nat.le_of_ble_eq_true rfl), (Nat.le_of_ble_eq_true rfl)⟩ dX6_levelOf_121
                    · by_cases c1_10 : k0.toInt = 15677
                      · refine lv_lookup (off := 119) (tgt := 120) C.x C.b dX6_levelOf_1 (by decide) (by rw [c1_10]; decide) (by decide) ?_
                        refine lv_iconst (v := 2) C.x C.b dX6_levelOf_120 (by decide +kernel) ?_
                        exact c_reti C hsz hsl () ⟨(vX6_levelOf_21 k0 c1_0 c1_1 c1_2 c1_3 c1_4 c1_5 c1_6 c1_7 c1_8 c1_9 c1_10), (vX6_levelOf_22 k0 c1_0 c1_1 c1_2 c1_3 c1_4 c1_5 c1_6 c1_7 c1_8 c1_9 c1_10)⟩ hP hS ⟨(Nat.le_of_ble_eq_true rfl), (Nat.le_of_ble_eq_true rfl)⟩ ⟨(Nat.le_of_ble_eq_true rfl), (Nat.le_of_ble_eq_true rfl)⟩ dX6_levelOf_121
                      · by_cases c1_11 : k0.toInt = 15933
                        · refine lv_lookup (off := 119) (tgt := 120) C.x C.b dX6_levelOf_1 (by decide) (by rw [c1_11]; decide) (by decide) ?_
                          refine lv_iconst (v := 2) C.x C.b dX6_levelOf_120 (by decide +kernel) ?_
                          exact c_reti C hsz hsl () ⟨(vX6_levelOf_23 k0 c1_0 c1_1 c1_2 c1_3 c1_4 c1_5 c1_6 c1_7 c1_8 c1_9 c1_10 c1_11), (vX6_levelOf_24 k0 c1_0 c1_1 c1_2 c1_3 c1_4 c1_5 c1_6 c1_7 c1_8 c1_9 c1_10 c1_11)⟩ hP hS ⟨(Nat.le_of_ble_eq_true rfl), (Nat.le_of_ble_eq_true rfl)⟩ ⟨(Nat.le_of_ble_eq_true rfl), (Nat.le_of_ble_eq_true rfl)⟩ dX6_levelOf_121
                        · by_cases c1_12 : k0.toInt = 31868
                          · refine lv_lookup (off := 115) (tgt := 116) C.x C.b dX6_levelOf_1 (by decide) (by rw [c1_12]; decide) (by decide) ?_
                            refine lv_iconst (v := 0) C.x C.b dX6_levelOf_116 (by decide +kernel) ?_
                            exact c_reti C hsz hsl () ⟨(vX6_levelOf_25 k0 c1_0 c1_1 c1_2 c1_3 c1_4 c1_5 c1_6 c1_7 c1_8 c1_9 c1_10 c1_11 c1_12), (vX6_levelOf_26 k0 c1_0 c1_1 c1_2 c1_3 c1_4 c1_5 c1_6 c1_7 c1_8 c1_9 c1_10 c1_11 c1_12)⟩ hP hS ⟨(Nat.le_of_ble_eq_true rfl), (Nat.le_of_ble_eq_true rfl)⟩ ⟨(Nat.le_of_ble_eq_true rfl), (Nat.le_of_ble_eq_true rfl)⟩ dX6_levelOf_117
                          · refine lv_lookup (off := 125) (tgt := 126) C.x C.b dX6_levelOf_1 (by decide) (by simp [Op.lookupswitch.offset, c1_0, c1_1, c1_2, c1_3, c1_4, c1_5, c1_6, c1_7, c1_8, c1_9, c1_10, c1_11, c1_12, (show ¬ (37 : Int) = k0.toInt from fun h9 => c1_0 h9.symm), (show ¬ (42 : Int) = k0.toInt from fun h9 => c1_1 h9.symm), (show ¬ (43 : Int) = k0.toInt from fun h9 => c1_2 h9.symm), (show ¬ (45 : Int) = k0.toInt from fun h9 => c1_3 h9.symm), (show ¬ (47 : Int) = k0.toInt from fun h9 => c1_4 h9.symm), (show ¬ (60 : Int) = k0.toInt from fun h9 => c1_5 h9.symm), (show ¬ (62 : Int) = k0.toInt from fun h9 => c1_6 h9.symm), (show ¬ (8509 : Int) = k0.toInt from fun h9 => c1_7 h9.symm), (show ¬ (9766 : Int) = k0.toInt from fun h9 => c1_8 h9.symm), (show ¬ (15421 : Int) = k0.toInt from fun h9 => c1_9 h9.symm), (show ¬ (15677 : Int) = k0.toInt from fun h9 => c1_10 h9.symm), (show ¬ (15933 : Int) = k0.toInt from fun h9 => c1_11 h9.symm), (show ¬ (31868 : Int) = k0.toInt from fun h9 => c1_12 h9.symm)]) (by decide) ?_
                            refine lv_iconst (v := (-1)) C.x C.b dX6_levelOf_126 (by decide +kernel) ?_
                            exact c_reti C hsz hsl () ⟨(vX6_levelOf_27 k0 c1_0 c1_1 c1_2 c1_3 c1_4 c1_5 c1_6 c1_7 c1_8 c1_9 c1_10 c1_11 c1_12), (vX6_levelOf_28 k0 c1_0 c1_1 c1_2 c1_3 c1_4 c1_5 c1_6 c1_7 c1_8 c1_9 c1_10 c1_11 c1_12)⟩ hP hS ⟨(Nat.le_of_ble_eq_true rfl), (Nat.le_of_ble_eq_true rfl)⟩ ⟨(Nat.le_of_ble_eq_true rfl), (Nat.le_of_ble_eq_true rfl)⟩ dX6_levelOf_127

def KX6_choice (l : Launch) (D : va_G) (cy : Nat → ClassId) (ad : Nat → Nat) (A : Nat → Prop) (sz0 : Nat) (sa : Nat → Nat) (d : Nat) : Prop := ∀ (κ : KS) (sz sl : Nat) (hAF : ∀ q, A q → Fr sz0 q) (hAn : ∀ q : Nat, sz ≤ q → A q) (k0 : Int32) (hPV : PV sa κ.2.2.2.2) (hSV : SV ad κ.2.2.2.2 (κ.2.1 0) (κ.2.1 1) (κ.2.2.2.1 6) (κ.2.2.2.1 7) (κ.2.2.2.1 8) (κ.2.2.2.1 13) (κ.2.2.2.1 15) (κ.2.2.2.1 17) (κ.1 1).toInt) (hpre : 0 ≤ (κ.1 3).toInt ∧ (κ.1 3).toInt ≤ (κ.1 7).toInt ∧ (κ.1 7).toInt ≤ 41 ∧ 0 ≤ k0.toInt ∧ k0.toInt ≤ 5 ∧ 5 ≤ k0.toInt + ((d : Nat) : Int)), Met l yX6_choice (Cond.code yX6_choice cX6_choice 4 (some (.object "PhraseDesk$Node")) :: GWc) ({ frames := 16 * d + 20, cells := (2 * ((κ.1 7).toInt - (κ.1 3).toInt)).toNat, slots := (16 * ((κ.1 7).toInt - (κ.1 3).toInt)).toNat, locals := 500 * d + 300 }) (PcC D cy ad A sz0 sa [.ref (ad 1), .int k0] κ sz sl) (va_Qq (fun (r : Option Nat) (u : Int32 × Int32 × Int32 × PL) => ((EX κ.2.2.2.2 u.2.2.2) ∧ (PV sa u.2.2.2) ∧ (SV ad u.2.2.2 (κ.2.1 0) (κ.2.1 1) (κ.2.2.2.1 6) (κ.2.2.2.1 7) (κ.2.2.2.1 8) (κ.2.2.2.1 13) (κ.2.2.2.1 15) (κ.2.2.2.1 17) (κ.1 1).toInt) ∧ (NT u.2.2.2 2 r) ∧ ((κ.1 3).toInt ≤ u.1.toInt ∧ u.1.toInt ≤ (κ.1 7).toInt ∧ ((cto u.2.2.2 r : Nat) : Int) ≤ 2 * (u.1.toInt - (κ.1 3).toInt))) ∧ (LG (cT (κ.2.2.1 10) (κ.1 7)) (cT (κ.2.2.1 12) (κ.1 7)) (cT (κ.2.2.1 11) (κ.1 7)) 0 0 false k0.toInt (κ.1 3).toInt u.2.2.2 r u.1.toInt u.2.1.toInt u.2.2.1.toInt)) (fun (u : Int32 × Int32 × Int32 × PL) (t : State) => Bx D cy ad A sz sl (tP (tI (tI (tI κ 3 u.1) 4 u.2.1) 5 u.2.2.1) u.2.2.2) ((2 * (u.1.toInt - (κ.1 3).toInt)).toNat) ((16 * (u.1.toInt - (κ.1 3).toInt)).toNat) t) A) ((2 * ((κ.1 7).toInt - (κ.1 3).toInt)).toNat) ((16 * ((κ.1 7).toInt - (κ.1 3).toInt)).toNat) A

-- dead@2 @11
theorem vX6_choice_v0_1 (k0 : Int32) (hpre_3 : 0 ≤ k0.toInt) (hpre_4 : k0.toInt ≤ 5) (hpre_5 : 5 ≤ k0.toInt + ((0 : Nat) : Int)) (c1 : k0.toInt ≤ 4) : False := by
  first | assumption | omega | (subst_vars; omega) | trivial
-- pre:X6_refuse@7 @7
theorem vX6_choice_v0_2 (κ : KS) (hpre_0 : 0 ≤ (κ.1 3).toInt) (hpre_1 : (κ.1 3).toInt ≤ (κ.1 7).toInt) (hpre_2 : (κ.1 7).toInt ≤ 41) : (κ.1 7).toInt ≤ 41 := by
  first | assumption | omega | (subst_vars; omega) | trivial
-- frames @7
theorem vX6_choice_v0_3   : 1 + 1 ≤ 16 * 0 + 20 := by
  first | assumption | omega | (subst_vars; omega) | trivial
-- locals @7
theorem vX6_choice_v0_4   : 8 + (2 + 11) + 21 ≤ 500 * 0 + 300 := by
  first | assumption | omega | (subst_vars; omega) | trivial
-- room @7
theorem vX6_choice_v0_5 (κ : KS) (hpre_0 : 0 ≤ (κ.1 3).toInt) (hpre_1 : (κ.1 3).toInt ≤ (κ.1 7).toInt) (hpre_2 : (κ.1 7).toInt ≤ 41) : 0 + 0 ≤ (2 * ((κ.1 7).toInt - (κ.1 3).toInt)).toNat := by
  first | assumption | omega | (subst_vars; omega) | trivial
-- room @7
theorem vX6_choice_v0_6 (κ : KS) (hpre_0 : 0 ≤ (κ.1 3).toInt) (hpre_1 : (κ.1 3).toInt ≤ (κ.1 7).toInt) (hpre_2 : (κ.1 7).toInt ≤ 41) : 0 + 0 ≤ (16 * ((κ.1 7).toInt - (κ.1 3).toInt)).toNat := by
  first | assumption | omega | (subst_vars; omega) | trivial
-- post @10
theorem vX6_choice_v0_7 (κ : KS) (r2 : Option Nat) (hpre_0 : 0 ≤ (κ.1 3).toInt) (hpre_1 : (κ.1 3).toInt ≤ (κ.1 7).toInt) (hpre_2 : (κ.1 7).toInt ≤ 41) (hr2_1 : cto κ.2.2.2.2 r2 = 0) : (κ.1 3).toInt ≤ (κ.1 3).toInt ∧ (κ.1 3).toInt ≤ (κ.1 7).toInt ∧ ((cto κ.2.2.2.2 r2 : Nat) : Int) ≤ 2 * ((κ.1 3).toInt - (κ.1 3).toInt) := by
  refine ⟨?_, ?_, ?_⟩ <;> first | assumption | omega | (subst_vars; omega) | trivial
-- post2 @10
theorem vX6_choice_v0_8 (κ : KS) (k0 : Int32) (n3 : Int32) (n4 : Int32) (r2 : Option Nat) (hpre_0 : 0 ≤ (κ.1 3).toInt) (hpre_1 : (κ.1 3).toInt ≤ (κ.1 7).toInt) (hpre_2 : (κ.1 7).toInt ≤ 41) (hpre_3 : 0 ≤ k0.toInt) (hpre_4 : k0.toInt ≤ 5) (hpre_5 : 5 ≤ k0.toInt + ((0 : Nat) : Int)) (c1 : 4 < k0.toInt) (hr2y_0 : r2 = (none : Option Nat)) (hr2y_1 : n3.toInt = (3 : Int32).toInt) (hr2y_2 : n4.toInt = (cT (κ.2.2.1 11) (κ.1 7)) (κ.1 3).toInt) (hr2_1 : cto κ.2.2.2.2 r2 = 0) : LG (cT (κ.2.2.1 10) (κ.1 7)) (cT (κ.2.2.1 12) (κ.1 7)) (cT (κ.2.2.1 11) (κ.1 7)) 0 0 false k0.toInt (κ.1 3).toInt κ.2.2.2.2 r2 (κ.1 3).toInt n3.toInt n4.toInt := by
  have q3 : (3 : Int32).toInt = 3 := by decide +kernel
  obtain rfl := hr2y_0
  exact gl_deep (by omega) (by omega) (by omega)
-- grow @10
theorem vX6_choice_v0_9 (κ : KS) (hpre_0 : 0 ≤ (κ.1 3).toInt) (hpre_1 : (κ.1 3).toInt ≤ (κ.1 7).toInt) (hpre_2 : (κ.1 7).toInt ≤ 41) : 0 + 0 ≤ (2 * ((κ.1 3).toInt - (κ.1 3).toInt)).toNat := by
  first | assumption | omega | (subst_vars; omega) | trivial
-- grow @10
theorem vX6_choice_v0_10 (κ : KS) (hpre_0 : 0 ≤ (κ.1 3).toInt) (hpre_1 : (κ.1 3).toInt ≤ (κ.1 7).toInt) (hpre_2 : (κ.1 7).toInt ≤ 41) : 0 + 0 ≤ (16 * ((κ.1 3).toInt - (κ.1 3).toInt)).toNat := by
  first | assumption | omega | (subst_vars; omega) | trivial
-- growm @10
theorem vX6_choice_v0_11 (κ : KS) (hpre_0 : 0 ≤ (κ.1 3).toInt) (hpre_1 : (κ.1 3).toInt ≤ (κ.1 7).toInt) (hpre_2 : (κ.1 7).toInt ≤ 41) : (2 * ((κ.1 3).toInt - (κ.1 3).toInt)).toNat ≤ (2 * ((κ.1 7).toInt - (κ.1 3).toInt)).toNat := by
  first | assumption | omega | (subst_vars; omega) | trivial
-- growm @10
theorem vX6_choice_v0_12 (κ : KS) (hpre_0 : 0 ≤ (κ.1 3).toInt) (hpre_1 : (κ.1 3).toInt ≤ (κ.1 7).toInt) (hpre_2 : (κ.1 7).toInt ≤ 41) : (16 * ((κ.1 3).toInt - (κ.1 3).toInt)).toNat ≤ (16 * ((κ.1 7).toInt - (κ.1 3).toInt)).toNat := by
  first | assumption | omega | (subst_vars; omega) | trivial
set_option maxHeartbeats 4000000 in
set_option maxRecDepth 100000 in
theorem NX6_choice_v0 (l : Launch) (D : va_G) (cy : Nat → ClassId) (ad : Nat → Nat) (A : Nat → Prop) (sz0 : Nat) (sa : Nat → Nat)  : KX6_choice l D cy ad A sz0 sa 0 := by
  intro κ sz sl hAF hAn k0 hPV hSV hpre
  refine CM_of (loc0 := [(0, .ref (ad 1)), (1, .int k0)]) (own := RX6) (nm := "choice") (by decide) rfl rfl rfl (Nat.le_of_ble_eq_true rfl) hAF hAn ?_
  intro p e s m below meth c ls hsz hsl C hP hS hl
  obtain ⟨hpre_0, hpre_1, hpre_2, hpre_3, hpre_4, hpre_5⟩ := hpre
  refine lv_iload_n C.x C.b dX6_choice_0 rfl (lv_at hl 1 rfl) ?_
  refine lv_iconst (v := 4) C.x C.b dX6_choice_1 (by decide +kernel) ?_
  refine lv_icmp_le (tgt := 11) C.x C.b dX6_choice_2 (by decide) (fun c1 => ?_) (fun c1 => ?_)
  · have c1 : k0.toInt ≤ 4 := by have h := z_le c1; rw [show (4 : Int32).toInt = 4 from by decide +kernel] at h; exact h
    exact absurd (vX6_choice_v0_1 k0 hpre_3 hpre_4 hpre_5 c1) id
  · have c1 : 4 < k0.toInt := by have h := z_nle c1; rw [show (4 : Int32).toInt = 4 from by decide +kernel] at h; exact h
    refine lv_aload_n C.x C.b dX6_choice_5 rfl (lv_at hl 0 rfl) ?_
    refine lv_iconst (v := 3) C.x C.b dX6_choice_6 (by decide +kernel) ?_
    refine c_callVq (n := 1) (As := [.int 3]) (rest := []) C hP hS hl.1 (NX6_refuse l D cy ad A sz0 sa κ s.heap.size (SLT s.heap) C.f (fun q h => C.a q (Nat.le_trans hS.1 h)) (3 : Int32) (vX6_choice_v0_2 κ hpre_0 hpre_1 hpre_2)) ⟨cw_583, cw_586, by decide +kernel⟩ ⟨cw_584, cw_585, cw_577⟩ rfl (hP.recvS (k := 1) (ci := 8) C.K rfl rfl) rfl rfl (lv_room (Nat.le_of_ble_eq_true rfl)) ⟨(vX6_choice_v0_3  ), (vX6_choice_v0_4  )⟩ ⟨(vX6_choice_v0_5 κ hpre_0 hpre_1 hpre_2), (vX6_choice_v0_6 κ hpre_0 hpre_1 hpre_2)⟩ dX6_choice_7 (fun r2 u H locs hr2 hP hS => ?_)
    obtain ⟨n3, n4⟩ := u
    have hP : CH D cy ad A (tI (tI κ 4 n3) 5 n4) H := hP
    obtain ⟨hr2, hr2y⟩ := hr2
    have hr2y : r2 = (none : Option Nat) ∧ n3.toInt = (3 : Int32).toInt ∧ n4.toInt = (cT (κ.2.2.1 11) (κ.1 7)) (κ.1 3).toInt := hr2y
    have hr2 : (NT κ.2.2.2.2 2 r2) ∧ (cto κ.2.2.2.2 r2 = 0) := hr2
    obtain ⟨hr2_0, hr2_1⟩ := hr2
    obtain ⟨hr2y_0, hr2y_1, hr2y_2⟩ := hr2y
    have hP : CH D cy ad A (tP (tI (tI (tI κ 3 (κ.1 3)) 4 n3) 5 n4) κ.2.2.2.2) H := CH.cong hP rfl rfl rfl rfl rfl rfl rfl rfl rfl rfl rfl rfl rfl rfl rfl rfl rfl rfl rfl rfl rfl rfl rfl rfl rfl rfl rfl
    exact c_retq (v := r2) (Or.inl ⟨_, rfl⟩) C hsz hsl ⟨(κ.1 3), n3, n4, κ.2.2.2.2⟩ ⟨⟨EX.rf, hPV, hSV, hr2_0, (vX6_choice_v0_7 κ r2 hpre_0 hpre_1 hpre_2 hr2_1)⟩, (vX6_choice_v0_8 κ k0 n3 n4 r2 hpre_0 hpre_1 hpre_2 hpre_3 hpre_4 hpre_5 c1 hr2y_0 hr2y_1 hr2y_2 hr2_1)⟩ hP hS ⟨(vX6_choice_v0_9 κ hpre_0 hpre_1 hpre_2), (vX6_choice_v0_10 κ hpre_0 hpre_1 hpre_2)⟩ ⟨(vX6_choice_v0_11 κ hpre_0 hpre_1 hpre_2), (vX6_choice_v0_12 κ hpre_0 hpre_1 hpre_2)⟩ dX6_choice_10

-- pre:X6_takeName@1 @1
theorem vX6_member_1 (κ : KS) (hpre_0 : 0 ≤ (κ.1 3).toInt) (hpre_1 : (κ.1 3).toInt ≤ (κ.1 7).toInt) (hpre_2 : (κ.1 7).toInt ≤ 41) (hpre_6 : (κ.1 3).toInt < (κ.1 7).toInt) : 0 ≤ (κ.1 3).toInt ∧ (κ.1 3).toInt ≤ (κ.1 7).toInt ∧ (κ.1 7).toInt ≤ 41 ∧ (κ.1 3).toInt < (κ.1 7).toInt := by
  refine ⟨?_, ?_, ?_, ?_⟩ <;> first | assumption | omega | (subst_vars; omega) | trivial
-- frames @1
theorem vX6_member_2 (d : Nat)  : 1 + 1 ≤ 16 * d + 25 := by
  first | assumption | omega | (subst_vars; omega) | trivial
-- locals @1
theorem vX6_member_3 (d : Nat)  : 8 + (1 + 11) + 21 ≤ 500 * d + 470 := by
  first | assumption | omega | (subst_vars; omega) | trivial
-- room @1
theorem vX6_member_4 (κ : KS) (hpre_0 : 0 ≤ (κ.1 3).toInt) (hpre_1 : (κ.1 3).toInt ≤ (κ.1 7).toInt) (hpre_2 : (κ.1 7).toInt ≤ 41) (hpre_6 : (κ.1 3).toInt < (κ.1 7).toInt) : 0 + 0 ≤ (2 * ((κ.1 7).toInt - (κ.1 3).toInt) - 1).toNat := by
  first | assumption | omega | (subst_vars; omega) | trivial
-- room @1
theorem vX6_member_5 (κ : KS) (hpre_0 : 0 ≤ (κ.1 3).toInt) (hpre_1 : (κ.1 3).toInt ≤ (κ.1 7).toInt) (hpre_2 : (κ.1 7).toInt ≤ 41) (hpre_6 : (κ.1 3).toInt < (κ.1 7).toInt) : 0 + 0 ≤ (16 * ((κ.1 7).toInt - (κ.1 3).toInt) - 8).toNat := by
  first | assumption | omega | (subst_vars; omega) | trivial
-- pre:X6_takes@8 @8
theorem vX6_member_6 (κ : KS) (n2 : Int32) (hpre_0 : 0 ≤ (κ.1 3).toInt) (hpre_1 : (κ.1 3).toInt ≤ (κ.1 7).toInt) (hpre_2 : (κ.1 7).toInt ≤ 41) (hpre_6 : (κ.1 3).toInt < (κ.1 7).toInt) (hr1 : n2.toInt = (κ.1 3).toInt + 1) : 0 ≤ n2.toInt ∧ n2.toInt ≤ (κ.1 7).toInt ∧ (κ.1 7).toInt ≤ 41 ∧ ¬ (40 : Int32).toInt = 0 := by
  have q40 : (40 : Int32).toInt = 40 := by decide +kernel
  refine ⟨?_, ?_, ?_, ?_⟩ <;> first | assumption | omega | (subst_vars; omega) | trivial
-- frames @8
theorem vX6_member_7 (d : Nat)  : 2 + 1 ≤ 16 * d + 25 := by
  first | assumption | omega | (subst_vars; omega) | trivial
-- locals @8
theorem vX6_member_8 (d : Nat)  : 8 + (2 + 11) + 41 ≤ 500 * d + 470 := by
  first | assumption | omega | (subst_vars; omega) | trivial
-- room @8
theorem vX6_member_9 (κ : KS) (n2 : Int32) (hpre_0 : 0 ≤ (κ.1 3).toInt) (hpre_1 : (κ.1 3).toInt ≤ (κ.1 7).toInt) (hpre_2 : (κ.1 7).toInt ≤ 41) (hpre_6 : (κ.1 3).toInt < (κ.1 7).toInt) (hr1 : n2.toInt = (κ.1 3).toInt + 1) : 0 + 0 + 0 ≤ (2 * ((κ.1 7).toInt - (κ.1 3).toInt) - 1).toNat := by
  first | assumption | omega | (subst_vars; omega) | trivial
-- room @8
theorem vX6_member_10 (κ : KS) (n2 : Int32) (hpre_0 : 0 ≤ (κ.1 3).toInt) (hpre_1 : (κ.1 3).toInt ≤ (κ.1 7).toInt) (hpre_2 : (κ.1 7).toInt ≤ 41) (hpre_6 : (κ.1 3).toInt < (κ.1 7).toInt) (hr1 : n2.toInt = (κ.1 3).toInt + 1) : 0 + 0 + 0 ≤ (16 * ((κ.1 7).toInt - (κ.1 3).toInt) - 8).toNat := by
  first | assumption | omega | (subst_vars; omega) | trivial
-- pre:X6_takes@23 @23
theorem vX6_member_11 (κ : KS) (n2 : Int32) (n4 : Int32) (r3 : Int32) (hpre_0 : 0 ≤ (κ.1 3).toInt) (hpre_1 : (κ.1 3).toInt ≤ (κ.1 7).toInt) (hpre_2 : (κ.1 7).toInt ≤ 41) (hpre_6 : (κ.1 3).toInt < (κ.1 7).toInt) (hr1 : n2.toInt = (κ.1 3).toInt + 1) (hr3_0_0 : 0 ≤ r3.toInt) (hr3_0_1 : r3.toInt ≤ 1) (hr3_1_0 : r3.toInt = 0 → n4.toInt = n2.toInt) (hr3_1_1 : ¬ r3.toInt = 0 → n4.toInt = n2.toInt + 1 ∧ n2.toInt < (κ.1 7).toInt) (c5 : ¬ r3.toInt = 0) : 0 ≤ n4.toInt ∧ n4.toInt ≤ (κ.1 7).toInt ∧ (κ.1 7).toInt ≤ 41 ∧ ¬ (41 : Int32).toInt = 0 := by
  have q41 : (41 : Int32).toInt = 41 := by decide +kernel
  refine ⟨?_, ?_, ?_, ?_⟩ <;> first | assumption | omega | (subst_vars; omega) | trivial
-- room @23
theorem vX6_member_12 (κ : KS) (n2 : Int32) (n4 : Int32) (r3 : Int32) (hpre_0 : 0 ≤ (κ.1 3).toInt) (hpre_1 : (κ.1 3).toInt ≤ (κ.1 7).toInt) (hpre_2 : (κ.1 7).toInt ≤ 41) (hpre_6 : (κ.1 3).toInt < (κ.1 7).toInt) (hr1 : n2.toInt = (κ.1 3).toInt + 1) (hr3_0_0 : 0 ≤ r3.toInt) (hr3_0_1 : r3.toInt ≤ 1) (hr3_1_0 : r3.toInt = 0 → n4.toInt = n2.toInt) (hr3_1_1 : ¬ r3.toInt = 0 → n4.toInt = n2.toInt + 1 ∧ n2.toInt < (κ.1 7).toInt) (c5 : ¬ r3.toInt = 0) : 0 + 0 + 0 + 0 ≤ (2 * ((κ.1 7).toInt - (κ.1 3).toInt) - 1).toNat := by
  first | assumption | omega | (subst_vars; omega) | trivial
-- room @23
theorem vX6_member_13 (κ : KS) (n2 : Int32) (n4 : Int32) (r3 : Int32) (hpre_0 : 0 ≤ (κ.1 3).toInt) (hpre_1 : (κ.1 3).toInt ≤ (κ.1 7).toInt) (hpre_2 : (κ.1 7).toInt ≤ 41) (hpre_6 : (κ.1 3).toInt < (κ.1 7).toInt) (hr1 : n2.toInt = (κ.1 3).toInt + 1) (hr3_0_0 : 0 ≤ r3.toInt) (hr3_0_1 : r3.toInt ≤ 1) (hr3_1_0 : r3.toInt = 0 → n4.toInt = n2.toInt) (hr3_1_1 : ¬ r3.toInt = 0 → n4.toInt = n2.toInt + 1 ∧ n2.toInt < (κ.1 7).toInt) (c5 : ¬ r3.toInt = 0) : 0 + 0 + 0 + 0 ≤ (16 * ((κ.1 7).toInt - (κ.1 3).toInt) - 8).toNat := by
  first | assumption | omega | (subst_vars; omega) | trivial
-- nw@40 @40
theorem vX6_member_14 (k1 : Int32) (d : Nat) (x9 : Int32) (hpre_3 : 0 ≤ k1.toInt) (hpre_4 : k1.toInt ≤ 4) (hpre_5 : 4 ≤ k1.toInt + ((d : Nat) : Int)) (ex9 : x9 = k1 + (1 : Int32)) : x9.toInt = k1.toInt + 1 := by
  have q1 : (1 : Int32).toInt = 1 := by decide +kernel
  have w1 : (1 : Int32).toInt = 1 := by decide +kernel
  rw [ex9, z_add (by omega) (by omega)]; first | done | omega
-- pre:X6_choice@41 @41
theorem vX6_member_15 (κ : KS) (k1 : Int32) (d : Nat) (n2 : Int32) (n4 : Int32) (r3 : Int32) (n7 : Int32) (r6 : Int32) (x9 : Int32) (hpre_0 : 0 ≤ (κ.1 3).toInt) (hpre_1 : (κ.1 3).toInt ≤ (κ.1 7).toInt) (hpre_2 : (κ.1 7).toInt ≤ 41) (hpre_3 : 0 ≤ k1.toInt) (hpre_4 : k1.toInt ≤ 4) (hpre_5 : 4 ≤ k1.toInt + ((d : Nat) : Int)) (hpre_6 : (κ.1 3).toInt < (κ.1 7).toInt) (hr1 : n2.toInt = (κ.1 3).toInt + 1) (hr3_0_0 : 0 ≤ r3.toInt) (hr3_0_1 : r3.toInt ≤ 1) (hr3_1_0 : r3.toInt = 0 → n4.toInt = n2.toInt) (hr3_1_1 : ¬ r3.toInt = 0 → n4.toInt = n2.toInt + 1 ∧ n2.toInt < (κ.1 7).toInt) (c5 : ¬ r3.toInt = 0) (hr6_0_0 : 0 ≤ r6.toInt) (hr6_0_1 : r6.toInt ≤ 1) (hr6_1_0 : r6.toInt = 0 → n7.toInt = n4.toInt) (hr6_1_1 : ¬ r6.toInt = 0 → n7.toInt = n4.toInt + 1 ∧ n4.toInt < (κ.1 7).toInt) (c8 : r6.toInt = 0) (ex9 : x9 = k1 + (1 : Int32)) (tx9 : x9.toInt = k1.toInt + 1) : 0 ≤ n7.toInt ∧ n7.toInt ≤ (κ.1 7).toInt ∧ (κ.1 7).toInt ≤ 41 ∧ 0 ≤ x9.toInt ∧ x9.toInt ≤ 5 ∧ 5 ≤ x9.toInt + ((d : Nat) : Int) := by
  have q1 : (1 : Int32).toInt = 1 := by decide +kernel
  refine ⟨?_, ?_, ?_, ?_, ?_, ?_⟩ <;> first | assumption | omega | (subst_vars; omega) | trivial
-- frames @41
theorem vX6_member_16 (d : Nat)  : 16 * d + 20 + 1 ≤ 16 * d + 25 := by
  first | assumption | omega | (subst_vars; omega) | trivial
-- locals @41
theorem vX6_member_17 (d : Nat)  : 8 + (4 + 11) + (500 * d + 300) ≤ 500 * d + 470 := by
  first | assumption | omega | (subst_vars; omega) | trivial
-- room @41
theorem vX6_member_18 (κ : KS) (n2 : Int32) (n4 : Int32) (r3 : Int32) (n7 : Int32) (r6 : Int32) (hpre_0 : 0 ≤ (κ.1 3).toInt) (hpre_1 : (κ.1 3).toInt ≤ (κ.1 7).toInt) (hpre_2 : (κ.1 7).toInt ≤ 41) (hpre_6 : (κ.1 3).toInt < (κ.1 7).toInt) (hr1 : n2.toInt = (κ.1 3).toInt + 1) (hr3_0_0 : 0 ≤ r3.toInt) (hr3_0_1 : r3.toInt ≤ 1) (hr3_1_0 : r3.toInt = 0 → n4.toInt = n2.toInt) (hr3_1_1 : ¬ r3.toInt = 0 → n4.toInt = n2.toInt + 1 ∧ n2.toInt < (κ.1 7).toInt) (c5 : ¬ r3.toInt = 0) (hr6_0_0 : 0 ≤ r6.toInt) (hr6_0_1 : r6.toInt ≤ 1) (hr6_1_0 : r6.toInt = 0 → n7.toInt = n4.toInt) (hr6_1_1 : ¬ r6.toInt = 0 → n7.toInt = n4.toInt + 1 ∧ n4.toInt < (κ.1 7).toInt) (c8 : r6.toInt = 0) : 0 + 0 + 0 + 0 + ((2 * ((κ.1 7).toInt - n7.toInt)).toNat) ≤ (2 * ((κ.1 7).toInt - (κ.1 3).toInt) - 1).toNat := by
  first | assumption | omega | (subst_vars; omega) | trivial
-- room @41
theorem vX6_member_19 (κ : KS) (n2 : Int32) (n4 : Int32) (r3 : Int32) (n7 : Int32) (r6 : Int32) (hpre_0 : 0 ≤ (κ.1 3).toInt) (hpre_1 : (κ.1 3).toInt ≤ (κ.1 7).toInt) (hpre_2 : (κ.1 7).toInt ≤ 41) (hpre_6 : (κ.1 3).toInt < (κ.1 7).toInt) (hr1 : n2.toInt = (κ.1 3).toInt + 1) (hr3_0_0 : 0 ≤ r3.toInt) (hr3_0_1 : r3.toInt ≤ 1) (hr3_1_0 : r3.toInt = 0 → n4.toInt = n2.toInt) (hr3_1_1 : ¬ r3.toInt = 0 → n4.toInt = n2.toInt + 1 ∧ n2.toInt < (κ.1 7).toInt) (c5 : ¬ r3.toInt = 0) (hr6_0_0 : 0 ≤ r6.toInt) (hr6_0_1 : r6.toInt ≤ 1) (hr6_1_0 : r6.toInt = 0 → n7.toInt = n4.toInt) (hr6_1_1 : ¬ r6.toInt = 0 → n7.toInt = n4.toInt + 1 ∧ n4.toInt < (κ.1 7).toInt) (c8 : r6.toInt = 0) : 0 + 0 + 0 + 0 + ((16 * ((κ.1 7).toInt - n7.toInt)).toNat) ≤ (16 * ((κ.1 7).toInt - (κ.1 3).toInt) - 8).toNat := by
  first | assumption | omega | (subst_vars; omega) | trivial
-- post @52
theorem vX6_member_20 (κ : KS) (k0 : Option Nat) (n2 : Int32) (n4 : Int32) (r3 : Int32) (n7 : Int32) (r6 : Int32) (n11 : Int32) (P14 : PL) (hpre_0 : 0 ≤ (κ.1 3).toInt) (hpre_1 : (κ.1 3).toInt ≤ (κ.1 7).toInt) (hpre_2 : (κ.1 7).toInt ≤ 41) (hpre_6 : (κ.1 3).toInt < (κ.1 7).toInt) (hr1 : n2.toInt = (κ.1 3).toInt + 1) (hr3_0_0 : 0 ≤ r3.toInt) (hr3_0_1 : r3.toInt ≤ 1) (hr3_1_0 : r3.toInt = 0 → n4.toInt = n2.toInt) (hr3_1_1 : ¬ r3.toInt = 0 → n4.toInt = n2.toInt + 1 ∧ n2.toInt < (κ.1 7).toInt) (c5 : ¬ r3.toInt = 0) (hr6_0_0 : 0 ≤ r6.toInt) (hr6_0_1 : r6.toInt ≤ 1) (hr6_1_0 : r6.toInt = 0 → n7.toInt = n4.toInt) (hr6_1_1 : ¬ r6.toInt = 0 → n7.toInt = n4.toInt + 1 ∧ n4.toInt < (κ.1 7).toInt) (c8 : r6.toInt = 0) (kc15 : cto P14 k0 = cto κ.2.2.2.2 k0) (hr10_4_0 : n7.toInt ≤ n11.toInt) (hr10_4_1 : n11.toInt ≤ (κ.1 7).toInt) (hr10_4_2 : ((cto P14 none : Nat) : Int) ≤ 2 * (n11.toInt - n7.toInt)) : (κ.1 3).toInt ≤ n11.toInt ∧ n11.toInt ≤ (κ.1 7).toInt ∧ (κ.1 3).toInt < n11.toInt ∧ ((cto P14 none : Nat) : Int) + 1 ≤ ((cto κ.2.2.2.2 k0 : Nat) : Int) + 2 * (n11.toInt - (κ.1 3).toInt) := by
  have zc0 : cto P14 none = 0 := rfl
  refine ⟨?_, ?_, ?_, ?_⟩ <;> first | assumption | omega | (subst_vars; omega) | trivial
-- post2 @52
theorem vX6_member_21 (κ : KS) (k0 : Option Nat) (k1 : Int32) (d : Nat) (n2 : Int32) (r1 : Int32) (n4 : Int32) (r3 : Int32) (n7 : Int32) (r6 : Int32) (x9 : Int32) (n11 : Int32) (n12 : Int32) (n13 : Int32) (P14 : PL) (hpre_0 : 0 ≤ (κ.1 3).toInt) (hpre_1 : (κ.1 3).toInt ≤ (κ.1 7).toInt) (hpre_2 : (κ.1 7).toInt ≤ 41) (hpre_3 : 0 ≤ k1.toInt) (hpre_4 : k1.toInt ≤ 4) (hpre_5 : 4 ≤ k1.toInt + ((d : Nat) : Int)) (hpre_6 : (κ.1 3).toInt < (κ.1 7).toInt) (hr1y : r1.toInt = (cT (κ.2.2.1 12) (κ.1 7)) (κ.1 3).toInt) (hr1 : n2.toInt = (κ.1 3).toInt + 1) (hr3y_0 : r3.toInt = 0 → ¬ (cT (κ.2.2.1 10) (κ.1 7)) n2.toInt = (40 : Int32).toInt) (hr3y_1 : ¬ r3.toInt = 0 → (cT (κ.2.2.1 10) (κ.1 7)) n2.toInt = (40 : Int32).toInt) (hr3_0_0 : 0 ≤ r3.toInt) (hr3_0_1 : r3.toInt ≤ 1) (hr3_1_0 : r3.toInt = 0 → n4.toInt = n2.toInt) (hr3_1_1 : ¬ r3.toInt = 0 → n4.toInt = n2.toInt + 1 ∧ n2.toInt < (κ.1 7).toInt) (c5 : ¬ r3.toInt = 0) (hr6y_0 : r6.toInt = 0 → ¬ (cT (κ.2.2.1 10) (κ.1 7)) n4.toInt = (41 : Int32).toInt) (hr6y_1 : ¬ r6.toInt = 0 → (cT (κ.2.2.1 10) (κ.1 7)) n4.toInt = (41 : Int32).toInt) (hr6_0_0 : 0 ≤ r6.toInt) (hr6_0_1 : r6.toInt ≤ 1) (hr6_1_0 : r6.toInt = 0 → n7.toInt = n4.toInt) (hr6_1_1 : ¬ r6.toInt = 0 → n7.toInt = n4.toInt + 1 ∧ n4.toInt < (κ.1 7).toInt) (c8 : r6.toInt = 0) (ex9 : x9 = k1 + (1 : Int32)) (tx9 : x9.toInt = k1.toInt + 1) (kc15 : cto P14 k0 = cto κ.2.2.2.2 k0) (hr10y : LG (cT (κ.2.2.1 10) (κ.1 7)) (cT (κ.2.2.1 12) (κ.1 7)) (cT (κ.2.2.1 11) (κ.1 7)) 0 0 false x9.toInt n7.toInt P14 none n11.toInt n12.toInt n13.toInt) (hr10_4_0 : n7.toInt ≤ n11.toInt) (hr10_4_1 : n11.toInt ≤ (κ.1 7).toInt) (hr10_4_2 : ((cto P14 none : Nat) : Int) ≤ 2 * (n11.toInt - n7.toInt)) : ∀ s9 : Bool, LG (cT (κ.2.2.1 10) (κ.1 7)) (cT (κ.2.2.1 12) (κ.1 7)) (cT (κ.2.2.1 11) (κ.1 7)) 10 0 s9 k1.toInt (κ.1 3).toInt P14 none n11.toInt n12.toInt n13.toInt := by
  have q1 : (1 : Int32).toInt = 1 := by decide +kernel
  have q40 : (40 : Int32).toInt = 40 := by decide +kernel
  have q41 : (41 : Int32).toInt = 41 := by decide +kernel
  have zc0 : cto P14 none = 0 := rfl
  intro s9
  have tkhr3y_1 := hr3y_1 c5
  have tkhr6y_0 := hr6y_0 c8
  obtain rfl : n7 = n4 := Int32.toInt_inj.mp (hr6_1_0 c8)
  first
  | exact gl_m1e (a1 := n2.toInt) (by omega) (by omega) (by omega) (by omega) (by omega) hr10y
  | exact gl_m1x (a1 := n2.toInt) (by omega) (by omega) (by omega) (by omega) (by omega) hr10y (by omega) (by omega) (by omega) (by omega)
-- grow @52
theorem vX6_member_22 (κ : KS) (k0 : Option Nat) (n2 : Int32) (n4 : Int32) (r3 : Int32) (n7 : Int32) (r6 : Int32) (n11 : Int32) (P14 : PL) (hpre_0 : 0 ≤ (κ.1 3).toInt) (hpre_1 : (κ.1 3).toInt ≤ (κ.1 7).toInt) (hpre_2 : (κ.1 7).toInt ≤ 41) (hpre_6 : (κ.1 3).toInt < (κ.1 7).toInt) (hr1 : n2.toInt = (κ.1 3).toInt + 1) (hr3_0_0 : 0 ≤ r3.toInt) (hr3_0_1 : r3.toInt ≤ 1) (hr3_1_0 : r3.toInt = 0 → n4.toInt = n2.toInt) (hr3_1_1 : ¬ r3.toInt = 0 → n4.toInt = n2.toInt + 1 ∧ n2.toInt < (κ.1 7).toInt) (c5 : ¬ r3.toInt = 0) (hr6_0_0 : 0 ≤ r6.toInt) (hr6_0_1 : r6.toInt ≤ 1) (hr6_1_0 : r6.toInt = 0 → n7.toInt = n4.toInt) (hr6_1_1 : ¬ r6.toInt = 0 → n7.toInt = n4.toInt + 1 ∧ n4.toInt < (κ.1 7).toInt) (c8 : r6.toInt = 0) (kc15 : cto P14 k0 = cto κ.2.2.2.2 k0) (hr10_4_0 : n7.toInt ≤ n11.toInt) (hr10_4_1 : n11.toInt ≤ (κ.1 7).toInt) (hr10_4_2 : ((cto P14 none : Nat) : Int) ≤ 2 * (n11.toInt - n7.toInt)) : 0 + 0 + 0 + 0 + ((2 * (n11.toInt - n7.toInt)).toNat) ≤ (2 * (n11.toInt - (κ.1 3).toInt) - 1).toNat := by
  have zc0 : cto P14 none = 0 := rfl
  first | assumption | omega | (subst_vars; omega) | trivial
-- grow @52
theorem vX6_member_23 (κ : KS) (k0 : Option Nat) (n2 : Int32) (n4 : Int32) (r3 : Int32) (n7 : Int32) (r6 : Int32) (n11 : Int32) (P14 : PL) (hpre_0 : 0 ≤ (κ.1 3).toInt) (hpre_1 : (κ.1 3).toInt ≤ (κ.1 7).toInt) (hpre_2 : (κ.1 7).toInt ≤ 41) (hpre_6 : (κ.1 3).toInt < (κ.1 7).toInt) (hr1 : n2.toInt = (κ.1 3).toInt + 1) (hr3_0_0 : 0 ≤ r3.toInt) (hr3_0_1 : r3.toInt ≤ 1) (hr3_1_0 : r3.toInt = 0 → n4.toInt = n2.toInt) (hr3_1_1 : ¬ r3.toInt = 0 → n4.toInt = n2.toInt + 1 ∧ n2.toInt < (κ.1 7).toInt) (c5 : ¬ r3.toInt = 0) (hr6_0_0 : 0 ≤ r6.toInt) (hr6_0_1 : r6.toInt ≤ 1) (hr6_1_0 : r6.toInt = 0 → n7.toInt = n4.toInt) (hr6_1_1 : ¬ r6.toInt = 0 → n7.toInt = n4.toInt + 1 ∧ n4.toInt < (κ.1 7).toInt) (c8 : r6.toInt = 0) (kc15 : cto P14 k0 = cto κ.2.2.2.2 k0) (hr10_4_0 : n7.toInt ≤ n11.toInt) (hr10_4_1 : n11.toInt ≤ (κ.1 7).toInt) (hr10_4_2 : ((cto P14 none : Nat) : Int) ≤ 2 * (n11.toInt - n7.toInt)) : 0 + 0 + 0 + 0 + ((16 * (n11.toInt - n7.toInt)).toNat) ≤ (16 * (n11.toInt - (κ.1 3).toInt) - 8).toNat := by
  have zc0 : cto P14 none = 0 := rfl
  first | assumption | omega | (subst_vars; omega) | trivial
-- growm @52
theorem vX6_member_24 (κ : KS) (k0 : Option Nat) (n2 : Int32) (n4 : Int32) (r3 : Int32) (n7 : Int32) (r6 : Int32) (n11 : Int32) (P14 : PL) (hpre_0 : 0 ≤ (κ.1 3).toInt) (hpre_1 : (κ.1 3).toInt ≤ (κ.1 7).toInt) (hpre_2 : (κ.1 7).toInt ≤ 41) (hpre_6 : (κ.1 3).toInt < (κ.1 7).toInt) (hr1 : n2.toInt = (κ.1 3).toInt + 1) (hr3_0_0 : 0 ≤ r3.toInt) (hr3_0_1 : r3.toInt ≤ 1) (hr3_1_0 : r3.toInt = 0 → n4.toInt = n2.toInt) (hr3_1_1 : ¬ r3.toInt = 0 → n4.toInt = n2.toInt + 1 ∧ n2.toInt < (κ.1 7).toInt) (c5 : ¬ r3.toInt = 0) (hr6_0_0 : 0 ≤ r6.toInt) (hr6_0_1 : r6.toInt ≤ 1) (hr6_1_0 : r6.toInt = 0 → n7.toInt = n4.toInt) (hr6_1_1 : ¬ r6.toInt = 0 → n7.toInt = n4.toInt + 1 ∧ n4.toInt < (κ.1 7).toInt) (c8 : r6.toInt = 0) (kc15 : cto P14 k0 = cto κ.2.2.2.2 k0) (hr10_4_0 : n7.toInt ≤ n11.toInt) (hr10_4_1 : n11.toInt ≤ (κ.1 7).toInt) (hr10_4_2 : ((cto P14 none : Nat) : Int) ≤ 2 * (n11.toInt - n7.toInt)) : (2 * (n11.toInt - (κ.1 3).toInt) - 1).toNat ≤ (2 * ((κ.1 7).toInt - (κ.1 3).toInt) - 1).toNat := by
  have zc0 : cto P14 none = 0 := rfl
  first | assumption | omega | (subst_vars; omega) | trivial
-- growm @52
theorem vX6_member_25 (κ : KS) (k0 : Option Nat) (n2 : Int32) (n4 : Int32) (r3 : Int32) (n7 : Int32) (r6 : Int32) (n11 : Int32) (P14 : PL) (hpre_0 : 0 ≤ (κ.1 3).toInt) (hpre_1 : (κ.1 3).toInt ≤ (κ.1 7).toInt) (hpre_2 : (κ.1 7).toInt ≤ 41) (hpre_6 : (κ.1 3).toInt < (κ.1 7).toInt) (hr1 : n2.toInt = (κ.1 3).toInt + 1) (hr3_0_0 : 0 ≤ r3.toInt) (hr3_0_1 : r3.toInt ≤ 1) (hr3_1_0 : r3.toInt = 0 → n4.toInt = n2.toInt) (hr3_1_1 : ¬ r3.toInt = 0 → n4.toInt = n2.toInt + 1 ∧ n2.toInt < (κ.1 7).toInt) (c5 : ¬ r3.toInt = 0) (hr6_0_0 : 0 ≤ r6.toInt) (hr6_0_1 : r6.toInt ≤ 1) (hr6_1_0 : r6.toInt = 0 → n7.toInt = n4.toInt) (hr6_1_1 : ¬ r6.toInt = 0 → n7.toInt = n4.toInt + 1 ∧ n4.toInt < (κ.1 7).toInt) (c8 : r6.toInt = 0) (kc15 : cto P14 k0 = cto κ.2.2.2.2 k0) (hr10_4_0 : n7.toInt ≤ n11.toInt) (hr10_4_1 : n11.toInt ≤ (κ.1 7).toInt) (hr10_4_2 : ((cto P14 none : Nat) : Int) ≤ 2 * (n11.toInt - n7.toInt)) : (16 * (n11.toInt - (κ.1 3).toInt) - 8).toNat ≤ (16 * ((κ.1 7).toInt - (κ.1 3).toInt) - 8).toNat := by
  have zc0 : cto P14 none = 0 := rfl
  first | assumption | omega | (subst_vars; omega) | trivial
-- pre:X6_takes@59 @59
theorem vX6_member_26 (κ : KS) (k0 : Option Nat) (n2 : Int32) (n4 : Int32) (r3 : Int32) (n7 : Int32) (r6 : Int32) (n11 : Int32) (P14 : PL) (b16 : Nat) (hpre_0 : 0 ≤ (κ.1 3).toInt) (hpre_1 : (κ.1 3).toInt ≤ (κ.1 7).toInt) (hpre_2 : (κ.1 7).toInt ≤ 41) (hpre_6 : (κ.1 3).toInt < (κ.1 7).toInt) (hr1 : n2.toInt = (κ.1 3).toInt + 1) (hr3_0_0 : 0 ≤ r3.toInt) (hr3_0_1 : r3.toInt ≤ 1) (hr3_1_0 : r3.toInt = 0 → n4.toInt = n2.toInt) (hr3_1_1 : ¬ r3.toInt = 0 → n4.toInt = n2.toInt + 1 ∧ n2.toInt < (κ.1 7).toInt) (c5 : ¬ r3.toInt = 0) (hr6_0_0 : 0 ≤ r6.toInt) (hr6_0_1 : r6.toInt ≤ 1) (hr6_1_0 : r6.toInt = 0 → n7.toInt = n4.toInt) (hr6_1_1 : ¬ r6.toInt = 0 → n7.toInt = n4.toInt + 1 ∧ n4.toInt < (κ.1 7).toInt) (c8 : r6.toInt = 0) (kc15 : cto P14 k0 = cto κ.2.2.2.2 k0) (hr10_4_0 : n7.toInt ≤ n11.toInt) (hr10_4_1 : n11.toInt ≤ (κ.1 7).toInt) (hr10_4_2 : ((cto P14 (some b16) : Nat) : Int) ≤ 2 * (n11.toInt - n7.toInt)) : 0 ≤ n11.toInt ∧ n11.toInt ≤ (κ.1 7).toInt ∧ (κ.1 7).toInt ≤ 41 ∧ ¬ (44 : Int32).toInt = 0 := by
  have q44 : (44 : Int32).toInt = 44 := by decide +kernel
  refine ⟨?_, ?_, ?_, ?_⟩ <;> first | assumption | omega | (subst_vars; omega) | trivial
-- room @59
theorem vX6_member_27 (κ : KS) (k0 : Option Nat) (n2 : Int32) (n4 : Int32) (r3 : Int32) (n7 : Int32) (r6 : Int32) (n11 : Int32) (P14 : PL) (b16 : Nat) (hpre_0 : 0 ≤ (κ.1 3).toInt) (hpre_1 : (κ.1 3).toInt ≤ (κ.1 7).toInt) (hpre_2 : (κ.1 7).toInt ≤ 41) (hpre_6 : (κ.1 3).toInt < (κ.1 7).toInt) (hr1 : n2.toInt = (κ.1 3).toInt + 1) (hr3_0_0 : 0 ≤ r3.toInt) (hr3_0_1 : r3.toInt ≤ 1) (hr3_1_0 : r3.toInt = 0 → n4.toInt = n2.toInt) (hr3_1_1 : ¬ r3.toInt = 0 → n4.toInt = n2.toInt + 1 ∧ n2.toInt < (κ.1 7).toInt) (c5 : ¬ r3.toInt = 0) (hr6_0_0 : 0 ≤ r6.toInt) (hr6_0_1 : r6.toInt ≤ 1) (hr6_1_0 : r6.toInt = 0 → n7.toInt = n4.toInt) (hr6_1_1 : ¬ r6.toInt = 0 → n7.toInt = n4.toInt + 1 ∧ n4.toInt < (κ.1 7).toInt) (c8 : r6.toInt = 0) (kc15 : cto P14 k0 = cto κ.2.2.2.2 k0) (hr10_4_0 : n7.toInt ≤ n11.toInt) (hr10_4_1 : n11.toInt ≤ (κ.1 7).toInt) (hr10_4_2 : ((cto P14 (some b16) : Nat) : Int) ≤ 2 * (n11.toInt - n7.toInt)) : 0 + 0 + 0 + 0 + ((2 * (n11.toInt - n7.toInt)).toNat) + 0 ≤ (2 * ((κ.1 7).toInt - (κ.1 3).toInt) - 1).toNat := by
  first | assumption | omega | (subst_vars; omega) | trivial
-- room @59
theorem vX6_member_28 (κ : KS) (k0 : Option Nat) (n2 : Int32) (n4 : Int32) (r3 : Int32) (n7 : Int32) (r6 : Int32) (n11 : Int32) (P14 : PL) (b16 : Nat) (hpre_0 : 0 ≤ (κ.1 3).toInt) (hpre_1 : (κ.1 3).toInt ≤ (κ.1 7).toInt) (hpre_2 : (κ.1 7).toInt ≤ 41) (hpre_6 : (κ.1 3).toInt < (κ.1 7).toInt) (hr1 : n2.toInt = (κ.1 3).toInt + 1) (hr3_0_0 : 0 ≤ r3.toInt) (hr3_0_1 : r3.toInt ≤ 1) (hr3_1_0 : r3.toInt = 0 → n4.toInt = n2.toInt) (hr3_1_1 : ¬ r3.toInt = 0 → n4.toInt = n2.toInt + 1 ∧ n2.toInt < (κ.1 7).toInt) (c5 : ¬ r3.toInt = 0) (hr6_0_0 : 0 ≤ r6.toInt) (hr6_0_1 : r6.toInt ≤ 1) (hr6_1_0 : r6.toInt = 0 → n7.toInt = n4.toInt) (hr6_1_1 : ¬ r6.toInt = 0 → n7.toInt = n4.toInt + 1 ∧ n4.toInt < (κ.1 7).toInt) (c8 : r6.toInt = 0) (kc15 : cto P14 k0 = cto κ.2.2.2.2 k0) (hr10_4_0 : n7.toInt ≤ n11.toInt) (hr10_4_1 : n11.toInt ≤ (κ.1 7).toInt) (hr10_4_2 : ((cto P14 (some b16) : Nat) : Int) ≤ 2 * (n11.toInt - n7.toInt)) : 0 + 0 + 0 + 0 + ((16 * (n11.toInt - n7.toInt)).toNat) + 0 ≤ (16 * ((κ.1 7).toInt - (κ.1 3).toInt) - 8).toNat := by
  first | assumption | omega | (subst_vars; omega) | trivial
-- pre:X6_takes@84 @84
theorem vX6_member_29 (κ : KS) (k0 : Option Nat) (n2 : Int32) (n4 : Int32) (r3 : Int32) (n7 : Int32) (r6 : Int32) (n11 : Int32) (P14 : PL) (b16 : Nat) (n18 : Int32) (r17 : Int32) (hpre_0 : 0 ≤ (κ.1 3).toInt) (hpre_1 : (κ.1 3).toInt ≤ (κ.1 7).toInt) (hpre_2 : (κ.1 7).toInt ≤ 41) (hpre_6 : (κ.1 3).toInt < (κ.1 7).toInt) (hr1 : n2.toInt = (κ.1 3).toInt + 1) (hr3_0_0 : 0 ≤ r3.toInt) (hr3_0_1 : r3.toInt ≤ 1) (hr3_1_0 : r3.toInt = 0 → n4.toInt = n2.toInt) (hr3_1_1 : ¬ r3.toInt = 0 → n4.toInt = n2.toInt + 1 ∧ n2.toInt < (κ.1 7).toInt) (c5 : ¬ r3.toInt = 0) (hr6_0_0 : 0 ≤ r6.toInt) (hr6_0_1 : r6.toInt ≤ 1) (hr6_1_0 : r6.toInt = 0 → n7.toInt = n4.toInt) (hr6_1_1 : ¬ r6.toInt = 0 → n7.toInt = n4.toInt + 1 ∧ n4.toInt < (κ.1 7).toInt) (c8 : r6.toInt = 0) (kc15 : cto P14 k0 = cto κ.2.2.2.2 k0) (hr10_4_0 : n7.toInt ≤ n11.toInt) (hr10_4_1 : n11.toInt ≤ (κ.1 7).toInt) (hr10_4_2 : ((cto P14 (some b16) : Nat) : Int) ≤ 2 * (n11.toInt - n7.toInt)) (hr17_0_0 : 0 ≤ r17.toInt) (hr17_0_1 : r17.toInt ≤ 1) (hr17_1_0 : r17.toInt = 0 → n18.toInt = n11.toInt) (hr17_1_1 : ¬ r17.toInt = 0 → n18.toInt = n11.toInt + 1 ∧ n11.toInt < (κ.1 7).toInt) (c19 : r17.toInt = 0) : 0 ≤ n18.toInt ∧ n18.toInt ≤ (κ.1 7).toInt ∧ (κ.1 7).toInt ≤ 41 ∧ ¬ (41 : Int32).toInt = 0 := by
  have q41 : (41 : Int32).toInt = 41 := by decide +kernel
  refine ⟨?_, ?_, ?_, ?_⟩ <;> first | assumption | omega | (subst_vars; omega) | trivial
-- room @84
theorem vX6_member_30 (κ : KS) (k0 : Option Nat) (n2 : Int32) (n4 : Int32) (r3 : Int32) (n7 : Int32) (r6 : Int32) (n11 : Int32) (P14 : PL) (b16 : Nat) (n18 : Int32) (r17 : Int32) (hpre_0 : 0 ≤ (κ.1 3).toInt) (hpre_1 : (κ.1 3).toInt ≤ (κ.1 7).toInt) (hpre_2 : (κ.1 7).toInt ≤ 41) (hpre_6 : (κ.1 3).toInt < (κ.1 7).toInt) (hr1 : n2.toInt = (κ.1 3).toInt + 1) (hr3_0_0 : 0 ≤ r3.toInt) (hr3_0_1 : r3.toInt ≤ 1) (hr3_1_0 : r3.toInt = 0 → n4.toInt = n2.toInt) (hr3_1_1 : ¬ r3.toInt = 0 → n4.toInt = n2.toInt + 1 ∧ n2.toInt < (κ.1 7).toInt) (c5 : ¬ r3.toInt = 0) (hr6_0_0 : 0 ≤ r6.toInt) (hr6_0_1 : r6.toInt ≤ 1) (hr6_1_0 : r6.toInt = 0 → n7.toInt = n4.toInt) (hr6_1_1 : ¬ r6.toInt = 0 → n7.toInt = n4.toInt + 1 ∧ n4.toInt < (κ.1 7).toInt) (c8 : r6.toInt = 0) (kc15 : cto P14 k0 = cto κ.2.2.2.2 k0) (hr10_4_0 : n7.toInt ≤ n11.toInt) (hr10_4_1 : n11.toInt ≤ (κ.1 7).toInt) (hr10_4_2 : ((cto P14 (some b16) : Nat) : Int) ≤ 2 * (n11.toInt - n7.toInt)) (hr17_0_0 : 0 ≤ r17.toInt) (hr17_0_1 : r17.toInt ≤ 1) (hr17_1_0 : r17.toInt = 0 → n18.toInt = n11.toInt) (hr17_1_1 : ¬ r17.toInt = 0 → n18.toInt = n11.toInt + 1 ∧ n11.toInt < (κ.1 7).toInt) (c19 : r17.toInt = 0) : 0 + 0 + 0 + 0 + ((2 * (n11.toInt - n7.toInt)).toNat) + 0 + 0 ≤ (2 * ((κ.1 7).toInt - (κ.1 3).toInt) - 1).toNat := by
  first | assumption | omega | (subst_vars; omega) | trivial
-- room @84
theorem vX6_member_31 (κ : KS) (k0 : Option Nat) (n2 : Int32) (n4 : Int32) (r3 : Int32) (n7 : Int32) (r6 : Int32) (n11 : Int32) (P14 : PL) (b16 : Nat) (n18 : Int32) (r17 : Int32) (hpre_0 : 0 ≤ (κ.1 3).toInt) (hpre_1 : (κ.1 3).toInt ≤ (κ.1 7).toInt) (hpre_2 : (κ.1 7).toInt ≤ 41) (hpre_6 : (κ.1 3).toInt < (κ.1 7).toInt) (hr1 : n2.toInt = (κ.1 3).toInt + 1) (hr3_0_0 : 0 ≤ r3.toInt) (hr3_0_1 : r3.toInt ≤ 1) (hr3_1_0 : r3.toInt = 0 → n4.toInt = n2.toInt) (hr3_1_1 : ¬ r3.toInt = 0 → n4.toInt = n2.toInt + 1 ∧ n2.toInt < (κ.1 7).toInt) (c5 : ¬ r3.toInt = 0) (hr6_0_0 : 0 ≤ r6.toInt) (hr6_0_1 : r6.toInt ≤ 1) (hr6_1_0 : r6.toInt = 0 → n7.toInt = n4.toInt) (hr6_1_1 : ¬ r6.toInt = 0 → n7.toInt = n4.toInt + 1 ∧ n4.toInt < (κ.1 7).toInt) (c8 : r6.toInt = 0) (kc15 : cto P14 k0 = cto κ.2.2.2.2 k0) (hr10_4_0 : n7.toInt ≤ n11.toInt) (hr10_4_1 : n11.toInt ≤ (κ.1 7).toInt) (hr10_4_2 : ((cto P14 (some b16) : Nat) : Int) ≤ 2 * (n11.toInt - n7.toInt)) (hr17_0_0 : 0 ≤ r17.toInt) (hr17_0_1 : r17.toInt ≤ 1) (hr17_1_0 : r17.toInt = 0 → n18.toInt = n11.toInt) (hr17_1_1 : ¬ r17.toInt = 0 → n18.toInt = n11.toInt + 1 ∧ n11.toInt < (κ.1 7).toInt) (c19 : r17.toInt = 0) : 0 + 0 + 0 + 0 + ((16 * (n11.toInt - n7.toInt)).toNat) + 0 + 0 ≤ (16 * ((κ.1 7).toInt - (κ.1 3).toInt) - 8).toNat := by
  first | assumption | omega | (subst_vars; omega) | trivial
-- pre:X6_refuse@104 @104
theorem vX6_member_32 (κ : KS) (k0 : Option Nat) (n2 : Int32) (n4 : Int32) (r3 : Int32) (n7 : Int32) (r6 : Int32) (n11 : Int32) (P14 : PL) (b16 : Nat) (n18 : Int32) (r17 : Int32) (n21 : Int32) (r20 : Int32) (hpre_0 : 0 ≤ (κ.1 3).toInt) (hpre_1 : (κ.1 3).toInt ≤ (κ.1 7).toInt) (hpre_2 : (κ.1 7).toInt ≤ 41) (hpre_6 : (κ.1 3).toInt < (κ.1 7).toInt) (hr1 : n2.toInt = (κ.1 3).toInt + 1) (hr3_0_0 : 0 ≤ r3.toInt) (hr3_0_1 : r3.toInt ≤ 1) (hr3_1_0 : r3.toInt = 0 → n4.toInt = n2.toInt) (hr3_1_1 : ¬ r3.toInt = 0 → n4.toInt = n2.toInt + 1 ∧ n2.toInt < (κ.1 7).toInt) (c5 : ¬ r3.toInt = 0) (hr6_0_0 : 0 ≤ r6.toInt) (hr6_0_1 : r6.toInt ≤ 1) (hr6_1_0 : r6.toInt = 0 → n7.toInt = n4.toInt) (hr6_1_1 : ¬ r6.toInt = 0 → n7.toInt = n4.toInt + 1 ∧ n4.toInt < (κ.1 7).toInt) (c8 : r6.toInt = 0) (kc15 : cto P14 k0 = cto κ.2.2.2.2 k0) (hr10_4_0 : n7.toInt ≤ n11.toInt) (hr10_4_1 : n11.toInt ≤ (κ.1 7).toInt) (hr10_4_2 : ((cto P14 (some b16) : Nat) : Int) ≤ 2 * (n11.toInt - n7.toInt)) (hr17_0_0 : 0 ≤ r17.toInt) (hr17_0_1 : r17.toInt ≤ 1) (hr17_1_0 : r17.toInt = 0 → n18.toInt = n11.toInt) (hr17_1_1 : ¬ r17.toInt = 0 → n18.toInt = n11.toInt + 1 ∧ n11.toInt < (κ.1 7).toInt) (c19 : r17.toInt = 0) (hr20_0_0 : 0 ≤ r20.toInt) (hr20_0_1 : r20.toInt ≤ 1) (hr20_1_0 : r20.toInt = 0 → n21.toInt = n18.toInt) (hr20_1_1 : ¬ r20.toInt = 0 → n21.toInt = n18.toInt + 1 ∧ n18.toInt < (κ.1 7).toInt) (c22 : r20.toInt = 0) : (κ.1 7).toInt ≤ 41 := by
  first | assumption | omega | (subst_vars; omega) | trivial
-- locals @104
theorem vX6_member_33 (d : Nat)  : 8 + (2 + 11) + 21 ≤ 500 * d + 470 := by
  first | assumption | omega | (subst_vars; omega) | trivial
-- room @104
theorem vX6_member_34 (κ : KS) (k0 : Option Nat) (n2 : Int32) (n4 : Int32) (r3 : Int32) (n7 : Int32) (r6 : Int32) (n11 : Int32) (P14 : PL) (b16 : Nat) (n18 : Int32) (r17 : Int32) (n21 : Int32) (r20 : Int32) (hpre_0 : 0 ≤ (κ.1 3).toInt) (hpre_1 : (κ.1 3).toInt ≤ (κ.1 7).toInt) (hpre_2 : (κ.1 7).toInt ≤ 41) (hpre_6 : (κ.1 3).toInt < (κ.1 7).toInt) (hr1 : n2.toInt = (κ.1 3).toInt + 1) (hr3_0_0 : 0 ≤ r3.toInt) (hr3_0_1 : r3.toInt ≤ 1) (hr3_1_0 : r3.toInt = 0 → n4.toInt = n2.toInt) (hr3_1_1 : ¬ r3.toInt = 0 → n4.toInt = n2.toInt + 1 ∧ n2.toInt < (κ.1 7).toInt) (c5 : ¬ r3.toInt = 0) (hr6_0_0 : 0 ≤ r6.toInt) (hr6_0_1 : r6.toInt ≤ 1) (hr6_1_0 : r6.toInt = 0 → n7.toInt = n4.toInt) (hr6_1_1 : ¬ r6.toInt = 0 → n7.toInt = n4.toInt + 1 ∧ n4.toInt < (κ.1 7).toInt) (c8 : r6.toInt = 0) (kc15 : cto P14 k0 = cto κ.2.2.2.2 k0) (hr10_4_0 : n7.toInt ≤ n11.toInt) (hr10_4_1 : n11.toInt ≤ (κ.1 7).toInt) (hr10_4_2 : ((cto P14 (some b16) : Nat) : Int) ≤ 2 * (n11.toInt - n7.toInt)) (hr17_0_0 : 0 ≤ r17.toInt) (hr17_0_1 : r17.toInt ≤ 1) (hr17_1_0 : r17.toInt = 0 → n18.toInt = n11.toInt) (hr17_1_1 : ¬ r17.toInt = 0 → n18.toInt = n11.toInt + 1 ∧ n11.toInt < (κ.1 7).toInt) (c19 : r17.toInt = 0) (hr20_0_0 : 0 ≤ r20.toInt) (hr20_0_1 : r20.toInt ≤ 1) (hr20_1_0 : r20.toInt = 0 → n21.toInt = n18.toInt) (hr20_1_1 : ¬ r20.toInt = 0 → n21.toInt = n18.toInt + 1 ∧ n18.toInt < (κ.1 7).toInt) (c22 : r20.toInt = 0) : 0 + 0 + 0 + 0 + ((2 * (n11.toInt - n7.toInt)).toNat) + 0 + 0 + 0 ≤ (2 * ((κ.1 7).toInt - (κ.1 3).toInt) - 1).toNat := by
  first | assumption | omega | (subst_vars; omega) | trivial
-- room @104
theorem vX6_member_35 (κ : KS) (k0 : Option Nat) (n2 : Int32) (n4 : Int32) (r3 : Int32) (n7 : Int32) (r6 : Int32) (n11 : Int32) (P14 : PL) (b16 : Nat) (n18 : Int32) (r17 : Int32) (n21 : Int32) (r20 : Int32) (hpre_0 : 0 ≤ (κ.1 3).toInt) (hpre_1 : (κ.1 3).toInt ≤ (κ.1 7).toInt) (hpre_2 : (κ.1 7).toInt ≤ 41) (hpre_6 : (κ.1 3).toInt < (κ.1 7).toInt) (hr1 : n2.toInt = (κ.1 3).toInt + 1) (hr3_0_0 : 0 ≤ r3.toInt) (hr3_0_1 : r3.toInt ≤ 1) (hr3_1_0 : r3.toInt = 0 → n4.toInt = n2.toInt) (hr3_1_1 : ¬ r3.toInt = 0 → n4.toInt = n2.toInt + 1 ∧ n2.toInt < (κ.1 7).toInt) (c5 : ¬ r3.toInt = 0) (hr6_0_0 : 0 ≤ r6.toInt) (hr6_0_1 : r6.toInt ≤ 1) (hr6_1_0 : r6.toInt = 0 → n7.toInt = n4.toInt) (hr6_1_1 : ¬ r6.toInt = 0 → n7.toInt = n4.toInt + 1 ∧ n4.toInt < (κ.1 7).toInt) (c8 : r6.toInt = 0) (kc15 : cto P14 k0 = cto κ.2.2.2.2 k0) (hr10_4_0 : n7.toInt ≤ n11.toInt) (hr10_4_1 : n11.toInt ≤ (κ.1 7).toInt) (hr10_4_2 : ((cto P14 (some b16) : Nat) : Int) ≤ 2 * (n11.toInt - n7.toInt)) (hr17_0_0 : 0 ≤ r17.toInt) (hr17_0_1 : r17.toInt ≤ 1) (hr17_1_0 : r17.toInt = 0 → n18.toInt = n11.toInt) (hr17_1_1 : ¬ r17.toInt = 0 → n18.toInt = n11.toInt + 1 ∧ n11.toInt < (κ.1 7).toInt) (c19 : r17.toInt = 0) (hr20_0_0 : 0 ≤ r20.toInt) (hr20_0_1 : r20.toInt ≤ 1) (hr20_1_0 : r20.toInt = 0 → n21.toInt = n18.toInt) (hr20_1_1 : ¬ r20.toInt = 0 → n21.toInt = n18.toInt + 1 ∧ n18.toInt < (κ.1 7).toInt) (c22 : r20.toInt = 0) : 0 + 0 + 0 + 0 + ((16 * (n11.toInt - n7.toInt)).toNat) + 0 + 0 + 0 ≤ (16 * ((κ.1 7).toInt - (κ.1 3).toInt) - 8).toNat := by
  first | assumption | omega | (subst_vars; omega) | trivial
-- post @107
theorem vX6_member_36 (κ : KS) (k0 : Option Nat) (n2 : Int32) (n4 : Int32) (r3 : Int32) (n7 : Int32) (r6 : Int32) (n11 : Int32) (P14 : PL) (b16 : Nat) (n18 : Int32) (r17 : Int32) (n21 : Int32) (r20 : Int32) (r23 : Option Nat) (hpre_0 : 0 ≤ (κ.1 3).toInt) (hpre_1 : (κ.1 3).toInt ≤ (κ.1 7).toInt) (hpre_2 : (κ.1 7).toInt ≤ 41) (hpre_6 : (κ.1 3).toInt < (κ.1 7).toInt) (hr1 : n2.toInt = (κ.1 3).toInt + 1) (hr3_0_0 : 0 ≤ r3.toInt) (hr3_0_1 : r3.toInt ≤ 1) (hr3_1_0 : r3.toInt = 0 → n4.toInt = n2.toInt) (hr3_1_1 : ¬ r3.toInt = 0 → n4.toInt = n2.toInt + 1 ∧ n2.toInt < (κ.1 7).toInt) (c5 : ¬ r3.toInt = 0) (hr6_0_0 : 0 ≤ r6.toInt) (hr6_0_1 : r6.toInt ≤ 1) (hr6_1_0 : r6.toInt = 0 → n7.toInt = n4.toInt) (hr6_1_1 : ¬ r6.toInt = 0 → n7.toInt = n4.toInt + 1 ∧ n4.toInt < (κ.1 7).toInt) (c8 : r6.toInt = 0) (kc15 : cto P14 k0 = cto κ.2.2.2.2 k0) (hr10_4_0 : n7.toInt ≤ n11.toInt) (hr10_4_1 : n11.toInt ≤ (κ.1 7).toInt) (hr10_4_2 : ((cto P14 (some b16) : Nat) : Int) ≤ 2 * (n11.toInt - n7.toInt)) (hr17_0_0 : 0 ≤ r17.toInt) (hr17_0_1 : r17.toInt ≤ 1) (hr17_1_0 : r17.toInt = 0 → n18.toInt = n11.toInt) (hr17_1_1 : ¬ r17.toInt = 0 → n18.toInt = n11.toInt + 1 ∧ n11.toInt < (κ.1 7).toInt) (c19 : r17.toInt = 0) (hr20_0_0 : 0 ≤ r20.toInt) (hr20_0_1 : r20.toInt ≤ 1) (hr20_1_0 : r20.toInt = 0 → n21.toInt = n18.toInt) (hr20_1_1 : ¬ r20.toInt = 0 → n21.toInt = n18.toInt + 1 ∧ n18.toInt < (κ.1 7).toInt) (c22 : r20.toInt = 0) (hr23_1 : cto P14 r23 = 0) : (κ.1 3).toInt ≤ n21.toInt ∧ n21.toInt ≤ (κ.1 7).toInt ∧ (κ.1 3).toInt < n21.toInt ∧ ((cto P14 r23 : Nat) : Int) + 1 ≤ ((cto κ.2.2.2.2 k0 : Nat) : Int) + 2 * (n21.toInt - (κ.1 3).toInt) := by
  refine ⟨?_, ?_, ?_, ?_⟩ <;> first | assumption | omega | (subst_vars; omega) | trivial
-- post2 @107
theorem vX6_member_37 (κ : KS) (k0 : Option Nat) (k1 : Int32) (d : Nat) (n2 : Int32) (r1 : Int32) (n4 : Int32) (r3 : Int32) (n7 : Int32) (r6 : Int32) (x9 : Int32) (n11 : Int32) (n12 : Int32) (n13 : Int32) (P14 : PL) (b16 : Nat) (n18 : Int32) (r17 : Int32) (n21 : Int32) (r20 : Int32) (n24 : Int32) (n25 : Int32) (r23 : Option Nat) (hpre_0 : 0 ≤ (κ.1 3).toInt) (hpre_1 : (κ.1 3).toInt ≤ (κ.1 7).toInt) (hpre_2 : (κ.1 7).toInt ≤ 41) (hpre_3 : 0 ≤ k1.toInt) (hpre_4 : k1.toInt ≤ 4) (hpre_5 : 4 ≤ k1.toInt + ((d : Nat) : Int)) (hpre_6 : (κ.1 3).toInt < (κ.1 7).toInt) (hr1y : r1.toInt = (cT (κ.2.2.1 12) (κ.1 7)) (κ.1 3).toInt) (hr1 : n2.toInt = (κ.1 3).toInt + 1) (hr3y_0 : r3.toInt = 0 → ¬ (cT (κ.2.2.1 10) (κ.1 7)) n2.toInt = (40 : Int32).toInt) (hr3y_1 : ¬ r3.toInt = 0 → (cT (κ.2.2.1 10) (κ.1 7)) n2.toInt = (40 : Int32).toInt) (hr3_0_0 : 0 ≤ r3.toInt) (hr3_0_1 : r3.toInt ≤ 1) (hr3_1_0 : r3.toInt = 0 → n4.toInt = n2.toInt) (hr3_1_1 : ¬ r3.toInt = 0 → n4.toInt = n2.toInt + 1 ∧ n2.toInt < (κ.1 7).toInt) (c5 : ¬ r3.toInt = 0) (hr6y_0 : r6.toInt = 0 → ¬ (cT (κ.2.2.1 10) (κ.1 7)) n4.toInt = (41 : Int32).toInt) (hr6y_1 : ¬ r6.toInt = 0 → (cT (κ.2.2.1 10) (κ.1 7)) n4.toInt = (41 : Int32).toInt) (hr6_0_0 : 0 ≤ r6.toInt) (hr6_0_1 : r6.toInt ≤ 1) (hr6_1_0 : r6.toInt = 0 → n7.toInt = n4.toInt) (hr6_1_1 : ¬ r6.toInt = 0 → n7.toInt = n4.toInt + 1 ∧ n4.toInt < (κ.1 7).toInt) (c8 : r6.toInt = 0) (ex9 : x9 = k1 + (1 : Int32)) (tx9 : x9.toInt = k1.toInt + 1) (kc15 : cto P14 k0 = cto κ.2.2.2.2 k0) (hr10y : LG (cT (κ.2.2.1 10) (κ.1 7)) (cT (κ.2.2.1 12) (κ.1 7)) (cT (κ.2.2.1 11) (κ.1 7)) 0 0 false x9.toInt n7.toInt P14 (some b16) n11.toInt n12.toInt n13.toInt) (hr10_4_0 : n7.toInt ≤ n11.toInt) (hr10_4_1 : n11.toInt ≤ (κ.1 7).toInt) (hr10_4_2 : ((cto P14 (some b16) : Nat) : Int) ≤ 2 * (n11.toInt - n7.toInt)) (hr17y_0 : r17.toInt = 0 → ¬ (cT (κ.2.2.1 10) (κ.1 7)) n11.toInt = (44 : Int32).toInt) (hr17y_1 : ¬ r17.toInt = 0 → (cT (κ.2.2.1 10) (κ.1 7)) n11.toInt = (44 : Int32).toInt) (hr17_0_0 : 0 ≤ r17.toInt) (hr17_0_1 : r17.toInt ≤ 1) (hr17_1_0 : r17.toInt = 0 → n18.toInt = n11.toInt) (hr17_1_1 : ¬ r17.toInt = 0 → n18.toInt = n11.toInt + 1 ∧ n11.toInt < (κ.1 7).toInt) (c19 : r17.toInt = 0) (hr20y_0 : r20.toInt = 0 → ¬ (cT (κ.2.2.1 10) (κ.1 7)) n18.toInt = (41 : Int32).toInt) (hr20y_1 : ¬ r20.toInt = 0 → (cT (κ.2.2.1 10) (κ.1 7)) n18.toInt = (41 : Int32).toInt) (hr20_0_0 : 0 ≤ r20.toInt) (hr20_0_1 : r20.toInt ≤ 1) (hr20_1_0 : r20.toInt = 0 → n21.toInt = n18.toInt) (hr20_1_1 : ¬ r20.toInt = 0 → n21.toInt = n18.toInt + 1 ∧ n18.toInt < (κ.1 7).toInt) (c22 : r20.toInt = 0) (hr23y_0 : r23 = (none : Option Nat)) (hr23y_1 : n24.toInt = (2 : Int32).toInt) (hr23y_2 : n25.toInt = (cT (κ.2.2.1 11) (κ.1 7)) n21.toInt) (hr23_1 : cto P14 r23 = 0) : ∀ s9 : Bool, LG (cT (κ.2.2.1 10) (κ.1 7)) (cT (κ.2.2.1 12) (κ.1 7)) (cT (κ.2.2.1 11) (κ.1 7)) 10 0 s9 k1.toInt (κ.1 3).toInt P14 r23 n21.toInt n24.toInt n25.toInt := by
  have q1 : (1 : Int32).toInt = 1 := by decide +kernel
  have q2 : (2 : Int32).toInt = 2 := by decide +kernel
  have q40 : (40 : Int32).toInt = 40 := by decide +kernel
  have q41 : (41 : Int32).toInt = 41 := by decide +kernel
  have q44 : (44 : Int32).toInt = 44 := by decide +kernel
  intro s9
  have tkhr3y_1 := hr3y_1 c5
  have tkhr6y_0 := hr6y_0 c8
  obtain rfl : n7 = n4 := Int32.toInt_inj.mp (hr6_1_0 c8)
  have tkhr17y_0 := hr17y_0 c19
  obtain rfl : n18 = n11 := Int32.toInt_inj.mp (hr17_1_0 c19)
  have tkhr20y_0 := hr20y_0 c22
  obtain rfl : n21 = n18 := Int32.toInt_inj.mp (hr20_1_0 c22)
  obtain rfl := hr23y_0
  first
  | exact gl_m1e (a1 := n2.toInt) (by omega) (by omega) (by omega) (by omega) (by omega) hr10y
  | exact gl_m1x (a1 := n2.toInt) (by omega) (by omega) (by omega) (by omega) (by omega) hr10y (by omega) (by omega) (by omega) (by omega)
-- grow @107
theorem vX6_member_38 (κ : KS) (k0 : Option Nat) (n2 : Int32) (n4 : Int32) (r3 : Int32) (n7 : Int32) (r6 : Int32) (n11 : Int32) (P14 : PL) (b16 : Nat) (n18 : Int32) (r17 : Int32) (n21 : Int32) (r20 : Int32) (r23 : Option Nat) (hpre_0 : 0 ≤ (κ.1 3).toInt) (hpre_1 : (κ.1 3).toInt ≤ (κ.1 7).toInt) (hpre_2 : (κ.1 7).toInt ≤ 41) (hpre_6 : (κ.1 3).toInt < (κ.1 7).toInt) (hr1 : n2.toInt = (κ.1 3).toInt + 1) (hr3_0_0 : 0 ≤ r3.toInt) (hr3_0_1 : r3.toInt ≤ 1) (hr3_1_0 : r3.toInt = 0 → n4.toInt = n2.toInt) (hr3_1_1 : ¬ r3.toInt = 0 → n4.toInt = n2.toInt + 1 ∧ n2.toInt < (κ.1 7).toInt) (c5 : ¬ r3.toInt = 0) (hr6_0_0 : 0 ≤ r6.toInt) (hr6_0_1 : r6.toInt ≤ 1) (hr6_1_0 : r6.toInt = 0 → n7.toInt = n4.toInt) (hr6_1_1 : ¬ r6.toInt = 0 → n7.toInt = n4.toInt + 1 ∧ n4.toInt < (κ.1 7).toInt) (c8 : r6.toInt = 0) (kc15 : cto P14 k0 = cto κ.2.2.2.2 k0) (hr10_4_0 : n7.toInt ≤ n11.toInt) (hr10_4_1 : n11.toInt ≤ (κ.1 7).toInt) (hr10_4_2 : ((cto P14 (some b16) : Nat) : Int) ≤ 2 * (n11.toInt - n7.toInt)) (hr17_0_0 : 0 ≤ r17.toInt) (hr17_0_1 : r17.toInt ≤ 1) (hr17_1_0 : r17.toInt = 0 → n18.toInt = n11.toInt) (hr17_1_1 : ¬ r17.toInt = 0 → n18.toInt = n11.toInt + 1 ∧ n11.toInt < (κ.1 7).toInt) (c19 : r17.toInt = 0) (hr20_0_0 : 0 ≤ r20.toInt) (hr20_0_1 : r20.toInt ≤ 1) (hr20_1_0 : r20.toInt = 0 → n21.toInt = n18.toInt) (hr20_1_1 : ¬ r20.toInt = 0 → n21.toInt = n18.toInt + 1 ∧ n18.toInt < (κ.1 7).toInt) (c22 : r20.toInt = 0) (hr23_1 : cto P14 r23 = 0) : 0 + 0 + 0 + 0 + ((2 * (n11.toInt - n7.toInt)).toNat) + 0 + 0 + 0 ≤ (2 * (n21.toInt - (κ.1 3).toInt) - 1).toNat := by
  first | assumption | omega | (subst_vars; omega) | trivial
-- grow @107
theorem vX6_member_39 (κ : KS) (k0 : Option Nat) (n2 : Int32) (n4 : Int32) (r3 : Int32) (n7 : Int32) (r6 : Int32) (n11 : Int32) (P14 : PL) (b16 : Nat) (n18 : Int32) (r17 : Int32) (n21 : Int32) (r20 : Int32) (r23 : Option Nat) (hpre_0 : 0 ≤ (κ.1 3).toInt) (hpre_1 : (κ.1 3).toInt ≤ (κ.1 7).toInt) (hpre_2 : (κ.1 7).toInt ≤ 41) (hpre_6 : (κ.1 3).toInt < (κ.1 7).toInt) (hr1 : n2.toInt = (κ.1 3).toInt + 1) (hr3_0_0 : 0 ≤ r3.toInt) (hr3_0_1 : r3.toInt ≤ 1) (hr3_1_0 : r3.toInt = 0 → n4.toInt = n2.toInt) (hr3_1_1 : ¬ r3.toInt = 0 → n4.toInt = n2.toInt + 1 ∧ n2.toInt < (κ.1 7).toInt) (c5 : ¬ r3.toInt = 0) (hr6_0_0 : 0 ≤ r6.toInt) (hr6_0_1 : r6.toInt ≤ 1) (hr6_1_0 : r6.toInt = 0 → n7.toInt = n4.toInt) (hr6_1_1 : ¬ r6.toInt = 0 → n7.toInt = n4.toInt + 1 ∧ n4.toInt < (κ.1 7).toInt) (c8 : r6.toInt = 0) (kc15 : cto P14 k0 = cto κ.2.2.2.2 k0) (hr10_4_0 : n7.toInt ≤ n11.toInt) (hr10_4_1 : n11.toInt ≤ (κ.1 7).toInt) (hr10_4_2 : ((cto P14 (some b16) : Nat) : Int) ≤ 2 * (n11.toInt - n7.toInt)) (hr17_0_0 : 0 ≤ r17.toInt) (hr17_0_1 : r17.toInt ≤ 1) (hr17_1_0 : r17.toInt = 0 → n18.toInt = n11.toInt) (hr17_1_1 : ¬ r17.toInt = 0 → n18.toInt = n11.toInt + 1 ∧ n11.toInt < (κ.1 7).toInt) (c19 : r17.toInt = 0) (hr20_0_0 : 0 ≤ r20.toInt) (hr20_0_1 : r20.toInt ≤ 1) (hr20_1_0 : r20.toInt = 0 → n21.toInt = n18.toInt) (hr20_1_1 : ¬ r20.toInt = 0 → n21.toInt = n18.toInt + 1 ∧ n18.toInt < (κ.1 7).toInt) (c22 : r20.toInt = 0) (hr23_1 : cto P14 r23 = 0) : 0 + 0 + 0 + 0 + ((16 * (n11.toInt - n7.toInt)).toNat) + 0 + 0 + 0 ≤ (16 * (n21.toInt - (κ.1 3).toInt) - 8).toNat := by
  first | assumption | omega | (subst_vars; omega) | trivial
-- growm @107
theorem vX6_member_40 (κ : KS) (k0 : Option Nat) (n2 : Int32) (n4 : Int32) (r3 : Int32) (n7 : Int32) (r6 : Int32) (n11 : Int32) (P14 : PL) (b16 : Nat) (n18 : Int32) (r17 : Int32) (n21 : Int32) (r20 : Int32) (r23 : Option Nat) (hpre_0 : 0 ≤ (κ.1 3).toInt) (hpre_1 : (κ.1 3).toInt ≤ (κ.1 7).toInt) (hpre_2 : (κ.1 7).toInt ≤ 41) (hpre_6 : (κ.1 3).toInt < (κ.1 7).toInt) (hr1 : n2.toInt = (κ.1 3).toInt + 1) (hr3_0_0 : 0 ≤ r3.toInt) (hr3_0_1 : r3.toInt ≤ 1) (hr3_1_0 : r3.toInt = 0 → n4.toInt = n2.toInt) (hr3_1_1 : ¬ r3.toInt = 0 → n4.toInt = n2.toInt + 1 ∧ n2.toInt < (κ.1 7).toInt) (c5 : ¬ r3.toInt = 0) (hr6_0_0 : 0 ≤ r6.toInt) (hr6_0_1 : r6.toInt ≤ 1) (hr6_1_0 : r6.toInt = 0 → n7.toInt = n4.toInt) (hr6_1_1 : ¬ r6.toInt = 0 → n7.toInt = n4.toInt + 1 ∧ n4.toInt < (κ.1 7).toInt) (c8 : r6.toInt = 0) (kc15 : cto P14 k0 = cto κ.2.2.2.2 k0) (hr10_4_0 : n7.toInt ≤ n11.toInt) (hr10_4_1 : n11.toInt ≤ (κ.1 7).toInt) (hr10_4_2 : ((cto P14 (some b16) : Nat) : Int) ≤ 2 * (n11.toInt - n7.toInt)) (hr17_0_0 : 0 ≤ r17.toInt) (hr17_0_1 : r17.toInt ≤ 1) (hr17_1_0 : r17.toInt = 0 → n18.toInt = n11.toInt) (hr17_1_1 : ¬ r17.toInt = 0 → n18.toInt = n11.toInt + 1 ∧ n11.toInt < (κ.1 7).toInt) (c19 : r17.toInt = 0) (hr20_0_0 : 0 ≤ r20.toInt) (hr20_0_1 : r20.toInt ≤ 1) (hr20_1_0 : r20.toInt = 0 → n21.toInt = n18.toInt) (hr20_1_1 : ¬ r20.toInt = 0 → n21.toInt = n18.toInt + 1 ∧ n18.toInt < (κ.1 7).toInt) (c22 : r20.toInt = 0) (hr23_1 : cto P14 r23 = 0) : (2 * (n21.toInt - (κ.1 3).toInt) - 1).toNat ≤ (2 * ((κ.1 7).toInt - (κ.1 3).toInt) - 1).toNat := by
  first | assumption | omega | (subst_vars; omega) | trivial
-- growm @107
theorem vX6_member_41 (κ : KS) (k0 : Option Nat) (n2 : Int32) (n4 : Int32) (r3 : Int32) (n7 : Int32) (r6 : Int32) (n11 : Int32) (P14 : PL) (b16 : Nat) (n18 : Int32) (r17 : Int32) (n21 : Int32) (r20 : Int32) (r23 : Option Nat) (hpre_0 : 0 ≤ (κ.1 3).toInt) (hpre_1 : (κ.1 3).toInt ≤ (κ.1 7).toInt) (hpre_2 : (κ.1 7).toInt ≤ 41) (hpre_6 : (κ.1 3).toInt < (κ.1 7).toInt) (hr1 : n2.toInt = (κ.1 3).toInt + 1) (hr3_0_0 : 0 ≤ r3.toInt) (hr3_0_1 : r3.toInt ≤ 1) (hr3_1_0 : r3.toInt = 0 → n4.toInt = n2.toInt) (hr3_1_1 : ¬ r3.toInt = 0 → n4.toInt = n2.toInt + 1 ∧ n2.toInt < (κ.1 7).toInt) (c5 : ¬ r3.toInt = 0) (hr6_0_0 : 0 ≤ r6.toInt) (hr6_0_1 : r6.toInt ≤ 1) (hr6_1_0 : r6.toInt = 0 → n7.toInt = n4.toInt) (hr6_1_1 : ¬ r6.toInt = 0 → n7.toInt = n4.toInt + 1 ∧ n4.toInt < (κ.1 7).toInt) (c8 : r6.toInt = 0) (kc15 : cto P14 k0 = cto κ.2.2.2.2 k0) (hr10_4_0 : n7.toInt ≤ n11.toInt) (hr10_4_1 : n11.toInt ≤ (κ.1 7).toInt) (hr10_4_2 : ((cto P14 (some b16) : Nat) : Int) ≤ 2 * (n11.toInt - n7.toInt)) (hr17_0_0 : 0 ≤ r17.toInt) (hr17_0_1 : r17.toInt ≤ 1) (hr17_1_0 : r17.toInt = 0 → n18.toInt = n11.toInt) (hr17_1_1 : ¬ r17.toInt = 0 → n18.toInt = n11.toInt + 1 ∧ n11.toInt < (κ.1 7).toInt) (c19 : r17.toInt = 0) (hr20_0_0 : 0 ≤ r20.toInt) (hr20_0_1 : r20.toInt ≤ 1) (hr20_1_0 : r20.toInt = 0 → n21.toInt = n18.toInt) (hr20_1_1 : ¬ r20.toInt = 0 → n21.toInt = n18.toInt + 1 ∧ n18.toInt < (κ.1 7).toInt) (c22 : r20.toInt = 0) (hr23_1 : cto P14 r23 = 0) : (16 * (n21.toInt - (κ.1 3).toInt) - 8).toNat ≤ (16 * ((κ.1 7).toInt - (κ.1 3).toInt) - 8).toNat := by
  first | assumption | omega | (subst_vars; omega) | trivial
-- locals @96
theorem vX6_member_42 (d : Nat)  : 8 + (4 + 11) + 46 ≤ 500 * d + 470 := by
  first | assumption | omega | (subst_vars; omega) | trivial
-- room @96
theorem vX6_member_43 (κ : KS) (k0 : Option Nat) (n2 : Int32) (n4 : Int32) (r3 : Int32) (n7 : Int32) (r6 : Int32) (n11 : Int32) (P14 : PL) (b16 : Nat) (n18 : Int32) (r17 : Int32) (n21 : Int32) (r20 : Int32) (hpre_0 : 0 ≤ (κ.1 3).toInt) (hpre_1 : (κ.1 3).toInt ≤ (κ.1 7).toInt) (hpre_2 : (κ.1 7).toInt ≤ 41) (hpre_6 : (κ.1 3).toInt < (κ.1 7).toInt) (hr1 : n2.toInt = (κ.1 3).toInt + 1) (hr3_0_0 : 0 ≤ r3.toInt) (hr3_0_1 : r3.toInt ≤ 1) (hr3_1_0 : r3.toInt = 0 → n4.toInt = n2.toInt) (hr3_1_1 : ¬ r3.toInt = 0 → n4.toInt = n2.toInt + 1 ∧ n2.toInt < (κ.1 7).toInt) (c5 : ¬ r3.toInt = 0) (hr6_0_0 : 0 ≤ r6.toInt) (hr6_0_1 : r6.toInt ≤ 1) (hr6_1_0 : r6.toInt = 0 → n7.toInt = n4.toInt) (hr6_1_1 : ¬ r6.toInt = 0 → n7.toInt = n4.toInt + 1 ∧ n4.toInt < (κ.1 7).toInt) (c8 : r6.toInt = 0) (kc15 : cto P14 k0 = cto κ.2.2.2.2 k0) (hr10_4_0 : n7.toInt ≤ n11.toInt) (hr10_4_1 : n11.toInt ≤ (κ.1 7).toInt) (hr10_4_2 : ((cto P14 (some b16) : Nat) : Int) ≤ 2 * (n11.toInt - n7.toInt)) (hr17_0_0 : 0 ≤ r17.toInt) (hr17_0_1 : r17.toInt ≤ 1) (hr17_1_0 : r17.toInt = 0 → n18.toInt = n11.toInt) (hr17_1_1 : ¬ r17.toInt = 0 → n18.toInt = n11.toInt + 1 ∧ n11.toInt < (κ.1 7).toInt) (c19 : r17.toInt = 0) (hr20_0_0 : 0 ≤ r20.toInt) (hr20_0_1 : r20.toInt ≤ 1) (hr20_1_0 : r20.toInt = 0 → n21.toInt = n18.toInt) (hr20_1_1 : ¬ r20.toInt = 0 → n21.toInt = n18.toInt + 1 ∧ n18.toInt < (κ.1 7).toInt) (c22 : ¬ r20.toInt = 0) : 0 + 0 + 0 + 0 + ((2 * (n11.toInt - n7.toInt)).toNat) + 0 + 0 + 1 ≤ (2 * ((κ.1 7).toInt - (κ.1 3).toInt) - 1).toNat := by
  first | assumption | omega | (subst_vars; omega) | trivial
-- room @96
theorem vX6_member_44 (κ : KS) (k0 : Option Nat) (n2 : Int32) (n4 : Int32) (r3 : Int32) (n7 : Int32) (r6 : Int32) (n11 : Int32) (P14 : PL) (b16 : Nat) (n18 : Int32) (r17 : Int32) (n21 : Int32) (r20 : Int32) (hpre_0 : 0 ≤ (κ.1 3).toInt) (hpre_1 : (κ.1 3).toInt ≤ (κ.1 7).toInt) (hpre_2 : (κ.1 7).toInt ≤ 41) (hpre_6 : (κ.1 3).toInt < (κ.1 7).toInt) (hr1 : n2.toInt = (κ.1 3).toInt + 1) (hr3_0_0 : 0 ≤ r3.toInt) (hr3_0_1 : r3.toInt ≤ 1) (hr3_1_0 : r3.toInt = 0 → n4.toInt = n2.toInt) (hr3_1_1 : ¬ r3.toInt = 0 → n4.toInt = n2.toInt + 1 ∧ n2.toInt < (κ.1 7).toInt) (c5 : ¬ r3.toInt = 0) (hr6_0_0 : 0 ≤ r6.toInt) (hr6_0_1 : r6.toInt ≤ 1) (hr6_1_0 : r6.toInt = 0 → n7.toInt = n4.toInt) (hr6_1_1 : ¬ r6.toInt = 0 → n7.toInt = n4.toInt + 1 ∧ n4.toInt < (κ.1 7).toInt) (c8 : r6.toInt = 0) (kc15 : cto P14 k0 = cto κ.2.2.2.2 k0) (hr10_4_0 : n7.toInt ≤ n11.toInt) (hr10_4_1 : n11.toInt ≤ (κ.1 7).toInt) (hr10_4_2 : ((cto P14 (some b16) : Nat) : Int) ≤ 2 * (n11.toInt - n7.toInt)) (hr17_0_0 : 0 ≤ r17.toInt) (hr17_0_1 : r17.toInt ≤ 1) (hr17_1_0 : r17.toInt = 0 → n18.toInt = n11.toInt) (hr17_1_1 : ¬ r17.toInt = 0 → n18.toInt = n11.toInt + 1 ∧ n11.toInt < (κ.1 7).toInt) (c19 : r17.toInt = 0) (hr20_0_0 : 0 ≤ r20.toInt) (hr20_0_1 : r20.toInt ≤ 1) (hr20_1_0 : r20.toInt = 0 → n21.toInt = n18.toInt) (hr20_1_1 : ¬ r20.toInt = 0 → n21.toInt = n18.toInt + 1 ∧ n18.toInt < (κ.1 7).toInt) (c22 : ¬ r20.toInt = 0) : 0 + 0 + 0 + 0 + ((16 * (n11.toInt - n7.toInt)).toNat) + 0 + 0 + 8 ≤ (16 * ((κ.1 7).toInt - (κ.1 3).toInt) - 8).toNat := by
  first | assumption | omega | (subst_vars; omega) | trivial
-- post @107
theorem vX6_member_45 (κ : KS) (k0 : Option Nat) (n2 : Int32) (n4 : Int32) (r3 : Int32) (n7 : Int32) (r6 : Int32) (n11 : Int32) (P14 : PL) (b16 : Nat) (n18 : Int32) (r17 : Int32) (n21 : Int32) (r20 : Int32) (P27 : PL) (b30 : Nat) (hpre_0 : 0 ≤ (κ.1 3).toInt) (hpre_1 : (κ.1 3).toInt ≤ (κ.1 7).toInt) (hpre_2 : (κ.1 7).toInt ≤ 41) (hpre_6 : (κ.1 3).toInt < (κ.1 7).toInt) (hr1 : n2.toInt = (κ.1 3).toInt + 1) (hr3_0_0 : 0 ≤ r3.toInt) (hr3_0_1 : r3.toInt ≤ 1) (hr3_1_0 : r3.toInt = 0 → n4.toInt = n2.toInt) (hr3_1_1 : ¬ r3.toInt = 0 → n4.toInt = n2.toInt + 1 ∧ n2.toInt < (κ.1 7).toInt) (c5 : ¬ r3.toInt = 0) (hr6_0_0 : 0 ≤ r6.toInt) (hr6_0_1 : r6.toInt ≤ 1) (hr6_1_0 : r6.toInt = 0 → n7.toInt = n4.toInt) (hr6_1_1 : ¬ r6.toInt = 0 → n7.toInt = n4.toInt + 1 ∧ n4.toInt < (κ.1 7).toInt) (c8 : r6.toInt = 0) (kc15 : cto P14 k0 = cto κ.2.2.2.2 k0) (hr10_4_0 : n7.toInt ≤ n11.toInt) (hr10_4_1 : n11.toInt ≤ (κ.1 7).toInt) (hr10_4_2 : ((cto P14 (some b16) : Nat) : Int) ≤ 2 * (n11.toInt - n7.toInt)) (hr17_0_0 : 0 ≤ r17.toInt) (hr17_0_1 : r17.toInt ≤ 1) (hr17_1_0 : r17.toInt = 0 → n18.toInt = n11.toInt) (hr17_1_1 : ¬ r17.toInt = 0 → n18.toInt = n11.toInt + 1 ∧ n11.toInt < (κ.1 7).toInt) (c19 : r17.toInt = 0) (hr20_0_0 : 0 ≤ r20.toInt) (hr20_0_1 : r20.toInt ≤ 1) (hr20_1_0 : r20.toInt = 0 → n21.toInt = n18.toInt) (hr20_1_1 : ¬ r20.toInt = 0 → n21.toInt = n18.toInt + 1 ∧ n18.toInt < (κ.1 7).toInt) (c22 : ¬ r20.toInt = 0) (kc28 : cto P27 k0 = cto P14 k0) (kc29 : cto P27 (some b16) = cto P14 (some b16)) (hr26_3 : cto P27 (some b30) = 1 + cto P14 k0 + cto P14 (some b16) + cto P14 none) : (κ.1 3).toInt ≤ n21.toInt ∧ n21.toInt ≤ (κ.1 7).toInt ∧ (κ.1 3).toInt < n21.toInt ∧ ((cto P27 (some b30) : Nat) : Int) + 1 ≤ ((cto κ.2.2.2.2 k0 : Nat) : Int) + 2 * (n21.toInt - (κ.1 3).toInt) := by
  have zc0 : cto P14 none = 0 := rfl
  refine ⟨?_, ?_, ?_, ?_⟩ <;> first | assumption | omega | (subst_vars; omega) | trivial
-- post2 @107
theorem vX6_member_46 (κ : KS) (k0 : Option Nat) (k1 : Int32) (d : Nat) (n2 : Int32) (r1 : Int32) (n4 : Int32) (r3 : Int32) (n7 : Int32) (r6 : Int32) (x9 : Int32) (n11 : Int32) (n12 : Int32) (n13 : Int32) (P14 : PL) (b16 : Nat) (n18 : Int32) (r17 : Int32) (n21 : Int32) (r20 : Int32) (P27 : PL) (b30 : Nat) (hpre_0 : 0 ≤ (κ.1 3).toInt) (hpre_1 : (κ.1 3).toInt ≤ (κ.1 7).toInt) (hpre_2 : (κ.1 7).toInt ≤ 41) (hpre_3 : 0 ≤ k1.toInt) (hpre_4 : k1.toInt ≤ 4) (hpre_5 : 4 ≤ k1.toInt + ((d : Nat) : Int)) (hpre_6 : (κ.1 3).toInt < (κ.1 7).toInt) (hr1y : r1.toInt = (cT (κ.2.2.1 12) (κ.1 7)) (κ.1 3).toInt) (hr1 : n2.toInt = (κ.1 3).toInt + 1) (hr3y_0 : r3.toInt = 0 → ¬ (cT (κ.2.2.1 10) (κ.1 7)) n2.toInt = (40 : Int32).toInt) (hr3y_1 : ¬ r3.toInt = 0 → (cT (κ.2.2.1 10) (κ.1 7)) n2.toInt = (40 : Int32).toInt) (hr3_0_0 : 0 ≤ r3.toInt) (hr3_0_1 : r3.toInt ≤ 1) (hr3_1_0 : r3.toInt = 0 → n4.toInt = n2.toInt) (hr3_1_1 : ¬ r3.toInt = 0 → n4.toInt = n2.toInt + 1 ∧ n2.toInt < (κ.1 7).toInt) (c5 : ¬ r3.toInt = 0) (hr6y_0 : r6.toInt = 0 → ¬ (cT (κ.2.2.1 10) (κ.1 7)) n4.toInt = (41 : Int32).toInt) (hr6y_1 : ¬ r6.toInt = 0 → (cT (κ.2.2.1 10) (κ.1 7)) n4.toInt = (41 : Int32).toInt) (hr6_0_0 : 0 ≤ r6.toInt) (hr6_0_1 : r6.toInt ≤ 1) (hr6_1_0 : r6.toInt = 0 → n7.toInt = n4.toInt) (hr6_1_1 : ¬ r6.toInt = 0 → n7.toInt = n4.toInt + 1 ∧ n4.toInt < (κ.1 7).toInt) (c8 : r6.toInt = 0) (ex9 : x9 = k1 + (1 : Int32)) (tx9 : x9.toInt = k1.toInt + 1) (kc15 : cto P14 k0 = cto κ.2.2.2.2 k0) (hr10y : LG (cT (κ.2.2.1 10) (κ.1 7)) (cT (κ.2.2.1 12) (κ.1 7)) (cT (κ.2.2.1 11) (κ.1 7)) 0 0 false x9.toInt n7.toInt P14 (some b16) n11.toInt n12.toInt n13.toInt) (hr10_4_0 : n7.toInt ≤ n11.toInt) (hr10_4_1 : n11.toInt ≤ (κ.1 7).toInt) (hr10_4_2 : ((cto P14 (some b16) : Nat) : Int) ≤ 2 * (n11.toInt - n7.toInt)) (hr17y_0 : r17.toInt = 0 → ¬ (cT (κ.2.2.1 10) (κ.1 7)) n11.toInt = (44 : Int32).toInt) (hr17y_1 : ¬ r17.toInt = 0 → (cT (κ.2.2.1 10) (κ.1 7)) n11.toInt = (44 : Int32).toInt) (hr17_0_0 : 0 ≤ r17.toInt) (hr17_0_1 : r17.toInt ≤ 1) (hr17_1_0 : r17.toInt = 0 → n18.toInt = n11.toInt) (hr17_1_1 : ¬ r17.toInt = 0 → n18.toInt = n11.toInt + 1 ∧ n11.toInt < (κ.1 7).toInt) (c19 : r17.toInt = 0) (hr20y_0 : r20.toInt = 0 → ¬ (cT (κ.2.2.1 10) (κ.1 7)) n18.toInt = (41 : Int32).toInt) (hr20y_1 : ¬ r20.toInt = 0 → (cT (κ.2.2.1 10) (κ.1 7)) n18.toInt = (41 : Int32).toInt) (hr20_0_0 : 0 ≤ r20.toInt) (hr20_0_1 : r20.toInt ≤ 1) (hr20_1_0 : r20.toInt = 0 → n21.toInt = n18.toInt) (hr20_1_1 : ¬ r20.toInt = 0 → n21.toInt = n18.toInt + 1 ∧ n18.toInt < (κ.1 7).toInt) (c22 : ¬ r20.toInt = 0) (kc28 : cto P27 k0 = cto P14 k0) (kc29 : cto P27 (some b16) = cto P14 (some b16)) (hr26y_0 : oI P27 2 b30 = (5 : Int32)) (hr26y_1 : oI P27 5 b30 = 0) (hr26_3 : cto P27 (some b30) = 1 + cto P14 k0 + cto P14 (some b16) + cto P14 none) : ∀ s9 : Bool, LG (cT (κ.2.2.1 10) (κ.1 7)) (cT (κ.2.2.1 12) (κ.1 7)) (cT (κ.2.2.1 11) (κ.1 7)) 10 0 s9 k1.toInt (κ.1 3).toInt P27 (some b30) n21.toInt n12.toInt n13.toInt := by
  have q1 : (1 : Int32).toInt = 1 := by decide +kernel
  have q5 : (5 : Int32).toInt = 5 := by decide +kernel
  have q40 : (40 : Int32).toInt = 40 := by decide +kernel
  have q41 : (41 : Int32).toInt = 41 := by decide +kernel
  have q44 : (44 : Int32).toInt = 44 := by decide +kernel
  have zc0 : cto P14 none = 0 := rfl
  intro s9
  have tkhr3y_1 := hr3y_1 c5
  have tkhr6y_0 := hr6y_0 c8
  obtain rfl : n7 = n4 := Int32.toInt_inj.mp (hr6_1_0 c8)
  have tkhr17y_0 := hr17y_0 c19
  obtain rfl : n18 = n11 := Int32.toInt_inj.mp (hr17_1_0 c19)
  have tkhr20y_1 := hr20y_1 c22
  exact gl_m1 (a1 := n2.toInt) (by omega) (by omega) (by omega) (by omega) (by omega) hr10y (by omega) (by omega) (CBS_op hr26y_0 (by omega) (by omega))
-- grow @107
theorem vX6_member_47 (κ : KS) (k0 : Option Nat) (n2 : Int32) (n4 : Int32) (r3 : Int32) (n7 : Int32) (r6 : Int32) (n11 : Int32) (P14 : PL) (b16 : Nat) (n18 : Int32) (r17 : Int32) (n21 : Int32) (r20 : Int32) (P27 : PL) (b30 : Nat) (hpre_0 : 0 ≤ (κ.1 3).toInt) (hpre_1 : (κ.1 3).toInt ≤ (κ.1 7).toInt) (hpre_2 : (κ.1 7).toInt ≤ 41) (hpre_6 : (κ.1 3).toInt < (κ.1 7).toInt) (hr1 : n2.toInt = (κ.1 3).toInt + 1) (hr3_0_0 : 0 ≤ r3.toInt) (hr3_0_1 : r3.toInt ≤ 1) (hr3_1_0 : r3.toInt = 0 → n4.toInt = n2.toInt) (hr3_1_1 : ¬ r3.toInt = 0 → n4.toInt = n2.toInt + 1 ∧ n2.toInt < (κ.1 7).toInt) (c5 : ¬ r3.toInt = 0) (hr6_0_0 : 0 ≤ r6.toInt) (hr6_0_1 : r6.toInt ≤ 1) (hr6_1_0 : r6.toInt = 0 → n7.toInt = n4.toInt) (hr6_1_1 : ¬ r6.toInt = 0 → n7.toInt = n4.toInt + 1 ∧ n4.toInt < (κ.1 7).toInt) (c8 : r6.toInt = 0) (kc15 : cto P14 k0 = cto κ.2.2.2.2 k0) (hr10_4_0 : n7.toInt ≤ n11.toInt) (hr10_4_1 : n11.toInt ≤ (κ.1 7).toInt) (hr10_4_2 : ((cto P14 (some b16) : Nat) : Int) ≤ 2 * (n11.toInt - n7.toInt)) (hr17_0_0 : 0 ≤ r17.toInt) (hr17_0_1 : r17.toInt ≤ 1) (hr17_1_0 : r17.toInt = 0 → n18.toInt = n11.toInt) (hr17_1_1 : ¬ r17.toInt = 0 → n18.toInt = n11.toInt + 1 ∧ n11.toInt < (κ.1 7).toInt) (c19 : r17.toInt = 0) (hr20_0_0 : 0 ≤ r20.toInt) (hr20_0_1 : r20.toInt ≤ 1) (hr20_1_0 : r20.toInt = 0 → n21.toInt = n18.toInt) (hr20_1_1 : ¬ r20.toInt = 0 → n21.toInt = n18.toInt + 1 ∧ n18.toInt < (κ.1 7).toInt) (c22 : ¬ r20.toInt = 0) (kc28 : cto P27 k0 = cto P14 k0) (kc29 : cto P27 (some b16) = cto P14 (some b16)) (hr26_3 : cto P27 (some b30) = 1 + cto P14 k0 + cto P14 (some b16) + cto P14 none) : 0 + 0 + 0 + 0 + ((2 * (n11.toInt - n7.toInt)).toNat) + 0 + 0 + 1 ≤ (2 * (n21.toInt - (κ.1 3).toInt) - 1).toNat := by
  have zc0 : cto P14 none = 0 := rfl
  first | assumption | omega | (subst_vars; omega) | trivial
-- grow @107
theorem vX6_member_48 (κ : KS) (k0 : Option Nat) (n2 : Int32) (n4 : Int32) (r3 : Int32) (n7 : Int32) (r6 : Int32) (n11 : Int32) (P14 : PL) (b16 : Nat) (n18 : Int32) (r17 : Int32) (n21 : Int32) (r20 : Int32) (P27 : PL) (b30 : Nat) (hpre_0 : 0 ≤ (κ.1 3).toInt) (hpre_1 : (κ.1 3).toInt ≤ (κ.1 7).toInt) (hpre_2 : (κ.1 7).toInt ≤ 41) (hpre_6 : (κ.1 3).toInt < (κ.1 7).toInt) (hr1 : n2.toInt = (κ.1 3).toInt + 1) (hr3_0_0 : 0 ≤ r3.toInt) (hr3_0_1 : r3.toInt ≤ 1) (hr3_1_0 : r3.toInt = 0 → n4.toInt = n2.toInt) (hr3_1_1 : ¬ r3.toInt = 0 → n4.toInt = n2.toInt + 1 ∧ n2.toInt < (κ.1 7).toInt) (c5 : ¬ r3.toInt = 0) (hr6_0_0 : 0 ≤ r6.toInt) (hr6_0_1 : r6.toInt ≤ 1) (hr6_1_0 : r6.toInt = 0 → n7.toInt = n4.toInt) (hr6_1_1 : ¬ r6.toInt = 0 → n7.toInt = n4.toInt + 1 ∧ n4.toInt < (κ.1 7).toInt) (c8 : r6.toInt = 0) (kc15 : cto P14 k0 = cto κ.2.2.2.2 k0) (hr10_4_0 : n7.toInt ≤ n11.toInt) (hr10_4_1 : n11.toInt ≤ (κ.1 7).toInt) (hr10_4_2 : ((cto P14 (some b16) : Nat) : Int) ≤ 2 * (n11.toInt - n7.toInt)) (hr17_0_0 : 0 ≤ r17.toInt) (hr17_0_1 : r17.toInt ≤ 1) (hr17_1_0 : r17.toInt = 0 → n18.toInt = n11.toInt) (hr17_1_1 : ¬ r17.toInt = 0 → n18.toInt = n11.toInt + 1 ∧ n11.toInt < (κ.1 7).toInt) (c19 : r17.toInt = 0) (hr20_0_0 : 0 ≤ r20.toInt) (hr20_0_1 : r20.toInt ≤ 1) (hr20_1_0 : r20.toInt = 0 → n21.toInt = n18.toInt) (hr20_1_1 : ¬ r20.toInt = 0 → n21.toInt = n18.toInt + 1 ∧ n18.toInt < (κ.1 7).toInt) (c22 : ¬ r20.toInt = 0) (kc28 : cto P27 k0 = cto P14 k0) (kc29 : cto P27 (some b16) = cto P14 (some b16)) (hr26_3 : cto P27 (some b30) = 1 + cto P14 k0 + cto P14 (some b16) + cto P14 none) : 0 + 0 + 0 + 0 + ((16 * (n11.toInt - n7.toInt)).toNat) + 0 + 0 + 8 ≤ (16 * (n21.toInt - (κ.1 3).toInt) - 8).toNat := by
  have zc0 : cto P14 none = 0 := rfl
  first | assumption | omega | (subst_vars; omega) | trivial
-- growm @107
theorem vX6_member_49 (κ : KS) (k0 : Option Nat) (n2 : Int32) (n4 : Int32) (r3 : Int32) (n7 : Int32) (r6 : Int32) (n11 : Int32) (P14 : PL) (b16 : Nat) (n18 : Int32) (r17 : Int32) (n21 : Int32) (r20 : Int32) (P27 : PL) (b30 : Nat) (hpre_0 : 0 ≤ (κ.1 3).toInt) (hpre_1 : (κ.1 3).toInt ≤ (κ.1 7).toInt) (hpre_2 : (κ.1 7).toInt ≤ 41) (hpre_6 : (κ.1 3).toInt < (κ.1 7).toInt) (hr1 : n2.toInt = (κ.1 3).toInt + 1) (hr3_0_0 : 0 ≤ r3.toInt) (hr3_0_1 : r3.toInt ≤ 1) (hr3_1_0 : r3.toInt = 0 → n4.toInt = n2.toInt) (hr3_1_1 : ¬ r3.toInt = 0 → n4.toInt = n2.toInt + 1 ∧ n2.toInt < (κ.1 7).toInt) (c5 : ¬ r3.toInt = 0) (hr6_0_0 : 0 ≤ r6.toInt) (hr6_0_1 : r6.toInt ≤ 1) (hr6_1_0 : r6.toInt = 0 → n7.toInt = n4.toInt) (hr6_1_1 : ¬ r6.toInt = 0 → n7.toInt = n4.toInt + 1 ∧ n4.toInt < (κ.1 7).toInt) (c8 : r6.toInt = 0) (kc15 : cto P14 k0 = cto κ.2.2.2.2 k0) (hr10_4_0 : n7.toInt ≤ n11.toInt) (hr10_4_1 : n11.toInt ≤ (κ.1 7).toInt) (hr10_4_2 : ((cto P14 (some b16) : Nat) : Int) ≤ 2 * (n11.toInt - n7.toInt)) (hr17_0_0 : 0 ≤ r17.toInt) (hr17_0_1 : r17.toInt ≤ 1) (hr17_1_0 : r17.toInt = 0 → n18.toInt = n11.toInt) (hr17_1_1 : ¬ r17.toInt = 0 → n18.toInt = n11.toInt + 1 ∧ n11.toInt < (κ.1 7).toInt) (c19 : r17.toInt = 0) (hr20_0_0 : 0 ≤ r20.toInt) (hr20_0_1 : r20.toInt ≤ 1) (hr20_1_0 : r20.toInt = 0 → n21.toInt = n18.toInt) (hr20_1_1 : ¬ r20.toInt = 0 → n21.toInt = n18.toInt + 1 ∧ n18.toInt < (κ.1 7).toInt) (c22 : ¬ r20.toInt = 0) (kc28 : cto P27 k0 = cto P14 k0) (kc29 : cto P27 (some b16) = cto P14 (some b16)) (hr26_3 : cto P27 (some b30) = 1 + cto P14 k0 + cto P14 (some b16) + cto P14 none) : (2 * (n21.toInt - (κ.1 3).toInt) - 1).toNat ≤ (2 * ((κ.1 7).toInt - (κ.1 3).toInt) - 1).toNat := by
  have zc0 : cto P14 none = 0 := rfl
  first | assumption | omega | (subst_vars; omega) | trivial
-- growm @107
theorem vX6_member_50 (κ : KS) (k0 : Option Nat) (n2 : Int32) (n4 : Int32) (r3 : Int32) (n7 : Int32) (r6 : Int32) (n11 : Int32) (P14 : PL) (b16 : Nat) (n18 : Int32) (r17 : Int32) (n21 : Int32) (r20 : Int32) (P27 : PL) (b30 : Nat) (hpre_0 : 0 ≤ (κ.1 3).toInt) (hpre_1 : (κ.1 3).toInt ≤ (κ.1 7).toInt) (hpre_2 : (κ.1 7).toInt ≤ 41) (hpre_6 : (κ.1 3).toInt < (κ.1 7).toInt) (hr1 : n2.toInt = (κ.1 3).toInt + 1) (hr3_0_0 : 0 ≤ r3.toInt) (hr3_0_1 : r3.toInt ≤ 1) (hr3_1_0 : r3.toInt = 0 → n4.toInt = n2.toInt) (hr3_1_1 : ¬ r3.toInt = 0 → n4.toInt = n2.toInt + 1 ∧ n2.toInt < (κ.1 7).toInt) (c5 : ¬ r3.toInt = 0) (hr6_0_0 : 0 ≤ r6.toInt) (hr6_0_1 : r6.toInt ≤ 1) (hr6_1_0 : r6.toInt = 0 → n7.toInt = n4.toInt) (hr6_1_1 : ¬ r6.toInt = 0 → n7.toInt = n4.toInt + 1 ∧ n4.toInt < (κ.1 7).toInt) (c8 : r6.toInt = 0) (kc15 : cto P14 k0 = cto κ.2.2.2.2 k0) (hr10_4_0 : n7.toInt ≤ n11.toInt) (hr10_4_1 : n11.toInt ≤ (κ.1 7).toInt) (hr10_4_2 : ((cto P14 (some b16) : Nat) : Int) ≤ 2 * (n11.toInt - n7.toInt)) (hr17_0_0 : 0 ≤ r17.toInt) (hr17_0_1 : r17.toInt ≤ 1) (hr17_1_0 : r17.toInt = 0 → n18.toInt = n11.toInt) (hr17_1_1 : ¬ r17.toInt = 0 → n18.toInt = n11.toInt + 1 ∧ n11.toInt < (κ.1 7).toInt) (c19 : r17.toInt = 0) (hr20_0_0 : 0 ≤ r20.toInt) (hr20_0_1 : r20.toInt ≤ 1) (hr20_1_0 : r20.toInt = 0 → n21.toInt = n18.toInt) (hr20_1_1 : ¬ r20.toInt = 0 → n21.toInt = n18.toInt + 1 ∧ n18.toInt < (κ.1 7).toInt) (c22 : ¬ r20.toInt = 0) (kc28 : cto P27 k0 = cto P14 k0) (kc29 : cto P27 (some b16) = cto P14 (some b16)) (hr26_3 : cto P27 (some b30) = 1 + cto P14 k0 + cto P14 (some b16) + cto P14 none) : (16 * (n21.toInt - (κ.1 3).toInt) - 8).toNat ≤ (16 * ((κ.1 7).toInt - (κ.1 3).toInt) - 8).toNat := by
  have zc0 : cto P14 none = 0 := rfl
  first | assumption | omega | (subst_vars; omega) | trivial
-- nw@68 @68
theorem vX6_member_51 (k1 : Int32) (d : Nat) (x9 : Int32) (x32 : Int32) (hpre_3 : 0 ≤ k1.toInt) (hpre_4 : k1.toInt ≤ 4) (hpre_5 : 4 ≤ k1.toInt + ((d : Nat) : Int)) (ex9 : x9 = k1 + (1 : Int32)) (tx9 : x9.toInt = k1.toInt + 1) (ex32 : x32 = k1 + (1 : Int32)) : x32.toInt = k1.toInt + 1 := by
  have q1 : (1 : Int32).toInt = 1 := by decide +kernel
  have w1 : (1 : Int32).toInt = 1 := by decide +kernel
  rw [ex32, z_add (by omega) (by omega)]; first | done | omega
-- pre:X6_choice@69 @69
theorem vX6_member_52 (κ : KS) (k0 : Option Nat) (k1 : Int32) (d : Nat) (n2 : Int32) (n4 : Int32) (r3 : Int32) (n7 : Int32) (r6 : Int32) (x9 : Int32) (n11 : Int32) (P14 : PL) (b16 : Nat) (n18 : Int32) (r17 : Int32) (x32 : Int32) (hpre_0 : 0 ≤ (κ.1 3).toInt) (hpre_1 : (κ.1 3).toInt ≤ (κ.1 7).toInt) (hpre_2 : (κ.1 7).toInt ≤ 41) (hpre_3 : 0 ≤ k1.toInt) (hpre_4 : k1.toInt ≤ 4) (hpre_5 : 4 ≤ k1.toInt + ((d : Nat) : Int)) (hpre_6 : (κ.1 3).toInt < (κ.1 7).toInt) (hr1 : n2.toInt = (κ.1 3).toInt + 1) (hr3_0_0 : 0 ≤ r3.toInt) (hr3_0_1 : r3.toInt ≤ 1) (hr3_1_0 : r3.toInt = 0 → n4.toInt = n2.toInt) (hr3_1_1 : ¬ r3.toInt = 0 → n4.toInt = n2.toInt + 1 ∧ n2.toInt < (κ.1 7).toInt) (c5 : ¬ r3.toInt = 0) (hr6_0_0 : 0 ≤ r6.toInt) (hr6_0_1 : r6.toInt ≤ 1) (hr6_1_0 : r6.toInt = 0 → n7.toInt = n4.toInt) (hr6_1_1 : ¬ r6.toInt = 0 → n7.toInt = n4.toInt + 1 ∧ n4.toInt < (κ.1 7).toInt) (c8 : r6.toInt = 0) (ex9 : x9 = k1 + (1 : Int32)) (tx9 : x9.toInt = k1.toInt + 1) (kc15 : cto P14 k0 = cto κ.2.2.2.2 k0) (hr10_4_0 : n7.toInt ≤ n11.toInt) (hr10_4_1 : n11.toInt ≤ (κ.1 7).toInt) (hr10_4_2 : ((cto P14 (some b16) : Nat) : Int) ≤ 2 * (n11.toInt - n7.toInt)) (hr17_0_0 : 0 ≤ r17.toInt) (hr17_0_1 : r17.toInt ≤ 1) (hr17_1_0 : r17.toInt = 0 → n18.toInt = n11.toInt) (hr17_1_1 : ¬ r17.toInt = 0 → n18.toInt = n11.toInt + 1 ∧ n11.toInt < (κ.1 7).toInt) (c19 : ¬ r17.toInt = 0) (ex32 : x32 = k1 + (1 : Int32)) (tx32 : x32.toInt = k1.toInt + 1) : 0 ≤ n18.toInt ∧ n18.toInt ≤ (κ.1 7).toInt ∧ (κ.1 7).toInt ≤ 41 ∧ 0 ≤ x32.toInt ∧ x32.toInt ≤ 5 ∧ 5 ≤ x32.toInt + ((d : Nat) : Int) := by
  have q1 : (1 : Int32).toInt = 1 := by decide +kernel
  refine ⟨?_, ?_, ?_, ?_, ?_, ?_⟩ <;> first | assumption | omega | (subst_vars; omega) | trivial
-- room @69
theorem vX6_member_53 (κ : KS) (k0 : Option Nat) (n2 : Int32) (n4 : Int32) (r3 : Int32) (n7 : Int32) (r6 : Int32) (n11 : Int32) (P14 : PL) (b16 : Nat) (n18 : Int32) (r17 : Int32) (hpre_0 : 0 ≤ (κ.1 3).toInt) (hpre_1 : (κ.1 3).toInt ≤ (κ.1 7).toInt) (hpre_2 : (κ.1 7).toInt ≤ 41) (hpre_6 : (κ.1 3).toInt < (κ.1 7).toInt) (hr1 : n2.toInt = (κ.1 3).toInt + 1) (hr3_0_0 : 0 ≤ r3.toInt) (hr3_0_1 : r3.toInt ≤ 1) (hr3_1_0 : r3.toInt = 0 → n4.toInt = n2.toInt) (hr3_1_1 : ¬ r3.toInt = 0 → n4.toInt = n2.toInt + 1 ∧ n2.toInt < (κ.1 7).toInt) (c5 : ¬ r3.toInt = 0) (hr6_0_0 : 0 ≤ r6.toInt) (hr6_0_1 : r6.toInt ≤ 1) (hr6_1_0 : r6.toInt = 0 → n7.toInt = n4.toInt) (hr6_1_1 : ¬ r6.toInt = 0 → n7.toInt = n4.toInt + 1 ∧ n4.toInt < (κ.1 7).toInt) (c8 : r6.toInt = 0) (kc15 : cto P14 k0 = cto κ.2.2.2.2 k0) (hr10_4_0 : n7.toInt ≤ n11.toInt) (hr10_4_1 : n11.toInt ≤ (κ.1 7).toInt) (hr10_4_2 : ((cto P14 (some b16) : Nat) : Int) ≤ 2 * (n11.toInt - n7.toInt)) (hr17_0_0 : 0 ≤ r17.toInt) (hr17_0_1 : r17.toInt ≤ 1) (hr17_1_0 : r17.toInt = 0 → n18.toInt = n11.toInt) (hr17_1_1 : ¬ r17.toInt = 0 → n18.toInt = n11.toInt + 1 ∧ n11.toInt < (κ.1 7).toInt) (c19 : ¬ r17.toInt = 0) : 0 + 0 + 0 + 0 + ((2 * (n11.toInt - n7.toInt)).toNat) + 0 + ((2 * ((κ.1 7).toInt - n18.toInt)).toNat) ≤ (2 * ((κ.1 7).toInt - (κ.1 3).toInt) - 1).toNat := by
  first | assumption | omega | (subst_vars; omega) | trivial
-- room @69
theorem vX6_member_54 (κ : KS) (k0 : Option Nat) (n2 : Int32) (n4 : Int32) (r3 : Int32) (n7 : Int32) (r6 : Int32) (n11 : Int32) (P14 : PL) (b16 : Nat) (n18 : Int32) (r17 : Int32) (hpre_0 : 0 ≤ (κ.1 3).toInt) (hpre_1 : (κ.1 3).toInt ≤ (κ.1 7).toInt) (hpre_2 : (κ.1 7).toInt ≤ 41) (hpre_6 : (κ.1 3).toInt < (κ.1 7).toInt) (hr1 : n2.toInt = (κ.1 3).toInt + 1) (hr3_0_0 : 0 ≤ r3.toInt) (hr3_0_1 : r3.toInt ≤ 1) (hr3_1_0 : r3.toInt = 0 → n4.toInt = n2.toInt) (hr3_1_1 : ¬ r3.toInt = 0 → n4.toInt = n2.toInt + 1 ∧ n2.toInt < (κ.1 7).toInt) (c5 : ¬ r3.toInt = 0) (hr6_0_0 : 0 ≤ r6.toInt) (hr6_0_1 : r6.toInt ≤ 1) (hr6_1_0 : r6.toInt = 0 → n7.toInt = n4.toInt) (hr6_1_1 : ¬ r6.toInt = 0 → n7.toInt = n4.toInt + 1 ∧ n4.toInt < (κ.1 7).toInt) (c8 : r6.toInt = 0) (kc15 : cto P14 k0 = cto κ.2.2.2.2 k0) (hr10_4_0 : n7.toInt ≤ n11.toInt) (hr10_4_1 : n11.toInt ≤ (κ.1 7).toInt) (hr10_4_2 : ((cto P14 (some b16) : Nat) : Int) ≤ 2 * (n11.toInt - n7.toInt)) (hr17_0_0 : 0 ≤ r17.toInt) (hr17_0_1 : r17.toInt ≤ 1) (hr17_1_0 : r17.toInt = 0 → n18.toInt = n11.toInt) (hr17_1_1 : ¬ r17.toInt = 0 → n18.toInt = n11.toInt + 1 ∧ n11.toInt < (κ.1 7).toInt) (c19 : ¬ r17.toInt = 0) : 0 + 0 + 0 + 0 + ((16 * (n11.toInt - n7.toInt)).toNat) + 0 + ((16 * ((κ.1 7).toInt - n18.toInt)).toNat) ≤ (16 * ((κ.1 7).toInt - (κ.1 3).toInt) - 8).toNat := by
  first | assumption | omega | (subst_vars; omega) | trivial
-- post @80
theorem vX6_member_55 (κ : KS) (k0 : Option Nat) (n2 : Int32) (n4 : Int32) (r3 : Int32) (n7 : Int32) (r6 : Int32) (n11 : Int32) (P14 : PL) (b16 : Nat) (n18 : Int32) (r17 : Int32) (n34 : Int32) (P37 : PL) (hpre_0 : 0 ≤ (κ.1 3).toInt) (hpre_1 : (κ.1 3).toInt ≤ (κ.1 7).toInt) (hpre_2 : (κ.1 7).toInt ≤ 41) (hpre_6 : (κ.1 3).toInt < (κ.1 7).toInt) (hr1 : n2.toInt = (κ.1 3).toInt + 1) (hr3_0_0 : 0 ≤ r3.toInt) (hr3_0_1 : r3.toInt ≤ 1) (hr3_1_0 : r3.toInt = 0 → n4.toInt = n2.toInt) (hr3_1_1 : ¬ r3.toInt = 0 → n4.toInt = n2.toInt + 1 ∧ n2.toInt < (κ.1 7).toInt) (c5 : ¬ r3.toInt = 0) (hr6_0_0 : 0 ≤ r6.toInt) (hr6_0_1 : r6.toInt ≤ 1) (hr6_1_0 : r6.toInt = 0 → n7.toInt = n4.toInt) (hr6_1_1 : ¬ r6.toInt = 0 → n7.toInt = n4.toInt + 1 ∧ n4.toInt < (κ.1 7).toInt) (c8 : r6.toInt = 0) (kc15 : cto P14 k0 = cto κ.2.2.2.2 k0) (hr10_4_0 : n7.toInt ≤ n11.toInt) (hr10_4_1 : n11.toInt ≤ (κ.1 7).toInt) (hr10_4_2 : ((cto P14 (some b16) : Nat) : Int) ≤ 2 * (n11.toInt - n7.toInt)) (hr17_0_0 : 0 ≤ r17.toInt) (hr17_0_1 : r17.toInt ≤ 1) (hr17_1_0 : r17.toInt = 0 → n18.toInt = n11.toInt) (hr17_1_1 : ¬ r17.toInt = 0 → n18.toInt = n11.toInt + 1 ∧ n11.toInt < (κ.1 7).toInt) (c19 : ¬ r17.toInt = 0) (kc38 : cto P37 k0 = cto P14 k0) (kc39 : cto P37 (some b16) = cto P14 (some b16)) (hr33_4_0 : n18.toInt ≤ n34.toInt) (hr33_4_1 : n34.toInt ≤ (κ.1 7).toInt) (hr33_4_2 : ((cto P37 none : Nat) : Int) ≤ 2 * (n34.toInt - n18.toInt)) : (κ.1 3).toInt ≤ n34.toInt ∧ n34.toInt ≤ (κ.1 7).toInt ∧ (κ.1 3).toInt < n34.toInt ∧ ((cto P37 none : Nat) : Int) + 1 ≤ ((cto κ.2.2.2.2 k0 : Nat) : Int) + 2 * (n34.toInt - (κ.1 3).toInt) := by
  have zc0 : cto P37 none = 0 := rfl
  refine ⟨?_, ?_, ?_, ?_⟩ <;> first | assumption | omega | (subst_vars; omega) | trivial
-- post2 @80
theorem vX6_member_56 (κ : KS) (k0 : Option Nat) (k1 : Int32) (d : Nat) (n2 : Int32) (r1 : Int32) (n4 : Int32) (r3 : Int32) (n7 : Int32) (r6 : Int32) (x9 : Int32) (n11 : Int32) (n12 : Int32) (n13 : Int32) (P14 : PL) (b16 : Nat) (n18 : Int32) (r17 : Int32) (x32 : Int32) (n34 : Int32) (n35 : Int32) (n36 : Int32) (P37 : PL) (hpre_0 : 0 ≤ (κ.1 3).toInt) (hpre_1 : (κ.1 3).toInt ≤ (κ.1 7).toInt) (hpre_2 : (κ.1 7).toInt ≤ 41) (hpre_3 : 0 ≤ k1.toInt) (hpre_4 : k1.toInt ≤ 4) (hpre_5 : 4 ≤ k1.toInt + ((d : Nat) : Int)) (hpre_6 : (κ.1 3).toInt < (κ.1 7).toInt) (hr1y : r1.toInt = (cT (κ.2.2.1 12) (κ.1 7)) (κ.1 3).toInt) (hr1 : n2.toInt = (κ.1 3).toInt + 1) (hr3y_0 : r3.toInt = 0 → ¬ (cT (κ.2.2.1 10) (κ.1 7)) n2.toInt = (40 : Int32).toInt) (hr3y_1 : ¬ r3.toInt = 0 → (cT (κ.2.2.1 10) (κ.1 7)) n2.toInt = (40 : Int32).toInt) (hr3_0_0 : 0 ≤ r3.toInt) (hr3_0_1 : r3.toInt ≤ 1) (hr3_1_0 : r3.toInt = 0 → n4.toInt = n2.toInt) (hr3_1_1 : ¬ r3.toInt = 0 → n4.toInt = n2.toInt + 1 ∧ n2.toInt < (κ.1 7).toInt) (c5 : ¬ r3.toInt = 0) (hr6y_0 : r6.toInt = 0 → ¬ (cT (κ.2.2.1 10) (κ.1 7)) n4.toInt = (41 : Int32).toInt) (hr6y_1 : ¬ r6.toInt = 0 → (cT (κ.2.2.1 10) (κ.1 7)) n4.toInt = (41 : Int32).toInt) (hr6_0_0 : 0 ≤ r6.toInt) (hr6_0_1 : r6.toInt ≤ 1) (hr6_1_0 : r6.toInt = 0 → n7.toInt = n4.toInt) (hr6_1_1 : ¬ r6.toInt = 0 → n7.toInt = n4.toInt + 1 ∧ n4.toInt < (κ.1 7).toInt) (c8 : r6.toInt = 0) (ex9 : x9 = k1 + (1 : Int32)) (tx9 : x9.toInt = k1.toInt + 1) (kc15 : cto P14 k0 = cto κ.2.2.2.2 k0) (hr10y : LG (cT (κ.2.2.1 10) (κ.1 7)) (cT (κ.2.2.1 12) (κ.1 7)) (cT (κ.2.2.1 11) (κ.1 7)) 0 0 false x9.toInt n7.toInt P14 (some b16) n11.toInt n12.toInt n13.toInt) (hr10_4_0 : n7.toInt ≤ n11.toInt) (hr10_4_1 : n11.toInt ≤ (κ.1 7).toInt) (hr10_4_2 : ((cto P14 (some b16) : Nat) : Int) ≤ 2 * (n11.toInt - n7.toInt)) (hr17y_0 : r17.toInt = 0 → ¬ (cT (κ.2.2.1 10) (κ.1 7)) n11.toInt = (44 : Int32).toInt) (hr17y_1 : ¬ r17.toInt = 0 → (cT (κ.2.2.1 10) (κ.1 7)) n11.toInt = (44 : Int32).toInt) (hr17_0_0 : 0 ≤ r17.toInt) (hr17_0_1 : r17.toInt ≤ 1) (hr17_1_0 : r17.toInt = 0 → n18.toInt = n11.toInt) (hr17_1_1 : ¬ r17.toInt = 0 → n18.toInt = n11.toInt + 1 ∧ n11.toInt < (κ.1 7).toInt) (c19 : ¬ r17.toInt = 0) (ex32 : x32 = k1 + (1 : Int32)) (tx32 : x32.toInt = k1.toInt + 1) (kc38 : cto P37 k0 = cto P14 k0) (kc39 : cto P37 (some b16) = cto P14 (some b16)) (hr33y : LG (cT (κ.2.2.1 10) (κ.1 7)) (cT (κ.2.2.1 12) (κ.1 7)) (cT (κ.2.2.1 11) (κ.1 7)) 0 0 false x32.toInt n18.toInt P37 none n34.toInt n35.toInt n36.toInt) (hr33_4_0 : n18.toInt ≤ n34.toInt) (hr33_4_1 : n34.toInt ≤ (κ.1 7).toInt) (hr33_4_2 : ((cto P37 none : Nat) : Int) ≤ 2 * (n34.toInt - n18.toInt)) : ∀ s9 : Bool, LG (cT (κ.2.2.1 10) (κ.1 7)) (cT (κ.2.2.1 12) (κ.1 7)) (cT (κ.2.2.1 11) (κ.1 7)) 10 0 s9 k1.toInt (κ.1 3).toInt P37 none n34.toInt n35.toInt n36.toInt := by
  have q1 : (1 : Int32).toInt = 1 := by decide +kernel
  have q40 : (40 : Int32).toInt = 40 := by decide +kernel
  have q41 : (41 : Int32).toInt = 41 := by decide +kernel
  have q44 : (44 : Int32).toInt = 44 := by decide +kernel
  have zc0 : cto P37 none = 0 := rfl
  intro s9
  have tkhr3y_1 := hr3y_1 c5
  have tkhr6y_0 := hr6y_0 c8
  obtain rfl : n7 = n4 := Int32.toInt_inj.mp (hr6_1_0 c8)
  have tkhr17y_1 := hr17y_1 c19
  first
  | exact gl_m2e (a1 := n2.toInt) (by omega) (by omega) (by omega) (by omega) (by omega) (by omega) hr10y (by omega) (by omega) hr33y
  | exact gl_m2x (a1 := n2.toInt) (by omega) (by omega) (by omega) (by omega) (by omega) (by omega) hr10y (by omega) (by omega) hr33y (by omega) (by omega) (by omega)
-- grow @80
theorem vX6_member_57 (κ : KS) (k0 : Option Nat) (n2 : Int32) (n4 : Int32) (r3 : Int32) (n7 : Int32) (r6 : Int32) (n11 : Int32) (P14 : PL) (b16 : Nat) (n18 : Int32) (r17 : Int32) (n34 : Int32) (P37 : PL) (hpre_0 : 0 ≤ (κ.1 3).toInt) (hpre_1 : (κ.1 3).toInt ≤ (κ.1 7).toInt) (hpre_2 : (κ.1 7).toInt ≤ 41) (hpre_6 : (κ.1 3).toInt < (κ.1 7).toInt) (hr1 : n2.toInt = (κ.1 3).toInt + 1) (hr3_0_0 : 0 ≤ r3.toInt) (hr3_0_1 : r3.toInt ≤ 1) (hr3_1_0 : r3.toInt = 0 → n4.toInt = n2.toInt) (hr3_1_1 : ¬ r3.toInt = 0 → n4.toInt = n2.toInt + 1 ∧ n2.toInt < (κ.1 7).toInt) (c5 : ¬ r3.toInt = 0) (hr6_0_0 : 0 ≤ r6.toInt) (hr6_0_1 : r6.toInt ≤ 1) (hr6_1_0 : r6.toInt = 0 → n7.toInt = n4.toInt) (hr6_1_1 : ¬ r6.toInt = 0 → n7.toInt = n4.toInt + 1 ∧ n4.toInt < (κ.1 7).toInt) (c8 : r6.toInt = 0) (kc15 : cto P14 k0 = cto κ.2.2.2.2 k0) (hr10_4_0 : n7.toInt ≤ n11.toInt) (hr10_4_1 : n11.toInt ≤ (κ.1 7).toInt) (hr10_4_2 : ((cto P14 (some b16) : Nat) : Int) ≤ 2 * (n11.toInt - n7.toInt)) (hr17_0_0 : 0 ≤ r17.toInt) (hr17_0_1 : r17.toInt ≤ 1) (hr17_1_0 : r17.toInt = 0 → n18.toInt = n11.toInt) (hr17_1_1 : ¬ r17.toInt = 0 → n18.toInt = n11.toInt + 1 ∧ n11.toInt < (κ.1 7).toInt) (c19 : ¬ r17.toInt = 0) (kc38 : cto P37 k0 = cto P14 k0) (kc39 : cto P37 (some b16) = cto P14 (some b16)) (hr33_4_0 : n18.toInt ≤ n34.toInt) (hr33_4_1 : n34.toInt ≤ (κ.1 7).toInt) (hr33_4_2 : ((cto P37 none : Nat) : Int) ≤ 2 * (n34.toInt - n18.toInt)) : 0 + 0 + 0 + 0 + ((2 * (n11.toInt - n7.toInt)).toNat) + 0 + ((2 * (n34.toInt - n18.toInt)).toNat) ≤ (2 * (n34.toInt - (κ.1 3).toInt) - 1).toNat := by
  have zc0 : cto P37 none = 0 := rfl
  first | assumption | omega | (subst_vars; omega) | trivial
-- grow @80
theorem vX6_member_58 (κ : KS) (k0 : Option Nat) (n2 : Int32) (n4 : Int32) (r3 : Int32) (n7 : Int32) (r6 : Int32) (n11 : Int32) (P14 : PL) (b16 : Nat) (n18 : Int32) (r17 : Int32) (n34 : Int32) (P37 : PL) (hpre_0 : 0 ≤ (κ.1 3).toInt) (hpre_1 : (κ.1 3).toInt ≤ (κ.1 7).toInt) (hpre_2 : (κ.1 7).toInt ≤ 41) (hpre_6 : (κ.1 3).toInt < (κ.1 7).toInt) (hr1 : n2.toInt = (κ.1 3).toInt + 1) (hr3_0_0 : 0 ≤ r3.toInt) (hr3_0_1 : r3.toInt ≤ 1) (hr3_1_0 : r3.toInt = 0 → n4.toInt = n2.toInt) (hr3_1_1 : ¬ r3.toInt = 0 → n4.toInt = n2.toInt + 1 ∧ n2.toInt < (κ.1 7).toInt) (c5 : ¬ r3.toInt = 0) (hr6_0_0 : 0 ≤ r6.toInt) (hr6_0_1 : r6.toInt ≤ 1) (hr6_1_0 : r6.toInt = 0 → n7.toInt = n4.toInt) (hr6_1_1 : ¬ r6.toInt = 0 → n7.toInt = n4.toInt + 1 ∧ n4.toInt < (κ.1 7).toInt) (c8 : r6.toInt = 0) (kc15 : cto P14 k0 = cto κ.2.2.2.2 k0) (hr10_4_0 : n7.toInt ≤ n11.toInt) (hr10_4_1 : n11.toInt ≤ (κ.1 7).toInt) (hr10_4_2 : ((cto P14 (some b16) : Nat) : Int) ≤ 2 * (n11.toInt - n7.toInt)) (hr17_0_0 : 0 ≤ r17.toInt) (hr17_0_1 : r17.toInt ≤ 1) (hr17_1_0 : r17.toInt = 0 → n18.toInt = n11.toInt) (hr17_1_1 : ¬ r17.toInt = 0 → n18.toInt = n11.toInt + 1 ∧ n11.toInt < (κ.1 7).toInt) (c19 : ¬ r17.toInt = 0) (kc38 : cto P37 k0 = cto P14 k0) (kc39 : cto P37 (some b16) = cto P14 (some b16)) (hr33_4_0 : n18.toInt ≤ n34.toInt) (hr33_4_1 : n34.toInt ≤ (κ.1 7).toInt) (hr33_4_2 : ((cto P37 none : Nat) : Int) ≤ 2 * (n34.toInt - n18.toInt)) : 0 + 0 + 0 + 0 + ((16 * (n11.toInt - n7.toInt)).toNat) + 0 + ((16 * (n34.toInt - n18.toInt)).toNat) ≤ (16 * (n34.toInt - (κ.1 3).toInt) - 8).toNat := by
  have zc0 : cto P37 none = 0 := rfl
  first | assumption | omega | (subst_vars; omega) | trivial
-- growm @80
theorem vX6_member_59 (κ : KS) (k0 : Option Nat) (n2 : Int32) (n4 : Int32) (r3 : Int32) (n7 : Int32) (r6 : Int32) (n11 : Int32) (P14 : PL) (b16 : Nat) (n18 : Int32) (r17 : Int32) (n34 : Int32) (P37 : PL) (hpre_0 : 0 ≤ (κ.1 3).toInt) (hpre_1 : (κ.1 3).toInt ≤ (κ.1 7).toInt) (hpre_2 : (κ.1 7).toInt ≤ 41) (hpre_6 : (κ.1 3).toInt < (κ.1 7).toInt) (hr1 : n2.toInt = (κ.1 3).toInt + 1) (hr3_0_0 : 0 ≤ r3.toInt) (hr3_0_1 : r3.toInt ≤ 1) (hr3_1_0 : r3.toInt = 0 → n4.toInt = n2.toInt) (hr3_1_1 : ¬ r3.toInt = 0 → n4.toInt = n2.toInt + 1 ∧ n2.toInt < (κ.1 7).toInt) (c5 : ¬ r3.toInt = 0) (hr6_0_0 : 0 ≤ r6.toInt) (hr6_0_1 : r6.toInt ≤ 1) (hr6_1_0 : r6.toInt = 0 → n7.toInt = n4.toInt) (hr6_1_1 : ¬ r6.toInt = 0 → n7.toInt = n4.toInt + 1 ∧ n4.toInt < (κ.1 7).toInt) (c8 : r6.toInt = 0) (kc15 : cto P14 k0 = cto κ.2.2.2.2 k0) (hr10_4_0 : n7.toInt ≤ n11.toInt) (hr10_4_1 : n11.toInt ≤ (κ.1 7).toInt) (hr10_4_2 : ((cto P14 (some b16) : Nat) : Int) ≤ 2 * (n11.toInt - n7.toInt)) (hr17_0_0 : 0 ≤ r17.toInt) (hr17_0_1 : r17.toInt ≤ 1) (hr17_1_0 : r17.toInt = 0 → n18.toInt = n11.toInt) (hr17_1_1 : ¬ r17.toInt = 0 → n18.toInt = n11.toInt + 1 ∧ n11.toInt < (κ.1 7).toInt) (c19 : ¬ r17.toInt = 0) (kc38 : cto P37 k0 = cto P14 k0) (kc39 : cto P37 (some b16) = cto P14 (some b16)) (hr33_4_0 : n18.toInt ≤ n34.toInt) (hr33_4_1 : n34.toInt ≤ (κ.1 7).toInt) (hr33_4_2 : ((cto P37 none : Nat) : Int) ≤ 2 * (n34.toInt - n18.toInt)) : (2 * (n34.toInt - (κ.1 3).toInt) - 1).toNat ≤ (2 * ((κ.1 7).toInt - (κ.1 3).toInt) - 1).toNat := by
  have zc0 : cto P37 none = 0 := rfl
  first | assumption | omega | (subst_vars; omega) | trivial
-- growm @80
theorem vX6_member_60 (κ : KS) (k0 : Option Nat) (n2 : Int32) (n4 : Int32) (r3 : Int32) (n7 : Int32) (r6 : Int32) (n11 : Int32) (P14 : PL) (b16 : Nat) (n18 : Int32) (r17 : Int32) (n34 : Int32) (P37 : PL) (hpre_0 : 0 ≤ (κ.1 3).toInt) (hpre_1 : (κ.1 3).toInt ≤ (κ.1 7).toInt) (hpre_2 : (κ.1 7).toInt ≤ 41) (hpre_6 : (κ.1 3).toInt < (κ.1 7).toInt) (hr1 : n2.toInt = (κ.1 3).toInt + 1) (hr3_0_0 : 0 ≤ r3.toInt) (hr3_0_1 : r3.toInt ≤ 1) (hr3_1_0 : r3.toInt = 0 → n4.toInt = n2.toInt) (hr3_1_1 : ¬ r3.toInt = 0 → n4.toInt = n2.toInt + 1 ∧ n2.toInt < (κ.1 7).toInt) (c5 : ¬ r3.toInt = 0) (hr6_0_0 : 0 ≤ r6.toInt) (hr6_0_1 : r6.toInt ≤ 1) (hr6_1_0 : r6.toInt = 0 → n7.toInt = n4.toInt) (hr6_1_1 : ¬ r6.toInt = 0 → n7.toInt = n4.toInt + 1 ∧ n4.toInt < (κ.1 7).toInt) (c8 : r6.toInt = 0) (kc15 : cto P14 k0 = cto κ.2.2.2.2 k0) (hr10_4_0 : n7.toInt ≤ n11.toInt) (hr10_4_1 : n11.toInt ≤ (κ.1 7).toInt) (hr10_4_2 : ((cto P14 (some b16) : Nat) : Int) ≤ 2 * (n11.toInt - n7.toInt)) (hr17_0_0 : 0 ≤ r17.toInt) (hr17_0_1 : r17.toInt ≤ 1) (hr17_1_0 : r17.toInt = 0 → n18.toInt = n11.toInt) (hr17_1_1 : ¬ r17.toInt = 0 → n18.toInt = n11.toInt + 1 ∧ n11.toInt < (κ.1 7).toInt) (c19 : ¬ r17.toInt = 0) (kc38 : cto P37 k0 = cto P14 k0) (kc39 : cto P37 (some b16) = cto P14 (some b16)) (hr33_4_0 : n18.toInt ≤ n34.toInt) (hr33_4_1 : n34.toInt ≤ (κ.1 7).toInt) (hr33_4_2 : ((cto P37 none : Nat) : Int) ≤ 2 * (n34.toInt - n18.toInt)) : (16 * (n34.toInt - (κ.1 3).toInt) - 8).toNat ≤ (16 * ((κ.1 7).toInt - (κ.1 3).toInt) - 8).toNat := by
  have zc0 : cto P37 none = 0 := rfl
  first | assumption | omega | (subst_vars; omega) | trivial
-- pre:X6_takes@84 @84
theorem vX6_member_61 (κ : KS) (k0 : Option Nat) (n2 : Int32) (n4 : Int32) (r3 : Int32) (n7 : Int32) (r6 : Int32) (n11 : Int32) (P14 : PL) (b16 : Nat) (n18 : Int32) (r17 : Int32) (n34 : Int32) (P37 : PL) (b40 : Nat) (hpre_0 : 0 ≤ (κ.1 3).toInt) (hpre_1 : (κ.1 3).toInt ≤ (κ.1 7).toInt) (hpre_2 : (κ.1 7).toInt ≤ 41) (hpre_6 : (κ.1 3).toInt < (κ.1 7).toInt) (hr1 : n2.toInt = (κ.1 3).toInt + 1) (hr3_0_0 : 0 ≤ r3.toInt) (hr3_0_1 : r3.toInt ≤ 1) (hr3_1_0 : r3.toInt = 0 → n4.toInt = n2.toInt) (hr3_1_1 : ¬ r3.toInt = 0 → n4.toInt = n2.toInt + 1 ∧ n2.toInt < (κ.1 7).toInt) (c5 : ¬ r3.toInt = 0) (hr6_0_0 : 0 ≤ r6.toInt) (hr6_0_1 : r6.toInt ≤ 1) (hr6_1_0 : r6.toInt = 0 → n7.toInt = n4.toInt) (hr6_1_1 : ¬ r6.toInt = 0 → n7.toInt = n4.toInt + 1 ∧ n4.toInt < (κ.1 7).toInt) (c8 : r6.toInt = 0) (kc15 : cto P14 k0 = cto κ.2.2.2.2 k0) (hr10_4_0 : n7.toInt ≤ n11.toInt) (hr10_4_1 : n11.toInt ≤ (κ.1 7).toInt) (hr10_4_2 : ((cto P14 (some b16) : Nat) : Int) ≤ 2 * (n11.toInt - n7.toInt)) (hr17_0_0 : 0 ≤ r17.toInt) (hr17_0_1 : r17.toInt ≤ 1) (hr17_1_0 : r17.toInt = 0 → n18.toInt = n11.toInt) (hr17_1_1 : ¬ r17.toInt = 0 → n18.toInt = n11.toInt + 1 ∧ n11.toInt < (κ.1 7).toInt) (c19 : ¬ r17.toInt = 0) (kc38 : cto P37 k0 = cto P14 k0) (kc39 : cto P37 (some b16) = cto P14 (some b16)) (hr33_4_0 : n18.toInt ≤ n34.toInt) (hr33_4_1 : n34.toInt ≤ (κ.1 7).toInt) (hr33_4_2 : ((cto P37 (some b40) : Nat) : Int) ≤ 2 * (n34.toInt - n18.toInt)) : 0 ≤ n34.toInt ∧ n34.toInt ≤ (κ.1 7).toInt ∧ (κ.1 7).toInt ≤ 41 ∧ ¬ (41 : Int32).toInt = 0 := by
  have q41 : (41 : Int32).toInt = 41 := by decide +kernel
  refine ⟨?_, ?_, ?_, ?_⟩ <;> first | assumption | omega | (subst_vars; omega) | trivial
-- room @84
theorem vX6_member_62 (κ : KS) (k0 : Option Nat) (n2 : Int32) (n4 : Int32) (r3 : Int32) (n7 : Int32) (r6 : Int32) (n11 : Int32) (P14 : PL) (b16 : Nat) (n18 : Int32) (r17 : Int32) (n34 : Int32) (P37 : PL) (b40 : Nat) (hpre_0 : 0 ≤ (κ.1 3).toInt) (hpre_1 : (κ.1 3).toInt ≤ (κ.1 7).toInt) (hpre_2 : (κ.1 7).toInt ≤ 41) (hpre_6 : (κ.1 3).toInt < (κ.1 7).toInt) (hr1 : n2.toInt = (κ.1 3).toInt + 1) (hr3_0_0 : 0 ≤ r3.toInt) (hr3_0_1 : r3.toInt ≤ 1) (hr3_1_0 : r3.toInt = 0 → n4.toInt = n2.toInt) (hr3_1_1 : ¬ r3.toInt = 0 → n4.toInt = n2.toInt + 1 ∧ n2.toInt < (κ.1 7).toInt) (c5 : ¬ r3.toInt = 0) (hr6_0_0 : 0 ≤ r6.toInt) (hr6_0_1 : r6.toInt ≤ 1) (hr6_1_0 : r6.toInt = 0 → n7.toInt = n4.toInt) (hr6_1_1 : ¬ r6.toInt = 0 → n7.toInt = n4.toInt + 1 ∧ n4.toInt < (κ.1 7).toInt) (c8 : r6.toInt = 0) (kc15 : cto P14 k0 = cto κ.2.2.2.2 k0) (hr10_4_0 : n7.toInt ≤ n11.toInt) (hr10_4_1 : n11.toInt ≤ (κ.1 7).toInt) (hr10_4_2 : ((cto P14 (some b16) : Nat) : Int) ≤ 2 * (n11.toInt - n7.toInt)) (hr17_0_0 : 0 ≤ r17.toInt) (hr17_0_1 : r17.toInt ≤ 1) (hr17_1_0 : r17.toInt = 0 → n18.toInt = n11.toInt) (hr17_1_1 : ¬ r17.toInt = 0 → n18.toInt = n11.toInt + 1 ∧ n11.toInt < (κ.1 7).toInt) (c19 : ¬ r17.toInt = 0) (kc38 : cto P37 k0 = cto P14 k0) (kc39 : cto P37 (some b16) = cto P14 (some b16)) (hr33_4_0 : n18.toInt ≤ n34.toInt) (hr33_4_1 : n34.toInt ≤ (κ.1 7).toInt) (hr33_4_2 : ((cto P37 (some b40) : Nat) : Int) ≤ 2 * (n34.toInt - n18.toInt)) : 0 + 0 + 0 + 0 + ((2 * (n11.toInt - n7.toInt)).toNat) + 0 + ((2 * (n34.toInt - n18.toInt)).toNat) + 0 ≤ (2 * ((κ.1 7).toInt - (κ.1 3).toInt) - 1).toNat := by
  first | assumption | omega | (subst_vars; omega) | trivial
-- room @84
theorem vX6_member_63 (κ : KS) (k0 : Option Nat) (n2 : Int32) (n4 : Int32) (r3 : Int32) (n7 : Int32) (r6 : Int32) (n11 : Int32) (P14 : PL) (b16 : Nat) (n18 : Int32) (r17 : Int32) (n34 : Int32) (P37 : PL) (b40 : Nat) (hpre_0 : 0 ≤ (κ.1 3).toInt) (hpre_1 : (κ.1 3).toInt ≤ (κ.1 7).toInt) (hpre_2 : (κ.1 7).toInt ≤ 41) (hpre_6 : (κ.1 3).toInt < (κ.1 7).toInt) (hr1 : n2.toInt = (κ.1 3).toInt + 1) (hr3_0_0 : 0 ≤ r3.toInt) (hr3_0_1 : r3.toInt ≤ 1) (hr3_1_0 : r3.toInt = 0 → n4.toInt = n2.toInt) (hr3_1_1 : ¬ r3.toInt = 0 → n4.toInt = n2.toInt + 1 ∧ n2.toInt < (κ.1 7).toInt) (c5 : ¬ r3.toInt = 0) (hr6_0_0 : 0 ≤ r6.toInt) (hr6_0_1 : r6.toInt ≤ 1) (hr6_1_0 : r6.toInt = 0 → n7.toInt = n4.toInt) (hr6_1_1 : ¬ r6.toInt = 0 → n7.toInt = n4.toInt + 1 ∧ n4.toInt < (κ.1 7).toInt) (c8 : r6.toInt = 0) (kc15 : cto P14 k0 = cto κ.2.2.2.2 k0) (hr10_4_0 : n7.toInt ≤ n11.toInt) (hr10_4_1 : n11.toInt ≤ (κ.1 7).toInt) (hr10_4_2 : ((cto P14 (some b16) : Nat) : Int) ≤ 2 * (n11.toInt - n7.toInt)) (hr17_0_0 : 0 ≤ r17.toInt) (hr17_0_1 : r17.toInt ≤ 1) (hr17_1_0 : r17.toInt = 0 → n18.toInt = n11.toInt) (hr17_1_1 : ¬ r17.toInt = 0 → n18.toInt = n11.toInt + 1 ∧ n11.toInt < (κ.1 7).toInt) (c19 : ¬ r17.toInt = 0) (kc38 : cto P37 k0 = cto P14 k0) (kc39 : cto P37 (some b16) = cto P14 (some b16)) (hr33_4_0 : n18.toInt ≤ n34.toInt) (hr33_4_1 : n34.toInt ≤ (κ.1 7).toInt) (hr33_4_2 : ((cto P37 (some b40) : Nat) : Int) ≤ 2 * (n34.toInt - n18.toInt)) : 0 + 0 + 0 + 0 + ((16 * (n11.toInt - n7.toInt)).toNat) + 0 + ((16 * (n34.toInt - n18.toInt)).toNat) + 0 ≤ (16 * ((κ.1 7).toInt - (κ.1 3).toInt) - 8).toNat := by
  first | assumption | omega | (subst_vars; omega) | trivial
-- pre:X6_refuse@104 @104
theorem vX6_member_64 (κ : KS) (k0 : Option Nat) (n2 : Int32) (n4 : Int32) (r3 : Int32) (n7 : Int32) (r6 : Int32) (n11 : Int32) (P14 : PL) (b16 : Nat) (n18 : Int32) (r17 : Int32) (n34 : Int32) (P37 : PL) (b40 : Nat) (n42 : Int32) (r41 : Int32) (hpre_0 : 0 ≤ (κ.1 3).toInt) (hpre_1 : (κ.1 3).toInt ≤ (κ.1 7).toInt) (hpre_2 : (κ.1 7).toInt ≤ 41) (hpre_6 : (κ.1 3).toInt < (κ.1 7).toInt) (hr1 : n2.toInt = (κ.1 3).toInt + 1) (hr3_0_0 : 0 ≤ r3.toInt) (hr3_0_1 : r3.toInt ≤ 1) (hr3_1_0 : r3.toInt = 0 → n4.toInt = n2.toInt) (hr3_1_1 : ¬ r3.toInt = 0 → n4.toInt = n2.toInt + 1 ∧ n2.toInt < (κ.1 7).toInt) (c5 : ¬ r3.toInt = 0) (hr6_0_0 : 0 ≤ r6.toInt) (hr6_0_1 : r6.toInt ≤ 1) (hr6_1_0 : r6.toInt = 0 → n7.toInt = n4.toInt) (hr6_1_1 : ¬ r6.toInt = 0 → n7.toInt = n4.toInt + 1 ∧ n4.toInt < (κ.1 7).toInt) (c8 : r6.toInt = 0) (kc15 : cto P14 k0 = cto κ.2.2.2.2 k0) (hr10_4_0 : n7.toInt ≤ n11.toInt) (hr10_4_1 : n11.toInt ≤ (κ.1 7).toInt) (hr10_4_2 : ((cto P14 (some b16) : Nat) : Int) ≤ 2 * (n11.toInt - n7.toInt)) (hr17_0_0 : 0 ≤ r17.toInt) (hr17_0_1 : r17.toInt ≤ 1) (hr17_1_0 : r17.toInt = 0 → n18.toInt = n11.toInt) (hr17_1_1 : ¬ r17.toInt = 0 → n18.toInt = n11.toInt + 1 ∧ n11.toInt < (κ.1 7).toInt) (c19 : ¬ r17.toInt = 0) (kc38 : cto P37 k0 = cto P14 k0) (kc39 : cto P37 (some b16) = cto P14 (some b16)) (hr33_4_0 : n18.toInt ≤ n34.toInt) (hr33_4_1 : n34.toInt ≤ (κ.1 7).toInt) (hr33_4_2 : ((cto P37 (some b40) : Nat) : Int) ≤ 2 * (n34.toInt - n18.toInt)) (hr41_0_0 : 0 ≤ r41.toInt) (hr41_0_1 : r41.toInt ≤ 1) (hr41_1_0 : r41.toInt = 0 → n42.toInt = n34.toInt) (hr41_1_1 : ¬ r41.toInt = 0 → n42.toInt = n34.toInt + 1 ∧ n34.toInt < (κ.1 7).toInt) (c43 : r41.toInt = 0) : (κ.1 7).toInt ≤ 41 := by
  first | assumption | omega | (subst_vars; omega) | trivial
-- room @104
theorem vX6_member_65 (κ : KS) (k0 : Option Nat) (n2 : Int32) (n4 : Int32) (r3 : Int32) (n7 : Int32) (r6 : Int32) (n11 : Int32) (P14 : PL) (b16 : Nat) (n18 : Int32) (r17 : Int32) (n34 : Int32) (P37 : PL) (b40 : Nat) (n42 : Int32) (r41 : Int32) (hpre_0 : 0 ≤ (κ.1 3).toInt) (hpre_1 : (κ.1 3).toInt ≤ (κ.1 7).toInt) (hpre_2 : (κ.1 7).toInt ≤ 41) (hpre_6 : (κ.1 3).toInt < (κ.1 7).toInt) (hr1 : n2.toInt = (κ.1 3).toInt + 1) (hr3_0_0 : 0 ≤ r3.toInt) (hr3_0_1 : r3.toInt ≤ 1) (hr3_1_0 : r3.toInt = 0 → n4.toInt = n2.toInt) (hr3_1_1 : ¬ r3.toInt = 0 → n4.toInt = n2.toInt + 1 ∧ n2.toInt < (κ.1 7).toInt) (c5 : ¬ r3.toInt = 0) (hr6_0_0 : 0 ≤ r6.toInt) (hr6_0_1 : r6.toInt ≤ 1) (hr6_1_0 : r6.toInt = 0 → n7.toInt = n4.toInt) (hr6_1_1 : ¬ r6.toInt = 0 → n7.toInt = n4.toInt + 1 ∧ n4.toInt < (κ.1 7).toInt) (c8 : r6.toInt = 0) (kc15 : cto P14 k0 = cto κ.2.2.2.2 k0) (hr10_4_0 : n7.toInt ≤ n11.toInt) (hr10_4_1 : n11.toInt ≤ (κ.1 7).toInt) (hr10_4_2 : ((cto P14 (some b16) : Nat) : Int) ≤ 2 * (n11.toInt - n7.toInt)) (hr17_0_0 : 0 ≤ r17.toInt) (hr17_0_1 : r17.toInt ≤ 1) (hr17_1_0 : r17.toInt = 0 → n18.toInt = n11.toInt) (hr17_1_1 : ¬ r17.toInt = 0 → n18.toInt = n11.toInt + 1 ∧ n11.toInt < (κ.1 7).toInt) (c19 : ¬ r17.toInt = 0) (kc38 : cto P37 k0 = cto P14 k0) (kc39 : cto P37 (some b16) = cto P14 (some b16)) (hr33_4_0 : n18.toInt ≤ n34.toInt) (hr33_4_1 : n34.toInt ≤ (κ.1 7).toInt) (hr33_4_2 : ((cto P37 (some b40) : Nat) : Int) ≤ 2 * (n34.toInt - n18.toInt)) (hr41_0_0 : 0 ≤ r41.toInt) (hr41_0_1 : r41.toInt ≤ 1) (hr41_1_0 : r41.toInt = 0 → n42.toInt = n34.toInt) (hr41_1_1 : ¬ r41.toInt = 0 → n42.toInt = n34.toInt + 1 ∧ n34.toInt < (κ.1 7).toInt) (c43 : r41.toInt = 0) : 0 + 0 + 0 + 0 + ((2 * (n11.toInt - n7.toInt)).toNat) + 0 + ((2 * (n34.toInt - n18.toInt)).toNat) + 0 + 0 ≤ (2 * ((κ.1 7).toInt - (κ.1 3).toInt) - 1).toNat := by
  first | assumption | omega | (subst_vars; omega) | trivial
-- room @104
theorem vX6_member_66 (κ : KS) (k0 : Option Nat) (n2 : Int32) (n4 : Int32) (r3 : Int32) (n7 : Int32) (r6 : Int32) (n11 : Int32) (P14 : PL) (b16 : Nat) (n18 : Int32) (r17 : Int32) (n34 : Int32) (P37 : PL) (b40 : Nat) (n42 : Int32) (r41 : Int32) (hpre_0 : 0 ≤ (κ.1 3).toInt) (hpre_1 : (κ.1 3).toInt ≤ (κ.1 7).toInt) (hpre_2 : (κ.1 7).toInt ≤ 41) (hpre_6 : (κ.1 3).toInt < (κ.1 7).toInt) (hr1 : n2.toInt = (κ.1 3).toInt + 1) (hr3_0_0 : 0 ≤ r3.toInt) (hr3_0_1 : r3.toInt ≤ 1) (hr3_1_0 : r3.toInt = 0 → n4.toInt = n2.toInt) (hr3_1_1 : ¬ r3.toInt = 0 → n4.toInt = n2.toInt + 1 ∧ n2.toInt < (κ.1 7).toInt) (c5 : ¬ r3.toInt = 0) (hr6_0_0 : 0 ≤ r6.toInt) (hr6_0_1 : r6.toInt ≤ 1) (hr6_1_0 : r6.toInt = 0 → n7.toInt = n4.toInt) (hr6_1_1 : ¬ r6.toInt = 0 → n7.toInt = n4.toInt + 1 ∧ n4.toInt < (κ.1 7).toInt) (c8 : r6.toInt = 0) (kc15 : cto P14 k0 = cto κ.2.2.2.2 k0) (hr10_4_0 : n7.toInt ≤ n11.toInt) (hr10_4_1 : n11.toInt ≤ (κ.1 7).toInt) (hr10_4_2 : ((cto P14 (some b16) : Nat) : Int) ≤ 2 * (n11.toInt - n7.toInt)) (hr17_0_0 : 0 ≤ r17.toInt) (hr17_0_1 : r17.toInt ≤ 1) (hr17_1_0 : r17.toInt = 0 → n18.toInt = n11.toInt) (hr17_1_1 : ¬ r17.toInt = 0 → n18.toInt = n11.toInt + 1 ∧ n11.toInt < (κ.1 7).toInt) (c19 : ¬ r17.toInt = 0) (kc38 : cto P37 k0 = cto P14 k0) (kc39 : cto P37 (some b16) = cto P14 (some b16)) (hr33_4_0 : n18.toInt ≤ n34.toInt) (hr33_4_1 : n34.toInt ≤ (κ.1 7).toInt) (hr33_4_2 : ((cto P37 (some b40) : Nat) : Int) ≤ 2 * (n34.toInt - n18.toInt)) (hr41_0_0 : 0 ≤ r41.toInt) (hr41_0_1 : r41.toInt ≤ 1) (hr41_1_0 : r41.toInt = 0 → n42.toInt = n34.toInt) (hr41_1_1 : ¬ r41.toInt = 0 → n42.toInt = n34.toInt + 1 ∧ n34.toInt < (κ.1 7).toInt) (c43 : r41.toInt = 0) : 0 + 0 + 0 + 0 + ((16 * (n11.toInt - n7.toInt)).toNat) + 0 + ((16 * (n34.toInt - n18.toInt)).toNat) + 0 + 0 ≤ (16 * ((κ.1 7).toInt - (κ.1 3).toInt) - 8).toNat := by
  first | assumption | omega | (subst_vars; omega) | trivial
-- post @107
theorem vX6_member_67 (κ : KS) (k0 : Option Nat) (n2 : Int32) (n4 : Int32) (r3 : Int32) (n7 : Int32) (r6 : Int32) (n11 : Int32) (P14 : PL) (b16 : Nat) (n18 : Int32) (r17 : Int32) (n34 : Int32) (P37 : PL) (b40 : Nat) (n42 : Int32) (r41 : Int32) (r44 : Option Nat) (hpre_0 : 0 ≤ (κ.1 3).toInt) (hpre_1 : (κ.1 3).toInt ≤ (κ.1 7).toInt) (hpre_2 : (κ.1 7).toInt ≤ 41) (hpre_6 : (κ.1 3).toInt < (κ.1 7).toInt) (hr1 : n2.toInt = (κ.1 3).toInt + 1) (hr3_0_0 : 0 ≤ r3.toInt) (hr3_0_1 : r3.toInt ≤ 1) (hr3_1_0 : r3.toInt = 0 → n4.toInt = n2.toInt) (hr3_1_1 : ¬ r3.toInt = 0 → n4.toInt = n2.toInt + 1 ∧ n2.toInt < (κ.1 7).toInt) (c5 : ¬ r3.toInt = 0) (hr6_0_0 : 0 ≤ r6.toInt) (hr6_0_1 : r6.toInt ≤ 1) (hr6_1_0 : r6.toInt = 0 → n7.toInt = n4.toInt) (hr6_1_1 : ¬ r6.toInt = 0 → n7.toInt = n4.toInt + 1 ∧ n4.toInt < (κ.1 7).toInt) (c8 : r6.toInt = 0) (kc15 : cto P14 k0 = cto κ.2.2.2.2 k0) (hr10_4_0 : n7.toInt ≤ n11.toInt) (hr10_4_1 : n11.toInt ≤ (κ.1 7).toInt) (hr10_4_2 : ((cto P14 (some b16) : Nat) : Int) ≤ 2 * (n11.toInt - n7.toInt)) (hr17_0_0 : 0 ≤ r17.toInt) (hr17_0_1 : r17.toInt ≤ 1) (hr17_1_0 : r17.toInt = 0 → n18.toInt = n11.toInt) (hr17_1_1 : ¬ r17.toInt = 0 → n18.toInt = n11.toInt + 1 ∧ n11.toInt < (κ.1 7).toInt) (c19 : ¬ r17.toInt = 0) (kc38 : cto P37 k0 = cto P14 k0) (kc39 : cto P37 (some b16) = cto P14 (some b16)) (hr33_4_0 : n18.toInt ≤ n34.toInt) (hr33_4_1 : n34.toInt ≤ (κ.1 7).toInt) (hr33_4_2 : ((cto P37 (some b40) : Nat) : Int) ≤ 2 * (n34.toInt - n18.toInt)) (hr41_0_0 : 0 ≤ r41.toInt) (hr41_0_1 : r41.toInt ≤ 1) (hr41_1_0 : r41.toInt = 0 → n42.toInt = n34.toInt) (hr41_1_1 : ¬ r41.toInt = 0 → n42.toInt = n34.toInt + 1 ∧ n34.toInt < (κ.1 7).toInt) (c43 : r41.toInt = 0) (hr44_1 : cto P37 r44 = 0) : (κ.1 3).toInt ≤ n42.toInt ∧ n42.toInt ≤ (κ.1 7).toInt ∧ (κ.1 3).toInt < n42.toInt ∧ ((cto P37 r44 : Nat) : Int) + 1 ≤ ((cto κ.2.2.2.2 k0 : Nat) : Int) + 2 * (n42.toInt - (κ.1 3).toInt) := by
  refine ⟨?_, ?_, ?_, ?_⟩ <;> first | assumption | omega | (subst_vars; omega) | trivial
-- post2 @107
theorem vX6_member_68 (κ : KS) (k0 : Option Nat) (k1 : Int32) (d : Nat) (n2 : Int32) (r1 : Int32) (n4 : Int32) (r3 : Int32) (n7 : Int32) (r6 : Int32) (x9 : Int32) (n11 : Int32) (n12 : Int32) (n13 : Int32) (P14 : PL) (b16 : Nat) (n18 : Int32) (r17 : Int32) (x32 : Int32) (n34 : Int32) (n35 : Int32) (n36 : Int32) (P37 : PL) (b40 : Nat) (n42 : Int32) (r41 : Int32) (n45 : Int32) (n46 : Int32) (r44 : Option Nat) (hpre_0 : 0 ≤ (κ.1 3).toInt) (hpre_1 : (κ.1 3).toInt ≤ (κ.1 7).toInt) (hpre_2 : (κ.1 7).toInt ≤ 41) (hpre_3 : 0 ≤ k1.toInt) (hpre_4 : k1.toInt ≤ 4) (hpre_5 : 4 ≤ k1.toInt + ((d : Nat) : Int)) (hpre_6 : (κ.1 3).toInt < (κ.1 7).toInt) (hr1y : r1.toInt = (cT (κ.2.2.1 12) (κ.1 7)) (κ.1 3).toInt) (hr1 : n2.toInt = (κ.1 3).toInt + 1) (hr3y_0 : r3.toInt = 0 → ¬ (cT (κ.2.2.1 10) (κ.1 7)) n2.toInt = (40 : Int32).toInt) (hr3y_1 : ¬ r3.toInt = 0 → (cT (κ.2.2.1 10) (κ.1 7)) n2.toInt = (40 : Int32).toInt) (hr3_0_0 : 0 ≤ r3.toInt) (hr3_0_1 : r3.toInt ≤ 1) (hr3_1_0 : r3.toInt = 0 → n4.toInt = n2.toInt) (hr3_1_1 : ¬ r3.toInt = 0 → n4.toInt = n2.toInt + 1 ∧ n2.toInt < (κ.1 7).toInt) (c5 : ¬ r3.toInt = 0) (hr6y_0 : r6.toInt = 0 → ¬ (cT (κ.2.2.1 10) (κ.1 7)) n4.toInt = (41 : Int32).toInt) (hr6y_1 : ¬ r6.toInt = 0 → (cT (κ.2.2.1 10) (κ.1 7)) n4.toInt = (41 : Int32).toInt) (hr6_0_0 : 0 ≤ r6.toInt) (hr6_0_1 : r6.toInt ≤ 1) (hr6_1_0 : r6.toInt = 0 → n7.toInt = n4.toInt) (hr6_1_1 : ¬ r6.toInt = 0 → n7.toInt = n4.toInt + 1 ∧ n4.toInt < (κ.1 7).toInt) (c8 : r6.toInt = 0) (ex9 : x9 = k1 + (1 : Int32)) (tx9 : x9.toInt = k1.toInt + 1) (kc15 : cto P14 k0 = cto κ.2.2.2.2 k0) (hr10y : LG (cT (κ.2.2.1 10) (κ.1 7)) (cT (κ.2.2.1 12) (κ.1 7)) (cT (κ.2.2.1 11) (κ.1 7)) 0 0 false x9.toInt n7.toInt P14 (some b16) n11.toInt n12.toInt n13.toInt) (hr10_4_0 : n7.toInt ≤ n11.toInt) (hr10_4_1 : n11.toInt ≤ (κ.1 7).toInt) (hr10_4_2 : ((cto P14 (some b16) : Nat) : Int) ≤ 2 * (n11.toInt - n7.toInt)) (hr17y_0 : r17.toInt = 0 → ¬ (cT (κ.2.2.1 10) (κ.1 7)) n11.toInt = (44 : Int32).toInt) (hr17y_1 : ¬ r17.toInt = 0 → (cT (κ.2.2.1 10) (κ.1 7)) n11.toInt = (44 : Int32).toInt) (hr17_0_0 : 0 ≤ r17.toInt) (hr17_0_1 : r17.toInt ≤ 1) (hr17_1_0 : r17.toInt = 0 → n18.toInt = n11.toInt) (hr17_1_1 : ¬ r17.toInt = 0 → n18.toInt = n11.toInt + 1 ∧ n11.toInt < (κ.1 7).toInt) (c19 : ¬ r17.toInt = 0) (ex32 : x32 = k1 + (1 : Int32)) (tx32 : x32.toInt = k1.toInt + 1) (kc38 : cto P37 k0 = cto P14 k0) (kc39 : cto P37 (some b16) = cto P14 (some b16)) (hr33y : LG (cT (κ.2.2.1 10) (κ.1 7)) (cT (κ.2.2.1 12) (κ.1 7)) (cT (κ.2.2.1 11) (κ.1 7)) 0 0 false x32.toInt n18.toInt P37 (some b40) n34.toInt n35.toInt n36.toInt) (hr33_4_0 : n18.toInt ≤ n34.toInt) (hr33_4_1 : n34.toInt ≤ (κ.1 7).toInt) (hr33_4_2 : ((cto P37 (some b40) : Nat) : Int) ≤ 2 * (n34.toInt - n18.toInt)) (hr41y_0 : r41.toInt = 0 → ¬ (cT (κ.2.2.1 10) (κ.1 7)) n34.toInt = (41 : Int32).toInt) (hr41y_1 : ¬ r41.toInt = 0 → (cT (κ.2.2.1 10) (κ.1 7)) n34.toInt = (41 : Int32).toInt) (hr41_0_0 : 0 ≤ r41.toInt) (hr41_0_1 : r41.toInt ≤ 1) (hr41_1_0 : r41.toInt = 0 → n42.toInt = n34.toInt) (hr41_1_1 : ¬ r41.toInt = 0 → n42.toInt = n34.toInt + 1 ∧ n34.toInt < (κ.1 7).toInt) (c43 : r41.toInt = 0) (hr44y_0 : r44 = (none : Option Nat)) (hr44y_1 : n45.toInt = (2 : Int32).toInt) (hr44y_2 : n46.toInt = (cT (κ.2.2.1 11) (κ.1 7)) n42.toInt) (hr44_1 : cto P37 r44 = 0) : ∀ s9 : Bool, LG (cT (κ.2.2.1 10) (κ.1 7)) (cT (κ.2.2.1 12) (κ.1 7)) (cT (κ.2.2.1 11) (κ.1 7)) 10 0 s9 k1.toInt (κ.1 3).toInt P37 r44 n42.toInt n45.toInt n46.toInt := by
  have q1 : (1 : Int32).toInt = 1 := by decide +kernel
  have q2 : (2 : Int32).toInt = 2 := by decide +kernel
  have q40 : (40 : Int32).toInt = 40 := by decide +kernel
  have q41 : (41 : Int32).toInt = 41 := by decide +kernel
  have q44 : (44 : Int32).toInt = 44 := by decide +kernel
  intro s9
  have tkhr3y_1 := hr3y_1 c5
  have tkhr6y_0 := hr6y_0 c8
  obtain rfl : n7 = n4 := Int32.toInt_inj.mp (hr6_1_0 c8)
  have tkhr17y_1 := hr17y_1 c19
  have tkhr41y_0 := hr41y_0 c43
  obtain rfl : n42 = n34 := Int32.toInt_inj.mp (hr41_1_0 c43)
  obtain rfl := hr44y_0
  first
  | exact gl_m2e (a1 := n2.toInt) (by omega) (by omega) (by omega) (by omega) (by omega) (by omega) hr10y (by omega) (by omega) hr33y
  | exact gl_m2x (a1 := n2.toInt) (by omega) (by omega) (by omega) (by omega) (by omega) (by omega) hr10y (by omega) (by omega) hr33y (by omega) (by omega) (by omega)
-- grow @107
theorem vX6_member_69 (κ : KS) (k0 : Option Nat) (n2 : Int32) (n4 : Int32) (r3 : Int32) (n7 : Int32) (r6 : Int32) (n11 : Int32) (P14 : PL) (b16 : Nat) (n18 : Int32) (r17 : Int32) (n34 : Int32) (P37 : PL) (b40 : Nat) (n42 : Int32) (r41 : Int32) (r44 : Option Nat) (hpre_0 : 0 ≤ (κ.1 3).toInt) (hpre_1 : (κ.1 3).toInt ≤ (κ.1 7).toInt) (hpre_2 : (κ.1 7).toInt ≤ 41) (hpre_6 : (κ.1 3).toInt < (κ.1 7).toInt) (hr1 : n2.toInt = (κ.1 3).toInt + 1) (hr3_0_0 : 0 ≤ r3.toInt) (hr3_0_1 : r3.toInt ≤ 1) (hr3_1_0 : r3.toInt = 0 → n4.toInt = n2.toInt) (hr3_1_1 : ¬ r3.toInt = 0 → n4.toInt = n2.toInt + 1 ∧ n2.toInt < (κ.1 7).toInt) (c5 : ¬ r3.toInt = 0) (hr6_0_0 : 0 ≤ r6.toInt) (hr6_0_1 : r6.toInt ≤ 1) (hr6_1_0 : r6.toInt = 0 → n7.toInt = n4.toInt) (hr6_1_1 : ¬ r6.toInt = 0 → n7.toInt = n4.toInt + 1 ∧ n4.toInt < (κ.1 7).toInt) (c8 : r6.toInt = 0) (kc15 : cto P14 k0 = cto κ.2.2.2.2 k0) (hr10_4_0 : n7.toInt ≤ n11.toInt) (hr10_4_1 : n11.toInt ≤ (κ.1 7).toInt) (hr10_4_2 : ((cto P14 (some b16) : Nat) : Int) ≤ 2 * (n11.toInt - n7.toInt)) (hr17_0_0 : 0 ≤ r17.toInt) (hr17_0_1 : r17.toInt ≤ 1) (hr17_1_0 : r17.toInt = 0 → n18.toInt = n11.toInt) (hr17_1_1 : ¬ r17.toInt = 0 → n18.toInt = n11.toInt + 1 ∧ n11.toInt < (κ.1 7).toInt) (c19 : ¬ r17.toInt = 0) (kc38 : cto P37 k0 = cto P14 k0) (kc39 : cto P37 (some b16) = cto P14 (some b16)) (hr33_4_0 : n18.toInt ≤ n34.toInt) (hr33_4_1 : n34.toInt ≤ (κ.1 7).toInt) (hr33_4_2 : ((cto P37 (some b40) : Nat) : Int) ≤ 2 * (n34.toInt - n18.toInt)) (hr41_0_0 : 0 ≤ r41.toInt) (hr41_0_1 : r41.toInt ≤ 1) (hr41_1_0 : r41.toInt = 0 → n42.toInt = n34.toInt) (hr41_1_1 : ¬ r41.toInt = 0 → n42.toInt = n34.toInt + 1 ∧ n34.toInt < (κ.1 7).toInt) (c43 : r41.toInt = 0) (hr44_1 : cto P37 r44 = 0) : 0 + 0 + 0 + 0 + ((2 * (n11.toInt - n7.toInt)).toNat) + 0 + ((2 * (n34.toInt - n18.toInt)).toNat) + 0 + 0 ≤ (2 * (n42.toInt - (κ.1 3).toInt) - 1).toNat := by
  first | assumption | omega | (subst_vars; omega) | trivial
-- grow @107
theorem vX6_member_70 (κ : KS) (k0 : Option Nat) (n2 : Int32) (n4 : Int32) (r3 : Int32) (n7 : Int32) (r6 : Int32) (n11 : Int32) (P14 : PL) (b16 : Nat) (n18 : Int32) (r17 : Int32) (n34 : Int32) (P37 : PL) (b40 : Nat) (n42 : Int32) (r41 : Int32) (r44 : Option Nat) (hpre_0 : 0 ≤ (κ.1 3).toInt) (hpre_1 : (κ.1 3).toInt ≤ (κ.1 7).toInt) (hpre_2 : (κ.1 7).toInt ≤ 41) (hpre_6 : (κ.1 3).toInt < (κ.1 7).toInt) (hr1 : n2.toInt = (κ.1 3).toInt + 1) (hr3_0_0 : 0 ≤ r3.toInt) (hr3_0_1 : r3.toInt ≤ 1) (hr3_1_0 : r3.toInt = 0 → n4.toInt = n2.toInt) (hr3_1_1 : ¬ r3.toInt = 0 → n4.toInt = n2.toInt + 1 ∧ n2.toInt < (κ.1 7).toInt) (c5 : ¬ r3.toInt = 0) (hr6_0_0 : 0 ≤ r6.toInt) (hr6_0_1 : r6.toInt ≤ 1) (hr6_1_0 : r6.toInt = 0 → n7.toInt = n4.toInt) (hr6_1_1 : ¬ r6.toInt = 0 → n7.toInt = n4.toInt + 1 ∧ n4.toInt < (κ.1 7).toInt) (c8 : r6.toInt = 0) (kc15 : cto P14 k0 = cto κ.2.2.2.2 k0) (hr10_4_0 : n7.toInt ≤ n11.toInt) (hr10_4_1 : n11.toInt ≤ (κ.1 7).toInt) (hr10_4_2 : ((cto P14 (some b16) : Nat) : Int) ≤ 2 * (n11.toInt - n7.toInt)) (hr17_0_0 : 0 ≤ r17.toInt) (hr17_0_1 : r17.toInt ≤ 1) (hr17_1_0 : r17.toInt = 0 → n18.toInt = n11.toInt) (hr17_1_1 : ¬ r17.toInt = 0 → n18.toInt = n11.toInt + 1 ∧ n11.toInt < (κ.1 7).toInt) (c19 : ¬ r17.toInt = 0) (kc38 : cto P37 k0 = cto P14 k0) (kc39 : cto P37 (some b16) = cto P14 (some b16)) (hr33_4_0 : n18.toInt ≤ n34.toInt) (hr33_4_1 : n34.toInt ≤ (κ.1 7).toInt) (hr33_4_2 : ((cto P37 (some b40) : Nat) : Int) ≤ 2 * (n34.toInt - n18.toInt)) (hr41_0_0 : 0 ≤ r41.toInt) (hr41_0_1 : r41.toInt ≤ 1) (hr41_1_0 : r41.toInt = 0 → n42.toInt = n34.toInt) (hr41_1_1 : ¬ r41.toInt = 0 → n42.toInt = n34.toInt + 1 ∧ n34.toInt < (κ.1 7).toInt) (c43 : r41.toInt = 0) (hr44_1 : cto P37 r44 = 0) : 0 + 0 + 0 + 0 + ((16 * (n11.toInt - n7.toInt)).toNat) + 0 + ((16 * (n34.toInt - n18.toInt)).toNat) + 0 + 0 ≤ (16 * (n42.toInt - (κ.1 3).toInt) - 8).toNat := by
  first | assumption | omega | (subst_vars; omega) | trivial
-- growm @107
theorem vX6_member_71 (κ : KS) (k0 : Option Nat) (n2 : Int32) (n4 : Int32) (r3 : Int32) (n7 : Int32) (r6 : Int32) (n11 : Int32) (P14 : PL) (b16 : Nat) (n18 : Int32) (r17 : Int32) (n34 : Int32) (P37 : PL) (b40 : Nat) (n42 : Int32) (r41 : Int32) (r44 : Option Nat) (hpre_0 : 0 ≤ (κ.1 3).toInt) (hpre_1 : (κ.1 3).toInt ≤ (κ.1 7).toInt) (hpre_2 : (κ.1 7).toInt ≤ 41) (hpre_6 : (κ.1 3).toInt < (κ.1 7).toInt) (hr1 : n2.toInt = (κ.1 3).toInt + 1) (hr3_0_0 : 0 ≤ r3.toInt) (hr3_0_1 : r3.toInt ≤ 1) (hr3_1_0 : r3.toInt = 0 → n4.toInt = n2.toInt) (hr3_1_1 : ¬ r3.toInt = 0 → n4.toInt = n2.toInt + 1 ∧ n2.toInt < (κ.1 7).toInt) (c5 : ¬ r3.toInt = 0) (hr6_0_0 : 0 ≤ r6.toInt) (hr6_0_1 : r6.toInt ≤ 1) (hr6_1_0 : r6.toInt = 0 → n7.toInt = n4.toInt) (hr6_1_1 : ¬ r6.toInt = 0 → n7.toInt = n4.toInt + 1 ∧ n4.toInt < (κ.1 7).toInt) (c8 : r6.toInt = 0) (kc15 : cto P14 k0 = cto κ.2.2.2.2 k0) (hr10_4_0 : n7.toInt ≤ n11.toInt) (hr10_4_1 : n11.toInt ≤ (κ.1 7).toInt) (hr10_4_2 : ((cto P14 (some b16) : Nat) : Int) ≤ 2 * (n11.toInt - n7.toInt)) (hr17_0_0 : 0 ≤ r17.toInt) (hr17_0_1 : r17.toInt ≤ 1) (hr17_1_0 : r17.toInt = 0 → n18.toInt = n11.toInt) (hr17_1_1 : ¬ r17.toInt = 0 → n18.toInt = n11.toInt + 1 ∧ n11.toInt < (κ.1 7).toInt) (c19 : ¬ r17.toInt = 0) (kc38 : cto P37 k0 = cto P14 k0) (kc39 : cto P37 (some b16) = cto P14 (some b16)) (hr33_4_0 : n18.toInt ≤ n34.toInt) (hr33_4_1 : n34.toInt ≤ (κ.1 7).toInt) (hr33_4_2 : ((cto P37 (some b40) : Nat) : Int) ≤ 2 * (n34.toInt - n18.toInt)) (hr41_0_0 : 0 ≤ r41.toInt) (hr41_0_1 : r41.toInt ≤ 1) (hr41_1_0 : r41.toInt = 0 → n42.toInt = n34.toInt) (hr41_1_1 : ¬ r41.toInt = 0 → n42.toInt = n34.toInt + 1 ∧ n34.toInt < (κ.1 7).toInt) (c43 : r41.toInt = 0) (hr44_1 : cto P37 r44 = 0) : (2 * (n42.toInt - (κ.1 3).toInt) - 1).toNat ≤ (2 * ((κ.1 7).toInt - (κ.1 3).toInt) - 1).toNat := by
  first | assumption | omega | (subst_vars; omega) | trivial
-- growm @107
theorem vX6_member_72 (κ : KS) (k0 : Option Nat) (n2 : Int32) (n4 : Int32) (r3 : Int32) (n7 : Int32) (r6 : Int32) (n11 : Int32) (P14 : PL) (b16 : Nat) (n18 : Int32) (r17 : Int32) (n34 : Int32) (P37 : PL) (b40 : Nat) (n42 : Int32) (r41 : Int32) (r44 : Option Nat) (hpre_0 : 0 ≤ (κ.1 3).toInt) (hpre_1 : (κ.1 3).toInt ≤ (κ.1 7).toInt) (hpre_2 : (κ.1 7).toInt ≤ 41) (hpre_6 : (κ.1 3).toInt < (κ.1 7).toInt) (hr1 : n2.toInt = (κ.1 3).toInt + 1) (hr3_0_0 : 0 ≤ r3.toInt) (hr3_0_1 : r3.toInt ≤ 1) (hr3_1_0 : r3.toInt = 0 → n4.toInt = n2.toInt) (hr3_1_1 : ¬ r3.toInt = 0 → n4.toInt = n2.toInt + 1 ∧ n2.toInt < (κ.1 7).toInt) (c5 : ¬ r3.toInt = 0) (hr6_0_0 : 0 ≤ r6.toInt) (hr6_0_1 : r6.toInt ≤ 1) (hr6_1_0 : r6.toInt = 0 → n7.toInt = n4.toInt) (hr6_1_1 : ¬ r6.toInt = 0 → n7.toInt = n4.toInt + 1 ∧ n4.toInt < (κ.1 7).toInt) (c8 : r6.toInt = 0) (kc15 : cto P14 k0 = cto κ.2.2.2.2 k0) (hr10_4_0 : n7.toInt ≤ n11.toInt) (hr10_4_1 : n11.toInt ≤ (κ.1 7).toInt) (hr10_4_2 : ((cto P14 (some b16) : Nat) : Int) ≤ 2 * (n11.toInt - n7.toInt)) (hr17_0_0 : 0 ≤ r17.toInt) (hr17_0_1 : r17.toInt ≤ 1) (hr17_1_0 : r17.toInt = 0 → n18.toInt = n11.toInt) (hr17_1_1 : ¬ r17.toInt = 0 → n18.toInt = n11.toInt + 1 ∧ n11.toInt < (κ.1 7).toInt) (c19 : ¬ r17.toInt = 0) (kc38 : cto P37 k0 = cto P14 k0) (kc39 : cto P37 (some b16) = cto P14 (some b16)) (hr33_4_0 : n18.toInt ≤ n34.toInt) (hr33_4_1 : n34.toInt ≤ (κ.1 7).toInt) (hr33_4_2 : ((cto P37 (some b40) : Nat) : Int) ≤ 2 * (n34.toInt - n18.toInt)) (hr41_0_0 : 0 ≤ r41.toInt) (hr41_0_1 : r41.toInt ≤ 1) (hr41_1_0 : r41.toInt = 0 → n42.toInt = n34.toInt) (hr41_1_1 : ¬ r41.toInt = 0 → n42.toInt = n34.toInt + 1 ∧ n34.toInt < (κ.1 7).toInt) (c43 : r41.toInt = 0) (hr44_1 : cto P37 r44 = 0) : (16 * (n42.toInt - (κ.1 3).toInt) - 8).toNat ≤ (16 * ((κ.1 7).toInt - (κ.1 3).toInt) - 8).toNat := by
  first | assumption | omega | (subst_vars; omega) | trivial
-- room @96
theorem vX6_member_73 (κ : KS) (k0 : Option Nat) (n2 : Int32) (n4 : Int32) (r3 : Int32) (n7 : Int32) (r6 : Int32) (n11 : Int32) (P14 : PL) (b16 : Nat) (n18 : Int32) (r17 : Int32) (n34 : Int32) (P37 : PL) (b40 : Nat) (n42 : Int32) (r41 : Int32) (hpre_0 : 0 ≤ (κ.1 3).toInt) (hpre_1 : (κ.1 3).toInt ≤ (κ.1 7).toInt) (hpre_2 : (κ.1 7).toInt ≤ 41) (hpre_6 : (κ.1 3).toInt < (κ.1 7).toInt) (hr1 : n2.toInt = (κ.1 3).toInt + 1) (hr3_0_0 : 0 ≤ r3.toInt) (hr3_0_1 : r3.toInt ≤ 1) (hr3_1_0 : r3.toInt = 0 → n4.toInt = n2.toInt) (hr3_1_1 : ¬ r3.toInt = 0 → n4.toInt = n2.toInt + 1 ∧ n2.toInt < (κ.1 7).toInt) (c5 : ¬ r3.toInt = 0) (hr6_0_0 : 0 ≤ r6.toInt) (hr6_0_1 : r6.toInt ≤ 1) (hr6_1_0 : r6.toInt = 0 → n7.toInt = n4.toInt) (hr6_1_1 : ¬ r6.toInt = 0 → n7.toInt = n4.toInt + 1 ∧ n4.toInt < (κ.1 7).toInt) (c8 : r6.toInt = 0) (kc15 : cto P14 k0 = cto κ.2.2.2.2 k0) (hr10_4_0 : n7.toInt ≤ n11.toInt) (hr10_4_1 : n11.toInt ≤ (κ.1 7).toInt) (hr10_4_2 : ((cto P14 (some b16) : Nat) : Int) ≤ 2 * (n11.toInt - n7.toInt)) (hr17_0_0 : 0 ≤ r17.toInt) (hr17_0_1 : r17.toInt ≤ 1) (hr17_1_0 : r17.toInt = 0 → n18.toInt = n11.toInt) (hr17_1_1 : ¬ r17.toInt = 0 → n18.toInt = n11.toInt + 1 ∧ n11.toInt < (κ.1 7).toInt) (c19 : ¬ r17.toInt = 0) (kc38 : cto P37 k0 = cto P14 k0) (kc39 : cto P37 (some b16) = cto P14 (some b16)) (hr33_4_0 : n18.toInt ≤ n34.toInt) (hr33_4_1 : n34.toInt ≤ (κ.1 7).toInt) (hr33_4_2 : ((cto P37 (some b40) : Nat) : Int) ≤ 2 * (n34.toInt - n18.toInt)) (hr41_0_0 : 0 ≤ r41.toInt) (hr41_0_1 : r41.toInt ≤ 1) (hr41_1_0 : r41.toInt = 0 → n42.toInt = n34.toInt) (hr41_1_1 : ¬ r41.toInt = 0 → n42.toInt = n34.toInt + 1 ∧ n34.toInt < (κ.1 7).toInt) (c43 : ¬ r41.toInt = 0) : 0 + 0 + 0 + 0 + ((2 * (n11.toInt - n7.toInt)).toNat) + 0 + ((2 * (n34.toInt - n18.toInt)).toNat) + 0 + 1 ≤ (2 * ((κ.1 7).toInt - (κ.1 3).toInt) - 1).toNat := by
  first | assumption | omega | (subst_vars; omega) | trivial
-- room @96
theorem vX6_member_74 (κ : KS) (k0 : Option Nat) (n2 : Int32) (n4 : Int32) (r3 : Int32) (n7 : Int32) (r6 : Int32) (n11 : Int32) (P14 : PL) (b16 : Nat) (n18 : Int32) (r17 : Int32) (n34 : Int32) (P37 : PL) (b40 : Nat) (n42 : Int32) (r41 : Int32) (hpre_0 : 0 ≤ (κ.1 3).toInt) (hpre_1 : (κ.1 3).toInt ≤ (κ.1 7).toInt) (hpre_2 : (κ.1 7).toInt ≤ 41) (hpre_6 : (κ.1 3).toInt < (κ.1 7).toInt) (hr1 : n2.toInt = (κ.1 3).toInt + 1) (hr3_0_0 : 0 ≤ r3.toInt) (hr3_0_1 : r3.toInt ≤ 1) (hr3_1_0 : r3.toInt = 0 → n4.toInt = n2.toInt) (hr3_1_1 : ¬ r3.toInt = 0 → n4.toInt = n2.toInt + 1 ∧ n2.toInt < (κ.1 7).toInt) (c5 : ¬ r3.toInt = 0) (hr6_0_0 : 0 ≤ r6.toInt) (hr6_0_1 : r6.toInt ≤ 1) (hr6_1_0 : r6.toInt = 0 → n7.toInt = n4.toInt) (hr6_1_1 : ¬ r6.toInt = 0 → n7.toInt = n4.toInt + 1 ∧ n4.toInt < (κ.1 7).toInt) (c8 : r6.toInt = 0) (kc15 : cto P14 k0 = cto κ.2.2.2.2 k0) (hr10_4_0 : n7.toInt ≤ n11.toInt) (hr10_4_1 : n11.toInt ≤ (κ.1 7).toInt) (hr10_4_2 : ((cto P14 (some b16) : Nat) : Int) ≤ 2 * (n11.toInt - n7.toInt)) (hr17_0_0 : 0 ≤ r17.toInt) (hr17_0_1 : r17.toInt ≤ 1) (hr17_1_0 : r17.toInt = 0 → n18.toInt = n11.toInt) (hr17_1_1 : ¬ r17.toInt = 0 → n18.toInt = n11.toInt + 1 ∧ n11.toInt < (κ.1 7).toInt) (c19 : ¬ r17.toInt = 0) (kc38 : cto P37 k0 = cto P14 k0) (kc39 : cto P37 (some b16) = cto P14 (some b16)) (hr33_4_0 : n18.toInt ≤ n34.toInt) (hr33_4_1 : n34.toInt ≤ (κ.1 7).toInt) (hr33_4_2 : ((cto P37 (some b40) : Nat) : Int) ≤ 2 * (n34.toInt - n18.toInt)) (hr41_0_0 : 0 ≤ r41.toInt) (hr41_0_1 : r41.toInt ≤ 1) (hr41_1_0 : r41.toInt = 0 → n42.toInt = n34.toInt) (hr41_1_1 : ¬ r41.toInt = 0 → n42.toInt = n34.toInt + 1 ∧ n34.toInt < (κ.1 7).toInt) (c43 : ¬ r41.toInt = 0) : 0 + 0 + 0 + 0 + ((16 * (n11.toInt - n7.toInt)).toNat) + 0 + ((16 * (n34.toInt - n18.toInt)).toNat) + 0 + 8 ≤ (16 * ((κ.1 7).toInt - (κ.1 3).toInt) - 8).toNat := by
  first | assumption | omega | (subst_vars; omega) | trivial
-- post @107
theorem vX6_member_75 (κ : KS) (k0 : Option Nat) (n2 : Int32) (n4 : Int32) (r3 : Int32) (n7 : Int32) (r6 : Int32) (n11 : Int32) (P14 : PL) (b16 : Nat) (n18 : Int32) (r17 : Int32) (n34 : Int32) (P37 : PL) (b40 : Nat) (n42 : Int32) (r41 : Int32) (P48 : PL) (b52 : Nat) (hpre_0 : 0 ≤ (κ.1 3).toInt) (hpre_1 : (κ.1 3).toInt ≤ (κ.1 7).toInt) (hpre_2 : (κ.1 7).toInt ≤ 41) (hpre_6 : (κ.1 3).toInt < (κ.1 7).toInt) (hr1 : n2.toInt = (κ.1 3).toInt + 1) (hr3_0_0 : 0 ≤ r3.toInt) (hr3_0_1 : r3.toInt ≤ 1) (hr3_1_0 : r3.toInt = 0 → n4.toInt = n2.toInt) (hr3_1_1 : ¬ r3.toInt = 0 → n4.toInt = n2.toInt + 1 ∧ n2.toInt < (κ.1 7).toInt) (c5 : ¬ r3.toInt = 0) (hr6_0_0 : 0 ≤ r6.toInt) (hr6_0_1 : r6.toInt ≤ 1) (hr6_1_0 : r6.toInt = 0 → n7.toInt = n4.toInt) (hr6_1_1 : ¬ r6.toInt = 0 → n7.toInt = n4.toInt + 1 ∧ n4.toInt < (κ.1 7).toInt) (c8 : r6.toInt = 0) (kc15 : cto P14 k0 = cto κ.2.2.2.2 k0) (hr10_4_0 : n7.toInt ≤ n11.toInt) (hr10_4_1 : n11.toInt ≤ (κ.1 7).toInt) (hr10_4_2 : ((cto P14 (some b16) : Nat) : Int) ≤ 2 * (n11.toInt - n7.toInt)) (hr17_0_0 : 0 ≤ r17.toInt) (hr17_0_1 : r17.toInt ≤ 1) (hr17_1_0 : r17.toInt = 0 → n18.toInt = n11.toInt) (hr17_1_1 : ¬ r17.toInt = 0 → n18.toInt = n11.toInt + 1 ∧ n11.toInt < (κ.1 7).toInt) (c19 : ¬ r17.toInt = 0) (kc38 : cto P37 k0 = cto P14 k0) (kc39 : cto P37 (some b16) = cto P14 (some b16)) (hr33_4_0 : n18.toInt ≤ n34.toInt) (hr33_4_1 : n34.toInt ≤ (κ.1 7).toInt) (hr33_4_2 : ((cto P37 (some b40) : Nat) : Int) ≤ 2 * (n34.toInt - n18.toInt)) (hr41_0_0 : 0 ≤ r41.toInt) (hr41_0_1 : r41.toInt ≤ 1) (hr41_1_0 : r41.toInt = 0 → n42.toInt = n34.toInt) (hr41_1_1 : ¬ r41.toInt = 0 → n42.toInt = n34.toInt + 1 ∧ n34.toInt < (κ.1 7).toInt) (c43 : ¬ r41.toInt = 0) (kc49 : cto P48 k0 = cto P37 k0) (kc50 : cto P48 (some b16) = cto P37 (some b16)) (kc51 : cto P48 (some b40) = cto P37 (some b40)) (hr47_3 : cto P48 (some b52) = 1 + cto P37 k0 + cto P37 (some b16) + cto P37 (some b40)) : (κ.1 3).toInt ≤ n42.toInt ∧ n42.toInt ≤ (κ.1 7).toInt ∧ (κ.1 3).toInt < n42.toInt ∧ ((cto P48 (some b52) : Nat) : Int) + 1 ≤ ((cto κ.2.2.2.2 k0 : Nat) : Int) + 2 * (n42.toInt - (κ.1 3).toInt) := by
  refine ⟨?_, ?_, ?_, ?_⟩ <;> first | assumption | omega | (subst_vars; omega) | trivial
-- post2 @107
theorem vX6_member_76 (κ : KS) (k0 : Option Nat) (k1 : Int32) (d : Nat) (n2 : Int32) (r1 : Int32) (n4 : Int32) (r3 : Int32) (n7 : Int32) (r6 : Int32) (x9 : Int32) (n11 : Int32) (n12 : Int32) (n13 : Int32) (P14 : PL) (b16 : Nat) (n18 : Int32) (r17 : Int32) (x32 : Int32) (n34 : Int32) (n35 : Int32) (n36 : Int32) (P37 : PL) (b40 : Nat) (n42 : Int32) (r41 : Int32) (P48 : PL) (b52 : Nat) (hpre_0 : 0 ≤ (κ.1 3).toInt) (hpre_1 : (κ.1 3).toInt ≤ (κ.1 7).toInt) (hpre_2 : (κ.1 7).toInt ≤ 41) (hpre_3 : 0 ≤ k1.toInt) (hpre_4 : k1.toInt ≤ 4) (hpre_5 : 4 ≤ k1.toInt + ((d : Nat) : Int)) (hpre_6 : (κ.1 3).toInt < (κ.1 7).toInt) (hr1y : r1.toInt = (cT (κ.2.2.1 12) (κ.1 7)) (κ.1 3).toInt) (hr1 : n2.toInt = (κ.1 3).toInt + 1) (hr3y_0 : r3.toInt = 0 → ¬ (cT (κ.2.2.1 10) (κ.1 7)) n2.toInt = (40 : Int32).toInt) (hr3y_1 : ¬ r3.toInt = 0 → (cT (κ.2.2.1 10) (κ.1 7)) n2.toInt = (40 : Int32).toInt) (hr3_0_0 : 0 ≤ r3.toInt) (hr3_0_1 : r3.toInt ≤ 1) (hr3_1_0 : r3.toInt = 0 → n4.toInt = n2.toInt) (hr3_1_1 : ¬ r3.toInt = 0 → n4.toInt = n2.toInt + 1 ∧ n2.toInt < (κ.1 7).toInt) (c5 : ¬ r3.toInt = 0) (hr6y_0 : r6.toInt = 0 → ¬ (cT (κ.2.2.1 10) (κ.1 7)) n4.toInt = (41 : Int32).toInt) (hr6y_1 : ¬ r6.toInt = 0 → (cT (κ.2.2.1 10) (κ.1 7)) n4.toInt = (41 : Int32).toInt) (hr6_0_0 : 0 ≤ r6.toInt) (hr6_0_1 : r6.toInt ≤ 1) (hr6_1_0 : r6.toInt = 0 → n7.toInt = n4.toInt) (hr6_1_1 : ¬ r6.toInt = 0 → n7.toInt = n4.toInt + 1 ∧ n4.toInt < (κ.1 7).toInt) (c8 : r6.toInt = 0) (ex9 : x9 = k1 + (1 : Int32)) (tx9 : x9.toInt = k1.toInt + 1) (kc15 : cto P14 k0 = cto κ.2.2.2.2 k0) (hr10y : LG (cT (κ.2.2.1 10) (κ.1 7)) (cT (κ.2.2.1 12) (κ.1 7)) (cT (κ.2.2.1 11) (κ.1 7)) 0 0 false x9.toInt n7.toInt P14 (some b16) n11.toInt n12.toInt n13.toInt) (hr10_4_0 : n7.toInt ≤ n11.toInt) (hr10_4_1 : n11.toInt ≤ (κ.1 7).toInt) (hr10_4_2 : ((cto P14 (some b16) : Nat) : Int) ≤ 2 * (n11.toInt - n7.toInt)) (hr17y_0 : r17.toInt = 0 → ¬ (cT (κ.2.2.1 10) (κ.1 7)) n11.toInt = (44 : Int32).toInt) (hr17y_1 : ¬ r17.toInt = 0 → (cT (κ.2.2.1 10) (κ.1 7)) n11.toInt = (44 : Int32).toInt) (hr17_0_0 : 0 ≤ r17.toInt) (hr17_0_1 : r17.toInt ≤ 1) (hr17_1_0 : r17.toInt = 0 → n18.toInt = n11.toInt) (hr17_1_1 : ¬ r17.toInt = 0 → n18.toInt = n11.toInt + 1 ∧ n11.toInt < (κ.1 7).toInt) (c19 : ¬ r17.toInt = 0) (ex32 : x32 = k1 + (1 : Int32)) (tx32 : x32.toInt = k1.toInt + 1) (kc38 : cto P37 k0 = cto P14 k0) (kc39 : cto P37 (some b16) = cto P14 (some b16)) (hr33y : LG (cT (κ.2.2.1 10) (κ.1 7)) (cT (κ.2.2.1 12) (κ.1 7)) (cT (κ.2.2.1 11) (κ.1 7)) 0 0 false x32.toInt n18.toInt P37 (some b40) n34.toInt n35.toInt n36.toInt) (hr33_4_0 : n18.toInt ≤ n34.toInt) (hr33_4_1 : n34.toInt ≤ (κ.1 7).toInt) (hr33_4_2 : ((cto P37 (some b40) : Nat) : Int) ≤ 2 * (n34.toInt - n18.toInt)) (hr41y_0 : r41.toInt = 0 → ¬ (cT (κ.2.2.1 10) (κ.1 7)) n34.toInt = (41 : Int32).toInt) (hr41y_1 : ¬ r41.toInt = 0 → (cT (κ.2.2.1 10) (κ.1 7)) n34.toInt = (41 : Int32).toInt) (hr41_0_0 : 0 ≤ r41.toInt) (hr41_0_1 : r41.toInt ≤ 1) (hr41_1_0 : r41.toInt = 0 → n42.toInt = n34.toInt) (hr41_1_1 : ¬ r41.toInt = 0 → n42.toInt = n34.toInt + 1 ∧ n34.toInt < (κ.1 7).toInt) (c43 : ¬ r41.toInt = 0) (kc49 : cto P48 k0 = cto P37 k0) (kc50 : cto P48 (some b16) = cto P37 (some b16)) (kc51 : cto P48 (some b40) = cto P37 (some b40)) (hr47y_0 : oI P48 2 b52 = (5 : Int32)) (hr47y_1 : oI P48 5 b52 = 0) (hr47_3 : cto P48 (some b52) = 1 + cto P37 k0 + cto P37 (some b16) + cto P37 (some b40)) : ∀ s9 : Bool, LG (cT (κ.2.2.1 10) (κ.1 7)) (cT (κ.2.2.1 12) (κ.1 7)) (cT (κ.2.2.1 11) (κ.1 7)) 10 0 s9 k1.toInt (κ.1 3).toInt P48 (some b52) n42.toInt n35.toInt n36.toInt := by
  have q1 : (1 : Int32).toInt = 1 := by decide +kernel
  have q5 : (5 : Int32).toInt = 5 := by decide +kernel
  have q40 : (40 : Int32).toInt = 40 := by decide +kernel
  have q41 : (41 : Int32).toInt = 41 := by decide +kernel
  have q44 : (44 : Int32).toInt = 44 := by decide +kernel
  intro s9
  have tkhr3y_1 := hr3y_1 c5
  have tkhr6y_0 := hr6y_0 c8
  obtain rfl : n7 = n4 := Int32.toInt_inj.mp (hr6_1_0 c8)
  have tkhr17y_1 := hr17y_1 c19
  have tkhr41y_1 := hr41y_1 c43
  exact gl_m2 (a1 := n2.toInt) (by omega) (by omega) (by omega) (by omega) (by omega) (by omega) hr10y (by omega) (by omega) hr33y (by omega) (by omega) (CBS_op hr47y_0 (by omega) (by omega))
-- grow @107
theorem vX6_member_77 (κ : KS) (k0 : Option Nat) (n2 : Int32) (n4 : Int32) (r3 : Int32) (n7 : Int32) (r6 : Int32) (n11 : Int32) (P14 : PL) (b16 : Nat) (n18 : Int32) (r17 : Int32) (n34 : Int32) (P37 : PL) (b40 : Nat) (n42 : Int32) (r41 : Int32) (P48 : PL) (b52 : Nat) (hpre_0 : 0 ≤ (κ.1 3).toInt) (hpre_1 : (κ.1 3).toInt ≤ (κ.1 7).toInt) (hpre_2 : (κ.1 7).toInt ≤ 41) (hpre_6 : (κ.1 3).toInt < (κ.1 7).toInt) (hr1 : n2.toInt = (κ.1 3).toInt + 1) (hr3_0_0 : 0 ≤ r3.toInt) (hr3_0_1 : r3.toInt ≤ 1) (hr3_1_0 : r3.toInt = 0 → n4.toInt = n2.toInt) (hr3_1_1 : ¬ r3.toInt = 0 → n4.toInt = n2.toInt + 1 ∧ n2.toInt < (κ.1 7).toInt) (c5 : ¬ r3.toInt = 0) (hr6_0_0 : 0 ≤ r6.toInt) (hr6_0_1 : r6.toInt ≤ 1) (hr6_1_0 : r6.toInt = 0 → n7.toInt = n4.toInt) (hr6_1_1 : ¬ r6.toInt = 0 → n7.toInt = n4.toInt + 1 ∧ n4.toInt < (κ.1 7).toInt) (c8 : r6.toInt = 0) (kc15 : cto P14 k0 = cto κ.2.2.2.2 k0) (hr10_4_0 : n7.toInt ≤ n11.toInt) (hr10_4_1 : n11.toInt ≤ (κ.1 7).toInt) (hr10_4_2 : ((cto P14 (some b16) : Nat) : Int) ≤ 2 * (n11.toInt - n7.toInt)) (hr17_0_0 : 0 ≤ r17.toInt) (hr17_0_1 : r17.toInt ≤ 1) (hr17_1_0 : r17.toInt = 0 → n18.toInt = n11.toInt) (hr17_1_1 : ¬ r17.toInt = 0 → n18.toInt = n11.toInt + 1 ∧ n11.toInt < (κ.1 7).toInt) (c19 : ¬ r17.toInt = 0) (kc38 : cto P37 k0 = cto P14 k0) (kc39 : cto P37 (some b16) = cto P14 (some b16)) (hr33_4_0 : n18.toInt ≤ n34.toInt) (hr33_4_1 : n34.toInt ≤ (κ.1 7).toInt) (hr33_4_2 : ((cto P37 (some b40) : Nat) : Int) ≤ 2 * (n34.toInt - n18.toInt)) (hr41_0_0 : 0 ≤ r41.toInt) (hr41_0_1 : r41.toInt ≤ 1) (hr41_1_0 : r41.toInt = 0 → n42.toInt = n34.toInt) (hr41_1_1 : ¬ r41.toInt = 0 → n42.toInt = n34.toInt + 1 ∧ n34.toInt < (κ.1 7).toInt) (c43 : ¬ r41.toInt = 0) (kc49 : cto P48 k0 = cto P37 k0) (kc50 : cto P48 (some b16) = cto P37 (some b16)) (kc51 : cto P48 (some b40) = cto P37 (some b40)) (hr47_3 : cto P48 (some b52) = 1 + cto P37 k0 + cto P37 (some b16) + cto P37 (some b40)) : 0 + 0 + 0 + 0 + ((2 * (n11.toInt - n7.toInt)).toNat) + 0 + ((2 * (n34.toInt - n18.toInt)).toNat) + 0 + 1 ≤ (2 * (n42.toInt - (κ.1 3).toInt) - 1).toNat := by
  first | assumption | omega | (subst_vars; omega) | trivial
-- grow @107
theorem vX6_member_78 (κ : KS) (k0 : Option Nat) (n2 : Int32) (n4 : Int32) (r3 : Int32) (n7 : Int32) (r6 : Int32) (n11 : Int32) (P14 : PL) (b16 : Nat) (n18 : Int32) (r17 : Int32) (n34 : Int32) (P37 : PL) (b40 : Nat) (n42 : Int32) (r41 : Int32) (P48 : PL) (b52 : Nat) (hpre_0 : 0 ≤ (κ.1 3).toInt) (hpre_1 : (κ.1 3).toInt ≤ (κ.1 7).toInt) (hpre_2 : (κ.1 7).toInt ≤ 41) (hpre_6 : (κ.1 3).toInt < (κ.1 7).toInt) (hr1 : n2.toInt = (κ.1 3).toInt + 1) (hr3_0_0 : 0 ≤ r3.toInt) (hr3_0_1 : r3.toInt ≤ 1) (hr3_1_0 : r3.toInt = 0 → n4.toInt = n2.toInt) (hr3_1_1 : ¬ r3.toInt = 0 → n4.toInt = n2.toInt + 1 ∧ n2.toInt < (κ.1 7).toInt) (c5 : ¬ r3.toInt = 0) (hr6_0_0 : 0 ≤ r6.toInt) (hr6_0_1 : r6.toInt ≤ 1) (hr6_1_0 : r6.toInt = 0 → n7.toInt = n4.toInt) (hr6_1_1 : ¬ r6.toInt = 0 → n7.toInt = n4.toInt + 1 ∧ n4.toInt < (κ.1 7).toInt) (c8 : r6.toInt = 0) (kc15 : cto P14 k0 = cto κ.2.2.2.2 k0) (hr10_4_0 : n7.toInt ≤ n11.toInt) (hr10_4_1 : n11.toInt ≤ (κ.1 7).toInt) (hr10_4_2 : ((cto P14 (some b16) : Nat) : Int) ≤ 2 * (n11.toInt - n7.toInt)) (hr17_0_0 : 0 ≤ r17.toInt) (hr17_0_1 : r17.toInt ≤ 1) (hr17_1_0 : r17.toInt = 0 → n18.toInt = n11.toInt) (hr17_1_1 : ¬ r17.toInt = 0 → n18.toInt = n11.toInt + 1 ∧ n11.toInt < (κ.1 7).toInt) (c19 : ¬ r17.toInt = 0) (kc38 : cto P37 k0 = cto P14 k0) (kc39 : cto P37 (some b16) = cto P14 (some b16)) (hr33_4_0 : n18.toInt ≤ n34.toInt) (hr33_4_1 : n34.toInt ≤ (κ.1 7).toInt) (hr33_4_2 : ((cto P37 (some b40) : Nat) : Int) ≤ 2 * (n34.toInt - n18.toInt)) (hr41_0_0 : 0 ≤ r41.toInt) (hr41_0_1 : r41.toInt ≤ 1) (hr41_1_0 : r41.toInt = 0 → n42.toInt = n34.toInt) (hr41_1_1 : ¬ r41.toInt = 0 → n42.toInt = n34.toInt + 1 ∧ n34.toInt < (κ.1 7).toInt) (c43 : ¬ r41.toInt = 0) (kc49 : cto P48 k0 = cto P37 k0) (kc50 : cto P48 (some b16) = cto P37 (some b16)) (kc51 : cto P48 (some b40) = cto P37 (some b40)) (hr47_3 : cto P48 (some b52) = 1 + cto P37 k0 + cto P37 (some b16) + cto P37 (some b40)) : 0 + 0 + 0 + 0 + ((16 * (n11.toInt - n7.toInt)).toNat) + 0 + ((16 * (n34.toInt - n18.toInt)).toNat) + 0 + 8 ≤ (16 * (n42.toInt - (κ.1 3).toInt) - 8).toNat := by
  first | assumption | omega | (subst_vars; omega) | trivial
-- growm @107
theorem vX6_member_79 (κ : KS) (k0 : Option Nat) (n2 : Int32) (n4 : Int32) (r3 : Int32) (n7 : Int32) (r6 : Int32) (n11 : Int32) (P14 : PL) (b16 : Nat) (n18 : Int32) (r17 : Int32) (n34 : Int32) (P37 : PL) (b40 : Nat) (n42 : Int32) (r41 : Int32) (P48 : PL) (b52 : Nat) (hpre_0 : 0 ≤ (κ.1 3).toInt) (hpre_1 : (κ.1 3).toInt ≤ (κ.1 7).toInt) (hpre_2 : (κ.1 7).toInt ≤ 41) (hpre_6 : (κ.1 3).toInt < (κ.1 7).toInt) (hr1 : n2.toInt = (κ.1 3).toInt + 1) (hr3_0_0 : 0 ≤ r3.toInt) (hr3_0_1 : r3.toInt ≤ 1) (hr3_1_0 : r3.toInt = 0 → n4.toInt = n2.toInt) (hr3_1_1 : ¬ r3.toInt = 0 → n4.toInt = n2.toInt + 1 ∧ n2.toInt < (κ.1 7).toInt) (c5 : ¬ r3.toInt = 0) (hr6_0_0 : 0 ≤ r6.toInt) (hr6_0_1 : r6.toInt ≤ 1) (hr6_1_0 : r6.toInt = 0 → n7.toInt = n4.toInt) (hr6_1_1 : ¬ r6.toInt = 0 → n7.toInt = n4.toInt + 1 ∧ n4.toInt < (κ.1 7).toInt) (c8 : r6.toInt = 0) (kc15 : cto P14 k0 = cto κ.2.2.2.2 k0) (hr10_4_0 : n7.toInt ≤ n11.toInt) (hr10_4_1 : n11.toInt ≤ (κ.1 7).toInt) (hr10_4_2 : ((cto P14 (some b16) : Nat) : Int) ≤ 2 * (n11.toInt - n7.toInt)) (hr17_0_0 : 0 ≤ r17.toInt) (hr17_0_1 : r17.toInt ≤ 1) (hr17_1_0 : r17.toInt = 0 → n18.toInt = n11.toInt) (hr17_1_1 : ¬ r17.toInt = 0 → n18.toInt = n11.toInt + 1 ∧ n11.toInt < (κ.1 7).toInt) (c19 : ¬ r17.toInt = 0) (kc38 : cto P37 k0 = cto P14 k0) (kc39 : cto P37 (some b16) = cto P14 (some b16)) (hr33_4_0 : n18.toInt ≤ n34.toInt) (hr33_4_1 : n34.toInt ≤ (κ.1 7).toInt) (hr33_4_2 : ((cto P37 (some b40) : Nat) : Int) ≤ 2 * (n34.toInt - n18.toInt)) (hr41_0_0 : 0 ≤ r41.toInt) (hr41_0_1 : r41.toInt ≤ 1) (hr41_1_0 : r41.toInt = 0 → n42.toInt = n34.toInt) (hr41_1_1 : ¬ r41.toInt = 0 → n42.toInt = n34.toInt + 1 ∧ n34.toInt < (κ.1 7).toInt) (c43 : ¬ r41.toInt = 0) (kc49 : cto P48 k0 = cto P37 k0) (kc50 : cto P48 (some b16) = cto P37 (some b16)) (kc51 : cto P48 (some b40) = cto P37 (some b40)) (hr47_3 : cto P48 (some b52) = 1 + cto P37 k0 + cto P37 (some b16) + cto P37 (some b40)) : (2 * (n42.toInt - (κ.1 3).toInt) - 1).toNat ≤ (2 * ((κ.1 7).toInt - (κ.1 3).toInt) - 1).toNat := by
  first | assumption | omega | (subst_vars; omega) | trivial
-- growm @107
theorem vX6_member_80 (κ : KS) (k0 : Option Nat) (n2 : Int32) (n4 : Int32) (r3 : Int32) (n7 : Int32) (r6 : Int32) (n11 : Int32) (P14 : PL) (b16 : Nat) (n18 : Int32) (r17 : Int32) (n34 : Int32) (P37 : PL) (b40 : Nat) (n42 : Int32) (r41 : Int32) (P48 : PL) (b52 : Nat) (hpre_0 : 0 ≤ (κ.1 3).toInt) (hpre_1 : (κ.1 3).toInt ≤ (κ.1 7).toInt) (hpre_2 : (κ.1 7).toInt ≤ 41) (hpre_6 : (κ.1 3).toInt < (κ.1 7).toInt) (hr1 : n2.toInt = (κ.1 3).toInt + 1) (hr3_0_0 : 0 ≤ r3.toInt) (hr3_0_1 : r3.toInt ≤ 1) (hr3_1_0 : r3.toInt = 0 → n4.toInt = n2.toInt) (hr3_1_1 : ¬ r3.toInt = 0 → n4.toInt = n2.toInt + 1 ∧ n2.toInt < (κ.1 7).toInt) (c5 : ¬ r3.toInt = 0) (hr6_0_0 : 0 ≤ r6.toInt) (hr6_0_1 : r6.toInt ≤ 1) (hr6_1_0 : r6.toInt = 0 → n7.toInt = n4.toInt) (hr6_1_1 : ¬ r6.toInt = 0 → n7.toInt = n4.toInt + 1 ∧ n4.toInt < (κ.1 7).toInt) (c8 : r6.toInt = 0) (kc15 : cto P14 k0 = cto κ.2.2.2.2 k0) (hr10_4_0 : n7.toInt ≤ n11.toInt) (hr10_4_1 : n11.toInt ≤ (κ.1 7).toInt) (hr10_4_2 : ((cto P14 (some b16) : Nat) : Int) ≤ 2 * (n11.toInt - n7.toInt)) (hr17_0_0 : 0 ≤ r17.toInt) (hr17_0_1 : r17.toInt ≤ 1) (hr17_1_0 : r17.toInt = 0 → n18.toInt = n11.toInt) (hr17_1_1 : ¬ r17.toInt = 0 → n18.toInt = n11.toInt + 1 ∧ n11.toInt < (κ.1 7).toInt) (c19 : ¬ r17.toInt = 0) (kc38 : cto P37 k0 = cto P14 k0) (kc39 : cto P37 (some b16) = cto P14 (some b16)) (hr33_4_0 : n18.toInt ≤ n34.toInt) (hr33_4_1 : n34.toInt ≤ (κ.1 7).toInt) (hr33_4_2 : ((cto P37 (some b40) : Nat) : Int) ≤ 2 * (n34.toInt - n18.toInt)) (hr41_0_0 : 0 ≤ r41.toInt) (hr41_0_1 : r41.toInt ≤ 1) (hr41_1_0 : r41.toInt = 0 → n42.toInt = n34.toInt) (hr41_1_1 : ¬ r41.toInt = 0 → n42.toInt = n34.toInt + 1 ∧ n34.toInt < (κ.1 7).toInt) (c43 : ¬ r41.toInt = 0) (kc49 : cto P48 k0 = cto P37 k0) (kc50 : cto P48 (some b16) = cto P37 (some b16)) (kc51 : cto P48 (some b40) = cto P37 (some b40)) (hr47_3 : cto P48 (some b52) = 1 + cto P37 k0 + cto P37 (some b16) + cto P37 (some b40)) : (16 * (n42.toInt - (κ.1 3).toInt) - 8).toNat ≤ (16 * ((κ.1 7).toInt - (κ.1 3).toInt) - 8).toNat := by
  first | assumption | omega | (subst_vars; omega) | trivial
-- room @33
theorem vX6_member_81 (κ : KS) (n2 : Int32) (n4 : Int32) (r3 : Int32) (n7 : Int32) (r6 : Int32) (hpre_0 : 0 ≤ (κ.1 3).toInt) (hpre_1 : (κ.1 3).toInt ≤ (κ.1 7).toInt) (hpre_2 : (κ.1 7).toInt ≤ 41) (hpre_6 : (κ.1 3).toInt < (κ.1 7).toInt) (hr1 : n2.toInt = (κ.1 3).toInt + 1) (hr3_0_0 : 0 ≤ r3.toInt) (hr3_0_1 : r3.toInt ≤ 1) (hr3_1_0 : r3.toInt = 0 → n4.toInt = n2.toInt) (hr3_1_1 : ¬ r3.toInt = 0 → n4.toInt = n2.toInt + 1 ∧ n2.toInt < (κ.1 7).toInt) (c5 : ¬ r3.toInt = 0) (hr6_0_0 : 0 ≤ r6.toInt) (hr6_0_1 : r6.toInt ≤ 1) (hr6_1_0 : r6.toInt = 0 → n7.toInt = n4.toInt) (hr6_1_1 : ¬ r6.toInt = 0 → n7.toInt = n4.toInt + 1 ∧ n4.toInt < (κ.1 7).toInt) (c8 : ¬ r6.toInt = 0) : 0 + 0 + 0 + 0 + 1 ≤ (2 * ((κ.1 7).toInt - (κ.1 3).toInt) - 1).toNat := by
  first | assumption | omega | (subst_vars; omega) | trivial
-- room @33
theorem vX6_member_82 (κ : KS) (n2 : Int32) (n4 : Int32) (r3 : Int32) (n7 : Int32) (r6 : Int32) (hpre_0 : 0 ≤ (κ.1 3).toInt) (hpre_1 : (κ.1 3).toInt ≤ (κ.1 7).toInt) (hpre_2 : (κ.1 7).toInt ≤ 41) (hpre_6 : (κ.1 3).toInt < (κ.1 7).toInt) (hr1 : n2.toInt = (κ.1 3).toInt + 1) (hr3_0_0 : 0 ≤ r3.toInt) (hr3_0_1 : r3.toInt ≤ 1) (hr3_1_0 : r3.toInt = 0 → n4.toInt = n2.toInt) (hr3_1_1 : ¬ r3.toInt = 0 → n4.toInt = n2.toInt + 1 ∧ n2.toInt < (κ.1 7).toInt) (c5 : ¬ r3.toInt = 0) (hr6_0_0 : 0 ≤ r6.toInt) (hr6_0_1 : r6.toInt ≤ 1) (hr6_1_0 : r6.toInt = 0 → n7.toInt = n4.toInt) (hr6_1_1 : ¬ r6.toInt = 0 → n7.toInt = n4.toInt + 1 ∧ n4.toInt < (κ.1 7).toInt) (c8 : ¬ r6.toInt = 0) : 0 + 0 + 0 + 0 + 8 ≤ (16 * ((κ.1 7).toInt - (κ.1 3).toInt) - 8).toNat := by
  first | assumption | omega | (subst_vars; omega) | trivial
-- post @36
theorem vX6_member_83 (κ : KS) (k0 : Option Nat) (n2 : Int32) (n4 : Int32) (r3 : Int32) (n7 : Int32) (r6 : Int32) (P55 : PL) (b57 : Nat) (hpre_0 : 0 ≤ (κ.1 3).toInt) (hpre_1 : (κ.1 3).toInt ≤ (κ.1 7).toInt) (hpre_2 : (κ.1 7).toInt ≤ 41) (hpre_6 : (κ.1 3).toInt < (κ.1 7).toInt) (hr1 : n2.toInt = (κ.1 3).toInt + 1) (hr3_0_0 : 0 ≤ r3.toInt) (hr3_0_1 : r3.toInt ≤ 1) (hr3_1_0 : r3.toInt = 0 → n4.toInt = n2.toInt) (hr3_1_1 : ¬ r3.toInt = 0 → n4.toInt = n2.toInt + 1 ∧ n2.toInt < (κ.1 7).toInt) (c5 : ¬ r3.toInt = 0) (hr6_0_0 : 0 ≤ r6.toInt) (hr6_0_1 : r6.toInt ≤ 1) (hr6_1_0 : r6.toInt = 0 → n7.toInt = n4.toInt) (hr6_1_1 : ¬ r6.toInt = 0 → n7.toInt = n4.toInt + 1 ∧ n4.toInt < (κ.1 7).toInt) (c8 : ¬ r6.toInt = 0) (kc56 : cto P55 k0 = cto κ.2.2.2.2 k0) (hr54_3 : cto P55 (some b57) = 1 + cto κ.2.2.2.2 k0 + cto κ.2.2.2.2 none + cto κ.2.2.2.2 none) : (κ.1 3).toInt ≤ n7.toInt ∧ n7.toInt ≤ (κ.1 7).toInt ∧ (κ.1 3).toInt < n7.toInt ∧ ((cto P55 (some b57) : Nat) : Int) + 1 ≤ ((cto κ.2.2.2.2 k0 : Nat) : Int) + 2 * (n7.toInt - (κ.1 3).toInt) := by
  have zc0 : cto κ.2.2.2.2 none = 0 := rfl
  refine ⟨?_, ?_, ?_, ?_⟩ <;> first | assumption | omega | (subst_vars; omega) | trivial
-- post2 @36
theorem vX6_member_84 (κ : KS) (k0 : Option Nat) (k1 : Int32) (d : Nat) (n2 : Int32) (r1 : Int32) (n4 : Int32) (r3 : Int32) (n7 : Int32) (r6 : Int32) (P55 : PL) (b57 : Nat) (hpre_0 : 0 ≤ (κ.1 3).toInt) (hpre_1 : (κ.1 3).toInt ≤ (κ.1 7).toInt) (hpre_2 : (κ.1 7).toInt ≤ 41) (hpre_3 : 0 ≤ k1.toInt) (hpre_4 : k1.toInt ≤ 4) (hpre_5 : 4 ≤ k1.toInt + ((d : Nat) : Int)) (hpre_6 : (κ.1 3).toInt < (κ.1 7).toInt) (hr1y : r1.toInt = (cT (κ.2.2.1 12) (κ.1 7)) (κ.1 3).toInt) (hr1 : n2.toInt = (κ.1 3).toInt + 1) (hr3y_0 : r3.toInt = 0 → ¬ (cT (κ.2.2.1 10) (κ.1 7)) n2.toInt = (40 : Int32).toInt) (hr3y_1 : ¬ r3.toInt = 0 → (cT (κ.2.2.1 10) (κ.1 7)) n2.toInt = (40 : Int32).toInt) (hr3_0_0 : 0 ≤ r3.toInt) (hr3_0_1 : r3.toInt ≤ 1) (hr3_1_0 : r3.toInt = 0 → n4.toInt = n2.toInt) (hr3_1_1 : ¬ r3.toInt = 0 → n4.toInt = n2.toInt + 1 ∧ n2.toInt < (κ.1 7).toInt) (c5 : ¬ r3.toInt = 0) (hr6y_0 : r6.toInt = 0 → ¬ (cT (κ.2.2.1 10) (κ.1 7)) n4.toInt = (41 : Int32).toInt) (hr6y_1 : ¬ r6.toInt = 0 → (cT (κ.2.2.1 10) (κ.1 7)) n4.toInt = (41 : Int32).toInt) (hr6_0_0 : 0 ≤ r6.toInt) (hr6_0_1 : r6.toInt ≤ 1) (hr6_1_0 : r6.toInt = 0 → n7.toInt = n4.toInt) (hr6_1_1 : ¬ r6.toInt = 0 → n7.toInt = n4.toInt + 1 ∧ n4.toInt < (κ.1 7).toInt) (c8 : ¬ r6.toInt = 0) (kc56 : cto P55 k0 = cto κ.2.2.2.2 k0) (hr54y_0 : oI P55 2 b57 = (5 : Int32)) (hr54y_1 : oI P55 5 b57 = 0) (hr54_3 : cto P55 (some b57) = 1 + cto κ.2.2.2.2 k0 + cto κ.2.2.2.2 none + cto κ.2.2.2.2 none) : ∀ s9 : Bool, LG (cT (κ.2.2.1 10) (κ.1 7)) (cT (κ.2.2.1 12) (κ.1 7)) (cT (κ.2.2.1 11) (κ.1 7)) 10 0 s9 k1.toInt (κ.1 3).toInt P55 (some b57) n7.toInt (κ.1 4).toInt (κ.1 5).toInt := by
  have q5 : (5 : Int32).toInt = 5 := by decide +kernel
  have q40 : (40 : Int32).toInt = 40 := by decide +kernel
  have q41 : (41 : Int32).toInt = 41 := by decide +kernel
  have zc0 : cto κ.2.2.2.2 none = 0 := rfl
  intro s9
  have tkhr3y_1 := hr3y_1 c5
  have tkhr6y_1 := hr6y_1 c8
  first
  | exact gl_mp (by omega) (by omega) (CBS_st hr54y_0 hr54y_1 (by omega))
  | exact gl_m0 (a1 := n2.toInt) (a2 := n4.toInt) (by omega) (by omega) (by omega) (by omega) (by omega) (CBS_op hr54y_0 (by omega) (by omega))
-- grow @36
theorem vX6_member_85 (κ : KS) (n2 : Int32) (n4 : Int32) (r3 : Int32) (n7 : Int32) (r6 : Int32) (hpre_0 : 0 ≤ (κ.1 3).toInt) (hpre_1 : (κ.1 3).toInt ≤ (κ.1 7).toInt) (hpre_2 : (κ.1 7).toInt ≤ 41) (hpre_6 : (κ.1 3).toInt < (κ.1 7).toInt) (hr1 : n2.toInt = (κ.1 3).toInt + 1) (hr3_0_0 : 0 ≤ r3.toInt) (hr3_0_1 : r3.toInt ≤ 1) (hr3_1_0 : r3.toInt = 0 → n4.toInt = n2.toInt) (hr3_1_1 : ¬ r3.toInt = 0 → n4.toInt = n2.toInt + 1 ∧ n2.toInt < (κ.1 7).toInt) (c5 : ¬ r3.toInt = 0) (hr6_0_0 : 0 ≤ r6.toInt) (hr6_0_1 : r6.toInt ≤ 1) (hr6_1_0 : r6.toInt = 0 → n7.toInt = n4.toInt) (hr6_1_1 : ¬ r6.toInt = 0 → n7.toInt = n4.toInt + 1 ∧ n4.toInt < (κ.1 7).toInt) (c8 : ¬ r6.toInt = 0) : 0 + 0 + 0 + 0 + 1 ≤ (2 * (n7.toInt - (κ.1 3).toInt) - 1).toNat := by
  first | assumption | omega | (subst_vars; omega) | trivial
-- grow @36
theorem vX6_member_86 (κ : KS) (n2 : Int32) (n4 : Int32) (r3 : Int32) (n7 : Int32) (r6 : Int32) (hpre_0 : 0 ≤ (κ.1 3).toInt) (hpre_1 : (κ.1 3).toInt ≤ (κ.1 7).toInt) (hpre_2 : (κ.1 7).toInt ≤ 41) (hpre_6 : (κ.1 3).toInt < (κ.1 7).toInt) (hr1 : n2.toInt = (κ.1 3).toInt + 1) (hr3_0_0 : 0 ≤ r3.toInt) (hr3_0_1 : r3.toInt ≤ 1) (hr3_1_0 : r3.toInt = 0 → n4.toInt = n2.toInt) (hr3_1_1 : ¬ r3.toInt = 0 → n4.toInt = n2.toInt + 1 ∧ n2.toInt < (κ.1 7).toInt) (c5 : ¬ r3.toInt = 0) (hr6_0_0 : 0 ≤ r6.toInt) (hr6_0_1 : r6.toInt ≤ 1) (hr6_1_0 : r6.toInt = 0 → n7.toInt = n4.toInt) (hr6_1_1 : ¬ r6.toInt = 0 → n7.toInt = n4.toInt + 1 ∧ n4.toInt < (κ.1 7).toInt) (c8 : ¬ r6.toInt = 0) : 0 + 0 + 0 + 0 + 8 ≤ (16 * (n7.toInt - (κ.1 3).toInt) - 8).toNat := by
  first | assumption | omega | (subst_vars; omega) | trivial
-- growm @36
theorem vX6_member_87 (κ : KS) (n2 : Int32) (n4 : Int32) (r3 : Int32) (n7 : Int32) (r6 : Int32) (hpre_0 : 0 ≤ (κ.1 3).toInt) (hpre_1 : (κ.1 3).toInt ≤ (κ.1 7).toInt) (hpre_2 : (κ.1 7).toInt ≤ 41) (hpre_6 : (κ.1 3).toInt < (κ.1 7).toInt) (hr1 : n2.toInt = (κ.1 3).toInt + 1) (hr3_0_0 : 0 ≤ r3.toInt) (hr3_0_1 : r3.toInt ≤ 1) (hr3_1_0 : r3.toInt = 0 → n4.toInt = n2.toInt) (hr3_1_1 : ¬ r3.toInt = 0 → n4.toInt = n2.toInt + 1 ∧ n2.toInt < (κ.1 7).toInt) (c5 : ¬ r3.toInt = 0) (hr6_0_0 : 0 ≤ r6.toInt) (hr6_0_1 : r6.toInt ≤ 1) (hr6_1_0 : r6.toInt = 0 → n7.toInt = n4.toInt) (hr6_1_1 : ¬ r6.toInt = 0 → n7.toInt = n4.toInt + 1 ∧ n4.toInt < (κ.1 7).toInt) (c8 : ¬ r6.toInt = 0) : (2 * (n7.toInt - (κ.1 3).toInt) - 1).toNat ≤ (2 * ((κ.1 7).toInt - (κ.1 3).toInt) - 1).toNat := by
  first | assumption | omega | (subst_vars; omega) | trivial
-- growm @36
theorem vX6_member_88 (κ : KS) (n2 : Int32) (n4 : Int32) (r3 : Int32) (n7 : Int32) (r6 : Int32) (hpre_0 : 0 ≤ (κ.1 3).toInt) (hpre_1 : (κ.1 3).toInt ≤ (κ.1 7).toInt) (hpre_2 : (κ.1 7).toInt ≤ 41) (hpre_6 : (κ.1 3).toInt < (κ.1 7).toInt) (hr1 : n2.toInt = (κ.1 3).toInt + 1) (hr3_0_0 : 0 ≤ r3.toInt) (hr3_0_1 : r3.toInt ≤ 1) (hr3_1_0 : r3.toInt = 0 → n4.toInt = n2.toInt) (hr3_1_1 : ¬ r3.toInt = 0 → n4.toInt = n2.toInt + 1 ∧ n2.toInt < (κ.1 7).toInt) (c5 : ¬ r3.toInt = 0) (hr6_0_0 : 0 ≤ r6.toInt) (hr6_0_1 : r6.toInt ≤ 1) (hr6_1_0 : r6.toInt = 0 → n7.toInt = n4.toInt) (hr6_1_1 : ¬ r6.toInt = 0 → n7.toInt = n4.toInt + 1 ∧ n4.toInt < (κ.1 7).toInt) (c8 : ¬ r6.toInt = 0) : (16 * (n7.toInt - (κ.1 3).toInt) - 8).toNat ≤ (16 * ((κ.1 7).toInt - (κ.1 3).toInt) - 8).toNat := by
  first | assumption | omega | (subst_vars; omega) | trivial
-- locals @16
theorem vX6_member_89 (d : Nat)  : 8 + (2 + 11) + 46 ≤ 500 * d + 470 := by
  first | assumption | omega | (subst_vars; omega) | trivial
-- room @16
theorem vX6_member_90 (κ : KS) (n2 : Int32) (n4 : Int32) (r3 : Int32) (hpre_0 : 0 ≤ (κ.1 3).toInt) (hpre_1 : (κ.1 3).toInt ≤ (κ.1 7).toInt) (hpre_2 : (κ.1 7).toInt ≤ 41) (hpre_6 : (κ.1 3).toInt < (κ.1 7).toInt) (hr1 : n2.toInt = (κ.1 3).toInt + 1) (hr3_0_0 : 0 ≤ r3.toInt) (hr3_0_1 : r3.toInt ≤ 1) (hr3_1_0 : r3.toInt = 0 → n4.toInt = n2.toInt) (hr3_1_1 : ¬ r3.toInt = 0 → n4.toInt = n2.toInt + 1 ∧ n2.toInt < (κ.1 7).toInt) (c5 : r3.toInt = 0) : 0 + 0 + 0 + 1 ≤ (2 * ((κ.1 7).toInt - (κ.1 3).toInt) - 1).toNat := by
  first | assumption | omega | (subst_vars; omega) | trivial
-- room @16
theorem vX6_member_91 (κ : KS) (n2 : Int32) (n4 : Int32) (r3 : Int32) (hpre_0 : 0 ≤ (κ.1 3).toInt) (hpre_1 : (κ.1 3).toInt ≤ (κ.1 7).toInt) (hpre_2 : (κ.1 7).toInt ≤ 41) (hpre_6 : (κ.1 3).toInt < (κ.1 7).toInt) (hr1 : n2.toInt = (κ.1 3).toInt + 1) (hr3_0_0 : 0 ≤ r3.toInt) (hr3_0_1 : r3.toInt ≤ 1) (hr3_1_0 : r3.toInt = 0 → n4.toInt = n2.toInt) (hr3_1_1 : ¬ r3.toInt = 0 → n4.toInt = n2.toInt + 1 ∧ n2.toInt < (κ.1 7).toInt) (c5 : r3.toInt = 0) : 0 + 0 + 0 + 8 ≤ (16 * ((κ.1 7).toInt - (κ.1 3).toInt) - 8).toNat := by
  first | assumption | omega | (subst_vars; omega) | trivial
-- post @19
theorem vX6_member_92 (κ : KS) (k0 : Option Nat) (n2 : Int32) (n4 : Int32) (r3 : Int32) (P60 : PL) (b62 : Nat) (hpre_0 : 0 ≤ (κ.1 3).toInt) (hpre_1 : (κ.1 3).toInt ≤ (κ.1 7).toInt) (hpre_2 : (κ.1 7).toInt ≤ 41) (hpre_6 : (κ.1 3).toInt < (κ.1 7).toInt) (hr1 : n2.toInt = (κ.1 3).toInt + 1) (hr3_0_0 : 0 ≤ r3.toInt) (hr3_0_1 : r3.toInt ≤ 1) (hr3_1_0 : r3.toInt = 0 → n4.toInt = n2.toInt) (hr3_1_1 : ¬ r3.toInt = 0 → n4.toInt = n2.toInt + 1 ∧ n2.toInt < (κ.1 7).toInt) (c5 : r3.toInt = 0) (kc61 : cto P60 k0 = cto κ.2.2.2.2 k0) (hr59_3 : cto P60 (some b62) = 1 + cto κ.2.2.2.2 k0) : (κ.1 3).toInt ≤ n4.toInt ∧ n4.toInt ≤ (κ.1 7).toInt ∧ (κ.1 3).toInt < n4.toInt ∧ ((cto P60 (some b62) : Nat) : Int) + 1 ≤ ((cto κ.2.2.2.2 k0 : Nat) : Int) + 2 * (n4.toInt - (κ.1 3).toInt) := by
  refine ⟨?_, ?_, ?_, ?_⟩ <;> first | assumption | omega | (subst_vars; omega) | trivial
-- post2 @19
theorem vX6_member_93 (κ : KS) (k0 : Option Nat) (k1 : Int32) (d : Nat) (n2 : Int32) (r1 : Int32) (n4 : Int32) (r3 : Int32) (P60 : PL) (b62 : Nat) (hpre_0 : 0 ≤ (κ.1 3).toInt) (hpre_1 : (κ.1 3).toInt ≤ (κ.1 7).toInt) (hpre_2 : (κ.1 7).toInt ≤ 41) (hpre_3 : 0 ≤ k1.toInt) (hpre_4 : k1.toInt ≤ 4) (hpre_5 : 4 ≤ k1.toInt + ((d : Nat) : Int)) (hpre_6 : (κ.1 3).toInt < (κ.1 7).toInt) (hr1y : r1.toInt = (cT (κ.2.2.1 12) (κ.1 7)) (κ.1 3).toInt) (hr1 : n2.toInt = (κ.1 3).toInt + 1) (hr3y_0 : r3.toInt = 0 → ¬ (cT (κ.2.2.1 10) (κ.1 7)) n2.toInt = (40 : Int32).toInt) (hr3y_1 : ¬ r3.toInt = 0 → (cT (κ.2.2.1 10) (κ.1 7)) n2.toInt = (40 : Int32).toInt) (hr3_0_0 : 0 ≤ r3.toInt) (hr3_0_1 : r3.toInt ≤ 1) (hr3_1_0 : r3.toInt = 0 → n4.toInt = n2.toInt) (hr3_1_1 : ¬ r3.toInt = 0 → n4.toInt = n2.toInt + 1 ∧ n2.toInt < (κ.1 7).toInt) (c5 : r3.toInt = 0) (kc61 : cto P60 k0 = cto κ.2.2.2.2 k0) (hr59y_0 : oI P60 2 b62 = (4 : Int32)) (hr59y_1 : oI P60 5 b62 = 0) (hr59_3 : cto P60 (some b62) = 1 + cto κ.2.2.2.2 k0) : ∀ s9 : Bool, LG (cT (κ.2.2.1 10) (κ.1 7)) (cT (κ.2.2.1 12) (κ.1 7)) (cT (κ.2.2.1 11) (κ.1 7)) 10 0 s9 k1.toInt (κ.1 3).toInt P60 (some b62) n4.toInt (κ.1 4).toInt (κ.1 5).toInt := by
  have q4 : (4 : Int32).toInt = 4 := by decide +kernel
  have q40 : (40 : Int32).toInt = 40 := by decide +kernel
  intro s9
  have tkhr3y_0 := hr3y_0 c5
  obtain rfl : n4 = n2 := Int32.toInt_inj.mp (hr3_1_0 c5)
  first
  | exact gl_mp (by omega) (by omega) (CBS_st hr59y_0 hr59y_1 (by omega))
  | exact gl_m0 (a1 := n4.toInt) (by omega) (by omega) (by omega) (by omega) (by omega) (CBS_op hr59y_0 (by omega) (by omega))
-- grow @19
theorem vX6_member_94 (κ : KS) (n2 : Int32) (n4 : Int32) (r3 : Int32) (hpre_0 : 0 ≤ (κ.1 3).toInt) (hpre_1 : (κ.1 3).toInt ≤ (κ.1 7).toInt) (hpre_2 : (κ.1 7).toInt ≤ 41) (hpre_6 : (κ.1 3).toInt < (κ.1 7).toInt) (hr1 : n2.toInt = (κ.1 3).toInt + 1) (hr3_0_0 : 0 ≤ r3.toInt) (hr3_0_1 : r3.toInt ≤ 1) (hr3_1_0 : r3.toInt = 0 → n4.toInt = n2.toInt) (hr3_1_1 : ¬ r3.toInt = 0 → n4.toInt = n2.toInt + 1 ∧ n2.toInt < (κ.1 7).toInt) (c5 : r3.toInt = 0) : 0 + 0 + 0 + 1 ≤ (2 * (n4.toInt - (κ.1 3).toInt) - 1).toNat := by
  first | assumption | omega | (subst_vars; omega) | trivial
-- grow @19
theorem vX6_member_95 (κ : KS) (n2 : Int32) (n4 : Int32) (r3 : Int32) (hpre_0 : 0 ≤ (κ.1 3).toInt) (hpre_1 : (κ.1 3).toInt ≤ (κ.1 7).toInt) (hpre_2 : (κ.1 7).toInt ≤ 41) (hpre_6 : (κ.1 3).toInt < (κ.1 7).toInt) (hr1 : n2.toInt = (κ.1 3).toInt + 1) (hr3_0_0 : 0 ≤ r3.toInt) (hr3_0_1 : r3.toInt ≤ 1) (hr3_1_0 : r3.toInt = 0 → n4.toInt = n2.toInt) (hr3_1_1 : ¬ r3.toInt = 0 → n4.toInt = n2.toInt + 1 ∧ n2.toInt < (κ.1 7).toInt) (c5 : r3.toInt = 0) : 0 + 0 + 0 + 8 ≤ (16 * (n4.toInt - (κ.1 3).toInt) - 8).toNat := by
  first | assumption | omega | (subst_vars; omega) | trivial
-- growm @19
theorem vX6_member_96 (κ : KS) (n2 : Int32) (n4 : Int32) (r3 : Int32) (hpre_0 : 0 ≤ (κ.1 3).toInt) (hpre_1 : (κ.1 3).toInt ≤ (κ.1 7).toInt) (hpre_2 : (κ.1 7).toInt ≤ 41) (hpre_6 : (κ.1 3).toInt < (κ.1 7).toInt) (hr1 : n2.toInt = (κ.1 3).toInt + 1) (hr3_0_0 : 0 ≤ r3.toInt) (hr3_0_1 : r3.toInt ≤ 1) (hr3_1_0 : r3.toInt = 0 → n4.toInt = n2.toInt) (hr3_1_1 : ¬ r3.toInt = 0 → n4.toInt = n2.toInt + 1 ∧ n2.toInt < (κ.1 7).toInt) (c5 : r3.toInt = 0) : (2 * (n4.toInt - (κ.1 3).toInt) - 1).toNat ≤ (2 * ((κ.1 7).toInt - (κ.1 3).toInt) - 1).toNat := by
  first | assumption | omega | (subst_vars; omega) | trivial
-- growm @19
theorem vX6_member_97 (κ : KS) (n2 : Int32) (n4 : Int32) (r3 : Int32) (hpre_0 : 0 ≤ (κ.1 3).toInt) (hpre_1 : (κ.1 3).toInt ≤ (κ.1 7).toInt) (hpre_2 : (κ.1 7).toInt ≤ 41) (hpre_6 : (κ.1 3).toInt < (κ.1 7).toInt) (hr1 : n2.toInt = (κ.1 3).toInt + 1) (hr3_0_0 : 0 ≤ r3.toInt) (hr3_0_1 : r3.toInt ≤ 1) (hr3_1_0 : r3.toInt = 0 → n4.toInt = n2.toInt) (hr3_1_1 : ¬ r3.toInt = 0 → n4.toInt = n2.toInt + 1 ∧ n2.toInt < (κ.1 7).toInt) (c5 : r3.toInt = 0) : (16 * (n4.toInt - (κ.1 3).toInt) - 8).toNat ≤ (16 * ((κ.1 7).toInt - (κ.1 3).toInt) - 8).toNat := by
  first | assumption | omega | (subst_vars; omega) | trivial
set_option maxHeartbeats 4000000 in
set_option maxRecDepth 100000 in
theorem NX6_member (l : Launch) (D : va_G) (cy : Nat → ClassId) (ad : Nat → Nat) (A : Nat → Prop) (sz0 : Nat) (sa : Nat → Nat) (d : Nat) (IH : KX6_choice l D cy ad A sz0 sa d) (κ : KS) (sz sl : Nat) (hAF : ∀ q, A q → Fr sz0 q) (hAn : ∀ q : Nat, sz ≤ q → A q) (k0 : Option Nat) (k1 : Int32) (ht0 : NT κ.2.2.2.2 2 k0) (hPV : PV sa κ.2.2.2.2) (hSV : SV ad κ.2.2.2.2 (κ.2.1 0) (κ.2.1 1) (κ.2.2.2.1 6) (κ.2.2.2.1 7) (κ.2.2.2.1 8) (κ.2.2.2.1 13) (κ.2.2.2.1 15) (κ.2.2.2.1 17) (κ.1 1).toInt) (hpre : 0 ≤ (κ.1 3).toInt ∧ (κ.1 3).toInt ≤ (κ.1 7).toInt ∧ (κ.1 7).toInt ≤ 41 ∧ 0 ≤ k1.toInt ∧ k1.toInt ≤ 4 ∧ 4 ≤ k1.toInt + ((d : Nat) : Int) ∧ (κ.1 3).toInt < (κ.1 7).toInt) : Met l yX6_member (Cond.code yX6_member cX6_member 6 (some (.object "PhraseDesk$Node")) :: GWc) ({ frames := 16 * d + 25, cells := (2 * ((κ.1 7).toInt - (κ.1 3).toInt) - 1).toNat, slots := (16 * ((κ.1 7).toInt - (κ.1 3).toInt) - 8).toNat, locals := 500 * d + 470 }) (PcC D cy ad A sz0 sa [.ref (ad 1), va_rf k0, .int k1] κ sz sl) (va_Qq (fun (r : Option Nat) (u : Int32 × Int32 × Int32 × PL) => ((EX κ.2.2.2.2 u.2.2.2) ∧ (PV sa u.2.2.2) ∧ (SV ad u.2.2.2 (κ.2.1 0) (κ.2.1 1) (κ.2.2.2.1 6) (κ.2.2.2.1 7) (κ.2.2.2.1 8) (κ.2.2.2.1 13) (κ.2.2.2.1 15) (κ.2.2.2.1 17) (κ.1 1).toInt) ∧ (NT u.2.2.2 2 r) ∧ ((κ.1 3).toInt ≤ u.1.toInt ∧ u.1.toInt ≤ (κ.1 7).toInt ∧ (κ.1 3).toInt < u.1.toInt ∧ ((cto u.2.2.2 r : Nat) : Int) + 1 ≤ ((cto κ.2.2.2.2 k0 : Nat) : Int) + 2 * (u.1.toInt - (κ.1 3).toInt))) ∧ (∀ s9 : Bool, LG (cT (κ.2.2.1 10) (κ.1 7)) (cT (κ.2.2.1 12) (κ.1 7)) (cT (κ.2.2.1 11) (κ.1 7)) 10 0 s9 k1.toInt (κ.1 3).toInt u.2.2.2 r u.1.toInt u.2.1.toInt u.2.2.1.toInt)) (fun (u : Int32 × Int32 × Int32 × PL) (t : State) => Bx D cy ad A sz sl (tP (tI (tI (tI κ 3 u.1) 4 u.2.1) 5 u.2.2.1) u.2.2.2) ((2 * (u.1.toInt - (κ.1 3).toInt) - 1).toNat) ((16 * (u.1.toInt - (κ.1 3).toInt) - 8).toNat) t) A) ((2 * ((κ.1 7).toInt - (κ.1 3).toInt) - 1).toNat) ((16 * ((κ.1 7).toInt - (κ.1 3).toInt) - 8).toNat) A := by
  refine CM_of (loc0 := [(0, .ref (ad 1)), (1, va_rf k0), (2, .int k1)]) (own := RX6) (nm := "member") (by decide) rfl rfl (by cases k0 <;> rfl) (by cases k0 <;> exact Nat.le_of_ble_eq_true rfl) hAF hAn ?_
  intro p e s m below meth c ls hsz hsl C hP hS hl
  obtain ⟨hpre_0, hpre_1, hpre_2, hpre_3, hpre_4, hpre_5, hpre_6⟩ := hpre
  refine lv_aload_n C.x C.b dX6_member_0 rfl (lv_at hl 0 rfl) ?_
  refine c_callVi (n := 0) (As := []) (rest := []) C hP hS hl.1 (NX6_takeName l D cy ad A sz0 sa κ s.heap.size (SLT s.heap) C.f (fun q h => C.a q (Nat.le_trans hS.1 h))  (vX6_member_1 κ hpre_0 hpre_1 hpre_2 hpre_6)) ⟨cw_626, cw_629, by decide +kernel⟩ ⟨cw_627, cw_628, cw_577⟩ rfl (hP.recvS (k := 1) (ci := 8) C.K rfl rfl) rfl rfl (lv_room (Nat.le_of_ble_eq_true rfl)) ⟨(vX6_member_2 d ), (vX6_member_3 d )⟩ ⟨(vX6_member_4 κ hpre_0 hpre_1 hpre_2 hpre_6), (vX6_member_5 κ hpre_0 hpre_1 hpre_2 hpre_6)⟩ dX6_member_1 (fun r1 u H locs hr1 hP hS => ?_)
  obtain ⟨n2, rfl⟩ : ∃ z, z = u := ⟨_, rfl⟩
  have hP : CH D cy ad A (tI κ 3 n2) H := hP
  obtain ⟨hr1, hr1y⟩ := hr1
  have hr1y : r1.toInt = (cT (κ.2.2.1 12) (κ.1 7)) (κ.1 3).toInt := hr1y
  have hr1 : (n2.toInt = (κ.1 3).toInt + 1) := hr1
  refine lv_istore_n (lv' := [(3, .int r1), (0, .ref (ad 1)), (1, va_rf k0), (2, .int k1)]) C.x C.b dX6_member_4 rfl hl (by decide) (by cases k0 <;> rfl) (fun ls hl => ?_)
  refine lv_aload_n C.x C.b dX6_member_5 rfl (lv_at hl 1 rfl) ?_
  refine lv_bipush (v := 40) C.x C.b dX6_member_6 (by decide +kernel) ?_
  refine c_callVi (n := 1) (As := [.int 40]) (rest := []) C hP hS hl.1 (NX6_takes l D cy ad A sz0 sa (tI κ 3 n2) H.size (SLT H) C.f (fun q h => C.a q (Nat.le_trans hS.1 h)) (40 : Int32) (vX6_member_6 κ n2 hpre_0 hpre_1 hpre_2 hpre_6 hr1)) ⟨cw_593, cw_596, by decide +kernel⟩ ⟨cw_594, cw_595, cw_577⟩ rfl (hP.recvS (k := 1) (ci := 8) C.K rfl rfl) rfl rfl (lv_room (Nat.le_of_ble_eq_true rfl)) ⟨(vX6_member_7 d ), (vX6_member_8 d )⟩ ⟨(vX6_member_9 κ n2 hpre_0 hpre_1 hpre_2 hpre_6 hr1), (vX6_member_10 κ n2 hpre_0 hpre_1 hpre_2 hpre_6 hr1)⟩ dX6_member_8 (fun r3 u H locs hr3 hP hS => ?_)
  obtain ⟨n4, rfl⟩ : ∃ z, z = u := ⟨_, rfl⟩
  have hP : CH D cy ad A (tI (tI κ 3 n2) 3 n4) H := hP
  obtain ⟨hr3, hr3y⟩ := hr3
  have hr3y : (r3.toInt = 0 → ¬ (cT (κ.2.2.1 10) (κ.1 7)) n2.toInt = (40 : Int32).toInt) ∧ (¬ r3.toInt = 0 → (cT (κ.2.2.1 10) (κ.1 7)) n2.toInt = (40 : Int32).toInt) := hr3y
  have hr3 : (0 ≤ r3.toInt ∧ r3.toInt ≤ 1) ∧ ((r3.toInt = 0 → n4.toInt = n2.toInt) ∧ (¬ r3.toInt = 0 → n4.toInt = n2.toInt + 1 ∧ n2.toInt < (κ.1 7).toInt)) := hr3
  obtain ⟨hr3_0, hr3_1⟩ := hr3
  obtain ⟨hr3y_0, hr3y_1⟩ := hr3y
  obtain ⟨hr3_0_0, hr3_0_1⟩ := hr3_0
  obtain ⟨hr3_1_0, hr3_1_1⟩ := hr3_1
  refine lv_if_ne (tgt := 20) C.x C.b dX6_member_11 (by decide) (fun c5 => ?_) (fun c5 => ?_)
  · have c5 : ¬ r3.toInt = 0 := by have h := z_ne c5; rw [show (0 : Int32).toInt = 0 from by decide +kernel] at h; exact h
    refine lv_aload_n C.x C.b dX6_member_20 rfl (lv_at hl 1 rfl) ?_
    refine lv_bipush (v := 41) C.x C.b dX6_member_21 (by decide +kernel) ?_
    refine c_callVi (n := 1) (As := [.int 41]) (rest := []) C hP hS hl.1 (NX6_takes l D cy ad A sz0 sa (tI (tI κ 3 n2) 3 n4) H.size (SLT H) C.f (fun q h => C.a q (Nat.le_trans hS.1 h)) (41 : Int32) (vX6_member_11 κ n2 n4 r3 hpre_0 hpre_1 hpre_2 hpre_6 hr1 hr3_0_0 hr3_0_1 hr3_1_0 hr3_1_1 c5)) ⟨cw_593, cw_596, by decide +kernel⟩ ⟨cw_594, cw_595, cw_577⟩ rfl (hP.recvS (k := 1) (ci := 8) C.K rfl rfl) rfl rfl (lv_room (Nat.le_of_ble_eq_true rfl)) ⟨(vX6_member_7 d ), (vX6_member_8 d )⟩ ⟨(vX6_member_12 κ n2 n4 r3 hpre_0 hpre_1 hpre_2 hpre_6 hr1 hr3_0_0 hr3_0_1 hr3_1_0 hr3_1_1 c5), (vX6_member_13 κ n2 n4 r3 hpre_0 hpre_1 hpre_2 hpre_6 hr1 hr3_0_0 hr3_0_1 hr3_1_0 hr3_1_1 c5)⟩ dX6_member_23 (fun r6 u H locs hr6 hP hS => ?_)
    obtain ⟨n7, rfl⟩ : ∃ z, z = u := ⟨_, rfl⟩
    have hP : CH D cy ad A (tI (tI (tI κ 3 n2) 3 n4) 3 n7) H := hP
    obtain ⟨hr6, hr6y⟩ := hr6
    have hr6y : (r6.toInt = 0 → ¬ (cT (κ.2.2.1 10) (κ.1 7)) n4.toInt = (41 : Int32).toInt) ∧ (¬ r6.toInt = 0 → (cT (κ.2.2.1 10) (κ.1 7)) n4.toInt = (41 : Int32).toInt) := hr6y
    have hr6 : (0 ≤ r6.toInt ∧ r6.toInt ≤ 1) ∧ ((r6.toInt = 0 → n7.toInt = n4.toInt) ∧ (¬ r6.toInt = 0 → n7.toInt = n4.toInt + 1 ∧ n4.toInt < (κ.1 7).toInt)) := hr6
    obtain ⟨hr6_0, hr6_1⟩ := hr6
    obtain ⟨hr6y_0, hr6y_1⟩ := hr6y
    obtain ⟨hr6_0_0, hr6_0_1⟩ := hr6_0
    obtain ⟨hr6_1_0, hr6_1_1⟩ := hr6_1
    refine lv_if_eq (tgt := 37) C.x C.b dX6_member_26 (by decide) (fun c8 => ?_) (fun c8 => ?_)
    · have c8 : r6.toInt = 0 := by have h := z_eq c8; rw [show (0 : Int32).toInt = 0 from by decide +kernel] at h; exact h
      refine lv_aload_n C.x C.b dX6_member_37 rfl (lv_at hl 1 rfl) ?_
      refine lv_iload_n C.x C.b dX6_member_38 rfl (lv_at hl 3 rfl) ?_
      refine lv_iconst (v := 1) C.x C.b dX6_member_39 (by decide +kernel) ?_
      refine lv_iadd C.x C.b dX6_member_40 ?_
      refine lv_topi (fun x9 ex9 => ?_)
      have tx9 : x9.toInt = k1.toInt + 1 := (vX6_member_14 k1 d x9 hpre_3 hpre_4 hpre_5 ex9)
      refine c_callVq (n := 1) (As := [.int x9]) (rest := []) C hP hS hl.1 (IH (tI (tI (tI κ 3 n2) 3 n4) 3 n7) H.size (SLT H) C.f (fun q h => C.a q (Nat.le_trans hS.1 h)) x9 hPV hSV (vX6_member_15 κ k1 d n2 n4 r3 n7 r6 x9 hpre_0 hpre_1 hpre_2 hpre_3 hpre_4 hpre_5 hpre_6 hr1 hr3_0_0 hr3_0_1 hr3_1_0 hr3_1_1 c5 hr6_0_0 hr6_0_1 hr6_1_0 hr6_1_1 c8 ex9 tx9)) ⟨cw_579, cw_582, by decide +kernel⟩ ⟨cw_580, cw_581, cw_577⟩ rfl (hP.recvS (k := 1) (ci := 8) C.K rfl rfl) rfl rfl (lv_room (Nat.le_of_ble_eq_true rfl)) ⟨(vX6_member_16 d ), (vX6_member_17 d )⟩ ⟨(vX6_member_18 κ n2 n4 r3 n7 r6 hpre_0 hpre_1 hpre_2 hpre_6 hr1 hr3_0_0 hr3_0_1 hr3_1_0 hr3_1_1 c5 hr6_0_0 hr6_0_1 hr6_1_0 hr6_1_1 c8), (vX6_member_19 κ n2 n4 r3 n7 r6 hpre_0 hpre_1 hpre_2 hpre_6 hr1 hr3_0_0 hr3_0_1 hr3_1_0 hr3_1_1 c5 hr6_0_0 hr6_0_1 hr6_1_0 hr6_1_1 c8)⟩ dX6_member_41 (fun r10 u H locs hr10 hP hS => ?_)
      obtain ⟨n11, n12, n13, P14⟩ := u
      have hP : CH D cy ad A (tP (tI (tI (tI (tI (tI (tI κ 3 n2) 3 n4) 3 n7) 3 n11) 4 n12) 5 n13) P14) H := hP
      obtain ⟨hr10, hr10y⟩ := hr10
      have hr10y : LG (cT (κ.2.2.1 10) (κ.1 7)) (cT (κ.2.2.1 12) (κ.1 7)) (cT (κ.2.2.1 11) (κ.1 7)) 0 0 false x9.toInt n7.toInt P14 r10 n11.toInt n12.toInt n13.toInt := hr10y
      have hr10 : (EX κ.2.2.2.2 P14) ∧ (PV sa P14) ∧ (SV ad P14 (κ.2.1 0) (κ.2.1 1) (κ.2.2.2.1 6) (κ.2.2.2.1 7) (κ.2.2.2.1 8) (κ.2.2.2.1 13) (κ.2.2.2.1 15) (κ.2.2.2.1 17) (κ.1 1).toInt) ∧ (NT P14 2 r10) ∧ (n7.toInt ≤ n11.toInt ∧ n11.toInt ≤ (κ.1 7).toInt ∧ ((cto P14 r10 : Nat) : Int) ≤ 2 * (n11.toInt - n7.toInt)) := hr10
      obtain ⟨hr10_0, hr10_1, hr10_2, hr10_3, hr10_4⟩ := hr10
      have kc15 : cto P14 k0 = cto κ.2.2.2.2 k0 := hr10_0.ct ht0 (by decide)
      obtain ⟨hr10_4_0, hr10_4_1, hr10_4_2⟩ := hr10_4
      refine lq_astore (lv' := [(4, va_rf r10), (3, .int r1), (0, .ref (ad 1)), (1, va_rf k0), (2, .int k1)]) C.x C.b dX6_member_44 hl (by decide) (by cases r10 <;> cases k0 <;> rfl) (fun ls hl => ?_)
      refine lq_aload C.x C.b dX6_member_46 (lv_at hl 0 rfl) ?_
      cases r10 with
      | none =>
        refine lv_ifnonnullN C.x C.b dX6_member_48 ?_
        refine lv_null C.x C.b dX6_member_51 ?_
        have hP : CH D cy ad A (tP (tI (tI (tI κ 3 n11) 4 n12) 5 n13) P14) H := CH.cong hP rfl rfl rfl rfl rfl rfl rfl rfl rfl rfl rfl rfl rfl rfl rfl rfl rfl rfl rfl rfl rfl rfl rfl rfl rfl rfl rfl
        exact c_retq (v := none) (Or.inl ⟨_, rfl⟩) C hsz hsl ⟨n11, n12, n13, P14⟩ ⟨⟨hr10_0, hr10_1, hr10_2, nt_n, (vX6_member_20 κ k0 n2 n4 r3 n7 r6 n11 P14 hpre_0 hpre_1 hpre_2 hpre_6 hr1 hr3_0_0 hr3_0_1 hr3_1_0 hr3_1_1 c5 hr6_0_0 hr6_0_1 hr6_1_0 hr6_1_1 c8 kc15 hr10_4_0 hr10_4_1 hr10_4_2)⟩, (vX6_member_21 κ k0 k1 d n2 r1 n4 r3 n7 r6 x9 n11 n12 n13 P14 hpre_0 hpre_1 hpre_2 hpre_3 hpre_4 hpre_5 hpre_6 hr1y hr1 hr3y_0 hr3y_1 hr3_0_0 hr3_0_1 hr3_1_0 hr3_1_1 c5 hr6y_0 hr6y_1 hr6_0_0 hr6_0_1 hr6_1_0 hr6_1_1 c8 ex9 tx9 kc15 hr10y hr10_4_0 hr10_4_1 hr10_4_2)⟩ hP hS ⟨(vX6_member_22 κ k0 n2 n4 r3 n7 r6 n11 P14 hpre_0 hpre_1 hpre_2 hpre_6 hr1 hr3_0_0 hr3_0_1 hr3_1_0 hr3_1_1 c5 hr6_0_0 hr6_0_1 hr6_1_0 hr6_1_1 c8 kc15 hr10_4_0 hr10_4_1 hr10_4_2), (vX6_member_23 κ k0 n2 n4 r3 n7 r6 n11 P14 hpre_0 hpre_1 hpre_2 hpre_6 hr1 hr3_0_0 hr3_0_1 hr3_1_0 hr3_1_1 c5 hr6_0_0 hr6_0_1 hr6_1_0 hr6_1_1 c8 kc15 hr10_4_0 hr10_4_1 hr10_4_2)⟩ ⟨(vX6_member_24 κ k0 n2 n4 r3 n7 r6 n11 P14 hpre_0 hpre_1 hpre_2 hpre_6 hr1 hr3_0_0 hr3_0_1 hr3_1_0 hr3_1_1 c5 hr6_0_0 hr6_0_1 hr6_1_0 hr6_1_1 c8 kc15 hr10_4_0 hr10_4_1 hr10_4_2), (vX6_member_25 κ k0 n2 n4 r3 n7 r6 n11 P14 hpre_0 hpre_1 hpre_2 hpre_6 hr1 hr3_0_0 hr3_0_1 hr3_1_0 hr3_1_1 c5 hr6_0_0 hr6_0_1 hr6_1_0 hr6_1_1 c8 kc15 hr10_4_0 hr10_4_1 hr10_4_2)⟩ dX6_member_52
      | some b16 =>
        have hb16 : oT P14 b16 = 2 := hr10_3 b16 rfl
        refine lv_ifnonnull (tgt := 53) C.x C.b dX6_member_48 (by decide) ?_
        refine lv_null C.x C.b dX6_member_53 ?_
        refine lv_astoreN (lv' := [(5, .null), (4, .ref b16), (3, .int r1), (0, .ref (ad 1)), (1, va_rf k0), (2, .int k1)]) C.x C.b dX6_member_54 hl (by decide) (by cases k0 <;> rfl) (fun ls hl => ?_)
        refine lv_aload_n C.x C.b dX6_member_56 rfl (lv_at hl 3 rfl) ?_
        refine lv_bipush (v := 44) C.x C.b dX6_member_57 (by decide +kernel) ?_
        refine c_callVi (n := 1) (As := [.int 44]) (rest := []) C hP hS hl.1 (NX6_takes l D cy ad A sz0 sa (tP (tI (tI (tI (tI (tI (tI κ 3 n2) 3 n4) 3 n7) 3 n11) 4 n12) 5 n13) P14) H.size (SLT H) C.f (fun q h => C.a q (Nat.le_trans hS.1 h)) (44 : Int32) (vX6_member_26 κ k0 n2 n4 r3 n7 r6 n11 P14 b16 hpre_0 hpre_1 hpre_2 hpre_6 hr1 hr3_0_0 hr3_0_1 hr3_1_0 hr3_1_1 c5 hr6_0_0 hr6_0_1 hr6_1_0 hr6_1_1 c8 kc15 hr10_4_0 hr10_4_1 hr10_4_2)) ⟨cw_593, cw_596, by decide +kernel⟩ ⟨cw_594, cw_595, cw_577⟩ rfl (hP.recvS (k := 1) (ci := 8) C.K rfl rfl) rfl rfl (lv_room (Nat.le_of_ble_eq_true rfl)) ⟨(vX6_member_7 d ), (vX6_member_8 d )⟩ ⟨(vX6_member_27 κ k0 n2 n4 r3 n7 r6 n11 P14 b16 hpre_0 hpre_1 hpre_2 hpre_6 hr1 hr3_0_0 hr3_0_1 hr3_1_0 hr3_1_1 c5 hr6_0_0 hr6_0_1 hr6_1_0 hr6_1_1 c8 kc15 hr10_4_0 hr10_4_1 hr10_4_2), (vX6_member_28 κ k0 n2 n4 r3 n7 r6 n11 P14 b16 hpre_0 hpre_1 hpre_2 hpre_6 hr1 hr3_0_0 hr3_0_1 hr3_1_0 hr3_1_1 c5 hr6_0_0 hr6_0_1 hr6_1_0 hr6_1_1 c8 kc15 hr10_4_0 hr10_4_1 hr10_4_2)⟩ dX6_member_59 (fun r17 u H locs hr17 hP hS => ?_)
        obtain ⟨n18, rfl⟩ : ∃ z, z = u := ⟨_, rfl⟩
        have hP : CH D cy ad A (tI (tP (tI (tI (tI (tI (tI (tI κ 3 n2) 3 n4) 3 n7) 3 n11) 4 n12) 5 n13) P14) 3 n18) H := hP
        obtain ⟨hr17, hr17y⟩ := hr17
        have hr17y : (r17.toInt = 0 → ¬ (cT (κ.2.2.1 10) (κ.1 7)) n11.toInt = (44 : Int32).toInt) ∧ (¬ r17.toInt = 0 → (cT (κ.2.2.1 10) (κ.1 7)) n11.toInt = (44 : Int32).toInt) := hr17y
        have hr17 : (0 ≤ r17.toInt ∧ r17.toInt ≤ 1) ∧ ((r17.toInt = 0 → n18.toInt = n11.toInt) ∧ (¬ r17.toInt = 0 → n18.toInt = n11.toInt + 1 ∧ n11.toInt < (κ.1 7).toInt)) := hr17
        obtain ⟨hr17_0, hr17_1⟩ := hr17
        obtain ⟨hr17y_0, hr17y_1⟩ := hr17y
        obtain ⟨hr17_0_0, hr17_0_1⟩ := hr17_0
        obtain ⟨hr17_1_0, hr17_1_1⟩ := hr17_1
        refine lv_if_eq (tgt := 81) C.x C.b dX6_member_62 (by decide) (fun c19 => ?_) (fun c19 => ?_)
        · have c19 : r17.toInt = 0 := by have h := z_eq c19; rw [show (0 : Int32).toInt = 0 from by decide +kernel] at h; exact h
          refine lv_aload_n C.x C.b dX6_member_81 rfl (lv_at hl 3 rfl) ?_
          refine lv_bipush (v := 41) C.x C.b dX6_member_82 (by decide +kernel) ?_
          refine c_callVi (n := 1) (As := [.int 41]) (rest := []) C hP hS hl.1 (NX6_takes l D cy ad A sz0 sa (tI (tP (tI (tI (tI (tI (tI (tI κ 3 n2) 3 n4) 3 n7) 3 n11) 4 n12) 5 n13) P14) 3 n18) H.size (SLT H) C.f (fun q h => C.a q (Nat.le_trans hS.1 h)) (41 : Int32) (vX6_member_29 κ k0 n2 n4 r3 n7 r6 n11 P14 b16 n18 r17 hpre_0 hpre_1 hpre_2 hpre_6 hr1 hr3_0_0 hr3_0_1 hr3_1_0 hr3_1_1 c5 hr6_0_0 hr6_0_1 hr6_1_0 hr6_1_1 c8 kc15 hr10_4_0 hr10_4_1 hr10_4_2 hr17_0_0 hr17_0_1 hr17_1_0 hr17_1_1 c19)) ⟨cw_593, cw_596, by decide +kernel⟩ ⟨cw_594, cw_595, cw_577⟩ rfl (hP.recvS (k := 1) (ci := 8) C.K rfl rfl) rfl rfl (lv_room (Nat.le_of_ble_eq_true rfl)) ⟨(vX6_member_7 d ), (vX6_member_8 d )⟩ ⟨(vX6_member_30 κ k0 n2 n4 r3 n7 r6 n11 P14 b16 n18 r17 hpre_0 hpre_1 hpre_2 hpre_6 hr1 hr3_0_0 hr3_0_1 hr3_1_0 hr3_1_1 c5 hr6_0_0 hr6_0_1 hr6_1_0 hr6_1_1 c8 kc15 hr10_4_0 hr10_4_1 hr10_4_2 hr17_0_0 hr17_0_1 hr17_1_0 hr17_1_1 c19), (vX6_member_31 κ k0 n2 n4 r3 n7 r6 n11 P14 b16 n18 r17 hpre_0 hpre_1 hpre_2 hpre_6 hr1 hr3_0_0 hr3_0_1 hr3_1_0 hr3_1_1 c5 hr6_0_0 hr6_0_1 hr6_1_0 hr6_1_1 c8 kc15 hr10_4_0 hr10_4_1 hr10_4_2 hr17_0_0 hr17_0_1 hr17_1_0 hr17_1_1 c19)⟩ dX6_member_84 (fun r20 u H locs hr20 hP hS => ?_)
          obtain ⟨n21, rfl⟩ : ∃ z, z = u := ⟨_, rfl⟩
          have hP : CH D cy ad A (tI (tI (tP (tI (tI (tI (tI (tI (tI κ 3 n2) 3 n4) 3 n7) 3 n11) 4 n12) 5 n13) P14) 3 n18) 3 n21) H := hP
          obtain ⟨hr20, hr20y⟩ := hr20
          have hr20y : (r20.toInt = 0 → ¬ (cT (κ.2.2.1 10) (κ.1 7)) n18.toInt = (41 : Int32).toInt) ∧ (¬ r20.toInt = 0 → (cT (κ.2.2.1 10) (κ.1 7)) n18.toInt = (41 : Int32).toInt) := hr20y
          have hr20 : (0 ≤ r20.toInt ∧ r20.toInt ≤ 1) ∧ ((r20.toInt = 0 → n21.toInt = n18.toInt) ∧ (¬ r20.toInt = 0 → n21.toInt = n18.toInt + 1 ∧ n18.toInt < (κ.1 7).toInt)) := hr20
          obtain ⟨hr20_0, hr20_1⟩ := hr20
          obtain ⟨hr20y_0, hr20y_1⟩ := hr20y
          obtain ⟨hr20_0_0, hr20_0_1⟩ := hr20_0
          obtain ⟨hr20_1_0, hr20_1_1⟩ := hr20_1
          refine lv_if_eq (tgt := 102) C.x C.b dX6_member_87 (by decide) (fun c22 => ?_) (fun c22 => ?_)
          · have c22 : r20.toInt = 0 := by have h := z_eq c22; rw [show (0 : Int32).toInt = 0 from by decide +kernel] at h; exact h
            refine lv_aload_n C.x C.b dX6_member_102 rfl (lv_at hl 3 rfl) ?_
            refine lv_iconst (v := 2) C.x C.b dX6_member_103 (by decide +kernel) ?_
            refine c_callVq (n := 1) (As := [.int 2]) (rest := []) C hP hS hl.1 (NX6_refuse l D cy ad A sz0 sa (tI (tI (tP (tI (tI (tI (tI (tI (tI κ 3 n2) 3 n4) 3 n7) 3 n11) 4 n12) 5 n13) P14) 3 n18) 3 n21) H.size (SLT H) C.f (fun q h => C.a q (Nat.le_trans hS.1 h)) (2 : Int32) (vX6_member_32 κ k0 n2 n4 r3 n7 r6 n11 P14 b16 n18 r17 n21 r20 hpre_0 hpre_1 hpre_2 hpre_6 hr1 hr3_0_0 hr3_0_1 hr3_1_0 hr3_1_1 c5 hr6_0_0 hr6_0_1 hr6_1_0 hr6_1_1 c8 kc15 hr10_4_0 hr10_4_1 hr10_4_2 hr17_0_0 hr17_0_1 hr17_1_0 hr17_1_1 c19 hr20_0_0 hr20_0_1 hr20_1_0 hr20_1_1 c22)) ⟨cw_583, cw_586, by decide +kernel⟩ ⟨cw_584, cw_585, cw_577⟩ rfl (hP.recvS (k := 1) (ci := 8) C.K rfl rfl) rfl rfl (lv_room (Nat.le_of_ble_eq_true rfl)) ⟨(vX6_member_2 d ), (vX6_member_33 d )⟩ ⟨(vX6_member_34 κ k0 n2 n4 r3 n7 r6 n11 P14 b16 n18 r17 n21 r20 hpre_0 hpre_1 hpre_2 hpre_6 hr1 hr3_0_0 hr3_0_1 hr3_1_0 hr3_1_1 c5 hr6_0_0 hr6_0_1 hr6_1_0 hr6_1_1 c8 kc15 hr10_4_0 hr10_4_1 hr10_4_2 hr17_0_0 hr17_0_1 hr17_1_0 hr17_1_1 c19 hr20_0_0 hr20_0_1 hr20_1_0 hr20_1_1 c22), (vX6_member_35 κ k0 n2 n4 r3 n7 r6 n11 P14 b16 n18 r17 n21 r20 hpre_0 hpre_1 hpre_2 hpre_6 hr1 hr3_0_0 hr3_0_1 hr3_1_0 hr3_1_1 c5 hr6_0_0 hr6_0_1 hr6_1_0 hr6_1_1 c8 kc15 hr10_4_0 hr10_4_1 hr10_4_2 hr17_0_0 hr17_0_1 hr17_1_0 hr17_1_1 c19 hr20_0_0 hr20_0_1 hr20_1_0 hr20_1_1 c22)⟩ dX6_member_104 (fun r23 u H locs hr23 hP hS => ?_)
            obtain ⟨n24, n25⟩ := u
            have hP : CH D cy ad A (tI (tI (tI (tI (tP (tI (tI (tI (tI (tI (tI κ 3 n2) 3 n4) 3 n7) 3 n11) 4 n12) 5 n13) P14) 3 n18) 3 n21) 4 n24) 5 n25) H := hP
            obtain ⟨hr23, hr23y⟩ := hr23
            have hr23y : r23 = (none : Option Nat) ∧ n24.toInt = (2 : Int32).toInt ∧ n25.toInt = (cT (κ.2.2.1 11) (κ.1 7)) n21.toInt := hr23y
            have hr23 : (NT P14 2 r23) ∧ (cto P14 r23 = 0) := hr23
            obtain ⟨hr23_0, hr23_1⟩ := hr23
            obtain ⟨hr23y_0, hr23y_1, hr23y_2⟩ := hr23y
            have hP : CH D cy ad A (tP (tI (tI (tI κ 3 n21) 4 n24) 5 n25) P14) H := CH.cong hP rfl rfl rfl rfl rfl rfl rfl rfl rfl rfl rfl rfl rfl rfl rfl rfl rfl rfl rfl rfl rfl rfl rfl rfl rfl rfl rfl
            exact c_retq (v := r23) (Or.inl ⟨_, rfl⟩) C hsz hsl ⟨n21, n24, n25, P14⟩ ⟨⟨hr10_0, hr10_1, hr10_2, hr23_0, (vX6_member_36 κ k0 n2 n4 r3 n7 r6 n11 P14 b16 n18 r17 n21 r20 r23 hpre_0 hpre_1 hpre_2 hpre_6 hr1 hr3_0_0 hr3_0_1 hr3_1_0 hr3_1_1 c5 hr6_0_0 hr6_0_1 hr6_1_0 hr6_1_1 c8 kc15 hr10_4_0 hr10_4_1 hr10_4_2 hr17_0_0 hr17_0_1 hr17_1_0 hr17_1_1 c19 hr20_0_0 hr20_0_1 hr20_1_0 hr20_1_1 c22 hr23_1)⟩, (vX6_member_37 κ k0 k1 d n2 r1 n4 r3 n7 r6 x9 n11 n12 n13 P14 b16 n18 r17 n21 r20 n24 n25 r23 hpre_0 hpre_1 hpre_2 hpre_3 hpre_4 hpre_5 hpre_6 hr1y hr1 hr3y_0 hr3y_1 hr3_0_0 hr3_0_1 hr3_1_0 hr3_1_1 c5 hr6y_0 hr6y_1 hr6_0_0 hr6_0_1 hr6_1_0 hr6_1_1 c8 ex9 tx9 kc15 hr10y hr10_4_0 hr10_4_1 hr10_4_2 hr17y_0 hr17y_1 hr17_0_0 hr17_0_1 hr17_1_0 hr17_1_1 c19 hr20y_0 hr20y_1 hr20_0_0 hr20_0_1 hr20_1_0 hr20_1_1 c22 hr23y_0 hr23y_1 hr23y_2 hr23_1)⟩ hP hS ⟨(vX6_member_38 κ k0 n2 n4 r3 n7 r6 n11 P14 b16 n18 r17 n21 r20 r23 hpre_0 hpre_1 hpre_2 hpre_6 hr1 hr3_0_0 hr3_0_1 hr3_1_0 hr3_1_1 c5 hr6_0_0 hr6_0_1 hr6_1_0 hr6_1_1 c8 kc15 hr10_4_0 hr10_4_1 hr10_4_2 hr17_0_0 hr17_0_1 hr17_1_0 hr17_1_1 c19 hr20_0_0 hr20_0_1 hr20_1_0 hr20_1_1 c22 hr23_1), (vX6_member_39 κ k0 n2 n4 r3 n7 r6 n11 P14 b16 n18 r17 n21 r20 r23 hpre_0 hpre_1 hpre_2 hpre_6 hr1 hr3_0_0 hr3_0_1 hr3_1_0 hr3_1_1 c5 hr6_0_0 hr6_0_1 hr6_1_0 hr6_1_1 c8 kc15 hr10_4_0 hr10_4_1 hr10_4_2 hr17_0_0 hr17_0_1 hr17_1_0 hr17_1_1 c19 hr20_0_0 hr20_0_1 hr20_1_0 hr20_1_1 c22 hr23_1)⟩ ⟨(vX6_member_40 κ k0 n2 n4 r3 n7 r6 n11 P14 b16 n18 r17 n21 r20 r23 hpre_0 hpre_1 hpre_2 hpre_6 hr1 hr3_0_0 hr3_0_1 hr3_1_0 hr3_1_1 c5 hr6_0_0 hr6_0_1 hr6_1_0 hr6_1_1 c8 kc15 hr10_4_0 hr10_4_1 hr10_4_2 hr17_0_0 hr17_0_1 hr17_1_0 hr17_1_1 c19 hr20_0_0 hr20_0_1 hr20_1_0 hr20_1_1 c22 hr23_1), (vX6_member_41 κ k0 n2 n4 r3 n7 r6 n11 P14 b16 n18 r17 n21 r20 r23 hpre_0 hpre_1 hpre_2 hpre_6 hr1 hr3_0_0 hr3_0_1 hr3_1_0 hr3_1_1 c5 hr6_0_0 hr6_0_1 hr6_1_0 hr6_1_1 c8 kc15 hr10_4_0 hr10_4_1 hr10_4_2 hr17_0_0 hr17_0_1 hr17_1_0 hr17_1_1 c19 hr20_0_0 hr20_0_1 hr20_1_0 hr20_1_1 c22 hr23_1)⟩ dX6_member_107
          · have c22 : ¬ r20.toInt = 0 := by have h := z_ne c22; rw [show (0 : Int32).toInt = 0 from by decide +kernel] at h; exact h
            refine lq_aload_n C.x C.b dX6_member_90 rfl (lv_at hl 4 rfl) ?_
            refine lv_iload_n C.x C.b dX6_member_91 rfl (lv_at hl 2 rfl) ?_
            refine lv_aload C.x C.b dX6_member_92 (lv_at hl 1 rfl) ?_
            refine lv_aloadN C.x C.b dX6_member_94 (lv_at hl 0 rfl) ?_
            refine c_callSq (C2 := "") (b := 0) (n := 4) (As := [va_rf k0, .int r1, .ref b16, .null]) (rest := []) C hP hS hl.1 (NX5_ofCall l D cy ad A sz0 sa (tI (tI (tP (tI (tI (tI (tI (tI (tI κ 3 n2) 3 n4) 3 n7) 3 n11) 4 n12) 5 n13) P14) 3 n18) 3 n21) H.size (SLT H) C.f (fun q h => C.a q (Nat.le_trans hS.1 h)) k0 r1 (some b16) none (hr10_0.nt ht0 (by decide)) (nt_s hb16) nt_n hr10_1) ⟨cw_651, cw_555, by decide +kernel⟩ ⟨cw_652, cw_415⟩ rfl rfl (lv_room (Nat.le_of_ble_eq_true rfl)) ⟨(vX6_member_7 d ), (vX6_member_42 d )⟩ ⟨(vX6_member_43 κ k0 n2 n4 r3 n7 r6 n11 P14 b16 n18 r17 n21 r20 hpre_0 hpre_1 hpre_2 hpre_6 hr1 hr3_0_0 hr3_0_1 hr3_1_0 hr3_1_1 c5 hr6_0_0 hr6_0_1 hr6_1_0 hr6_1_1 c8 kc15 hr10_4_0 hr10_4_1 hr10_4_2 hr17_0_0 hr17_0_1 hr17_1_0 hr17_1_1 c19 hr20_0_0 hr20_0_1 hr20_1_0 hr20_1_1 c22), (vX6_member_44 κ k0 n2 n4 r3 n7 r6 n11 P14 b16 n18 r17 n21 r20 hpre_0 hpre_1 hpre_2 hpre_6 hr1 hr3_0_0 hr3_0_1 hr3_1_0 hr3_1_1 c5 hr6_0_0 hr6_0_1 hr6_1_0 hr6_1_1 c8 kc15 hr10_4_0 hr10_4_1 hr10_4_2 hr17_0_0 hr17_0_1 hr17_1_0 hr17_1_1 c19 hr20_0_0 hr20_0_1 hr20_1_0 hr20_1_1 c22)⟩ dX6_member_96 (fun r26 u H locs hr26 hP hS => ?_)
            obtain ⟨P27, rfl⟩ : ∃ z, z = u := ⟨_, rfl⟩
            have hP : CH D cy ad A (tP (tI (tI (tP (tI (tI (tI (tI (tI (tI κ 3 n2) 3 n4) 3 n7) 3 n11) 4 n12) 5 n13) P14) 3 n18) 3 n21) P27) H := hP
            obtain ⟨hr26, hr26y⟩ := hr26
            have hr26y : oI P27 2 (r26.getD 0) = (5 : Int32) ∧ oI P27 5 (r26.getD 0) = 0 := hr26y
            have hr26 : (EX P14 P27) ∧ (PV sa P27) ∧ (NN P27 2 r26) ∧ (cto P27 r26 = 1 + cto P14 k0 + cto P14 (some b16) + cto P14 none) := hr26
            obtain ⟨hr26_0, hr26_1, hr26_2, hr26_3⟩ := hr26
            have kc28 : cto P27 k0 = cto P14 k0 := hr26_0.ct (hr10_0.nt ht0 (by decide)) (by decide)
            have kc29 : cto P27 (some b16) = cto P14 (some b16) := hr26_0.ct (nt_s hb16) (by decide)
            obtain ⟨b30, rfl, tb30⟩ := hr26_2
            obtain ⟨hr26y_0, hr26y_1⟩ := hr26y
            have svz31 : SV ad P27 (κ.2.1 0) (κ.2.1 1) (κ.2.2.2.1 6) (κ.2.2.2.1 7) (κ.2.2.2.1 8) (κ.2.2.2.1 13) (κ.2.2.2.1 15) (κ.2.2.2.1 17) (κ.1 1).toInt := hr10_2.ex hr26_0
            refine lv_goto (tgt := 107) C.x C.b dX6_member_99 (by decide) ?_
            have hP : CH D cy ad A (tP (tI (tI (tI κ 3 n21) 4 n12) 5 n13) P27) H := CH.cong hP rfl rfl rfl rfl rfl rfl rfl rfl rfl rfl rfl rfl rfl rfl rfl rfl rfl rfl rfl rfl rfl rfl rfl rfl rfl rfl rfl
            exact c_retq (v := (some b30)) (Or.inl ⟨_, rfl⟩) C hsz hsl ⟨n21, n12, n13, P27⟩ ⟨⟨(hr10_0.trans hr26_0), hr26_1, svz31, (nt_s tb30), (vX6_member_45 κ k0 n2 n4 r3 n7 r6 n11 P14 b16 n18 r17 n21 r20 P27 b30 hpre_0 hpre_1 hpre_2 hpre_6 hr1 hr3_0_0 hr3_0_1 hr3_1_0 hr3_1_1 c5 hr6_0_0 hr6_0_1 hr6_1_0 hr6_1_1 c8 kc15 hr10_4_0 hr10_4_1 hr10_4_2 hr17_0_0 hr17_0_1 hr17_1_0 hr17_1_1 c19 hr20_0_0 hr20_0_1 hr20_1_0 hr20_1_1 c22 kc28 kc29 hr26_3)⟩, (vX6_member_46 κ k0 k1 d n2 r1 n4 r3 n7 r6 x9 n11 n12 n13 P14 b16 n18 r17 n21 r20 P27 b30 hpre_0 hpre_1 hpre_2 hpre_3 hpre_4 hpre_5 hpre_6 hr1y hr1 hr3y_0 hr3y_1 hr3_0_0 hr3_0_1 hr3_1_0 hr3_1_1 c5 hr6y_0 hr6y_1 hr6_0_0 hr6_0_1 hr6_1_0 hr6_1_1 c8 ex9 tx9 kc15 hr10y hr10_4_0 hr10_4_1 hr10_4_2 hr17y_0 hr17y_1 hr17_0_0 hr17_0_1 hr17_1_0 hr17_1_1 c19 hr20y_0 hr20y_1 hr20_0_0 hr20_0_1 hr20_1_0 hr20_1_1 c22 kc28 kc29 hr26y_0 hr26y_1 hr26_3)⟩ hP hS ⟨(vX6_member_47 κ k0 n2 n4 r3 n7 r6 n11 P14 b16 n18 r17 n21 r20 P27 b30 hpre_0 hpre_1 hpre_2 hpre_6 hr1 hr3_0_0 hr3_0_1 hr3_1_0 hr3_1_1 c5 hr6_0_0 hr6_0_1 hr6_1_0 hr6_1_1 c8 kc15 hr10_4_0 hr10_4_1 hr10_4_2 hr17_0_0 hr17_0_1 hr17_1_0 hr17_1_1 c19 hr20_0_0 hr20_0_1 hr20_1_0 hr20_1_1 c22 kc28 kc29 hr26_3), (vX6_member_48 κ k0 n2 n4 r3 n7 r6 n11 P14 b16 n18 r17 n21 r20 P27 b30 hpre_0 hpre_1 hpre_2 hpre_6 hr1 hr3_0_0 hr3_0_1 hr3_1_0 hr3_1_1 c5 hr6_0_0 hr6_0_1 hr6_1_0 hr6_1_1 c8 kc15 hr10_4_0 hr10_4_1 hr10_4_2 hr17_0_0 hr17_0_1 hr17_1_0 hr17_1_1 c19 hr20_0_0 hr20_0_1 hr20_1_0 hr20_1_1 c22 kc28 kc29 hr26_3)⟩ ⟨(vX6_member_49 κ k0 n2 n4 r3 n7 r6 n11 P14 b16 n18 r17 n21 r20 P27 b30 hpre_0 hpre_1 hpre_2 hpre_6 hr1 hr3_0_0 hr3_0_1 hr3_1_0 hr3_1_1 c5 hr6_0_0 hr6_0_1 hr6_1_0 hr6_1_1 c8 kc15 hr10_4_0 hr10_4_1 hr10_4_2 hr17_0_0 hr17_0_1 hr17_1_0 hr17_1_1 c19 hr20_0_0 hr20_0_1 hr20_1_0 hr20_1_1 c22 kc28 kc29 hr26_3), (vX6_member_50 κ k0 n2 n4 r3 n7 r6 n11 P14 b16 n18 r17 n21 r20 P27 b30 hpre_0 hpre_1 hpre_2 hpre_6 hr1 hr3_0_0 hr3_0_1 hr3_1_0 hr3_1_1 c5 hr6_0_0 hr6_0_1 hr6_1_0 hr6_1_1 c8 kc15 hr10_4_0 hr10_4_1 hr10_4_2 hr17_0_0 hr17_0_1 hr17_1_0 hr17_1_1 c19 hr20_0_0 hr20_0_1 hr20_1_0 hr20_1_1 c22 kc28 kc29 hr26_3)⟩ dX6_member_107
        · have c19 : ¬ r17.toInt = 0 := by have h := z_ne c19; rw [show (0 : Int32).toInt = 0 from by decide +kernel] at h; exact h
          refine lv_aload_n C.x C.b dX6_member_65 rfl (lv_at hl 3 rfl) ?_
          refine lv_iload_n C.x C.b dX6_member_66 rfl (lv_at hl 5 rfl) ?_
          refine lv_iconst (v := 1) C.x C.b dX6_member_67 (by decide +kernel) ?_
          refine lv_iadd C.x C.b dX6_member_68 ?_
          refine lv_topi (fun x32 ex32 => ?_)
          have tx32 : x32.toInt = k1.toInt + 1 := (vX6_member_51 k1 d x9 x32 hpre_3 hpre_4 hpre_5 ex9 tx9 ex32)
          refine c_callVq (n := 1) (As := [.int x32]) (rest := []) C hP hS hl.1 (IH (tI (tP (tI (tI (tI (tI (tI (tI κ 3 n2) 3 n4) 3 n7) 3 n11) 4 n12) 5 n13) P14) 3 n18) H.size (SLT H) C.f (fun q h => C.a q (Nat.le_trans hS.1 h)) x32 hr10_1 hr10_2 (vX6_member_52 κ k0 k1 d n2 n4 r3 n7 r6 x9 n11 P14 b16 n18 r17 x32 hpre_0 hpre_1 hpre_2 hpre_3 hpre_4 hpre_5 hpre_6 hr1 hr3_0_0 hr3_0_1 hr3_1_0 hr3_1_1 c5 hr6_0_0 hr6_0_1 hr6_1_0 hr6_1_1 c8 ex9 tx9 kc15 hr10_4_0 hr10_4_1 hr10_4_2 hr17_0_0 hr17_0_1 hr17_1_0 hr17_1_1 c19 ex32 tx32)) ⟨cw_579, cw_582, by decide +kernel⟩ ⟨cw_580, cw_581, cw_577⟩ rfl (hP.recvS (k := 1) (ci := 8) C.K rfl rfl) rfl rfl (lv_room (Nat.le_of_ble_eq_true rfl)) ⟨(vX6_member_16 d ), (vX6_member_17 d )⟩ ⟨(vX6_member_53 κ k0 n2 n4 r3 n7 r6 n11 P14 b16 n18 r17 hpre_0 hpre_1 hpre_2 hpre_6 hr1 hr3_0_0 hr3_0_1 hr3_1_0 hr3_1_1 c5 hr6_0_0 hr6_0_1 hr6_1_0 hr6_1_1 c8 kc15 hr10_4_0 hr10_4_1 hr10_4_2 hr17_0_0 hr17_0_1 hr17_1_0 hr17_1_1 c19), (vX6_member_54 κ k0 n2 n4 r3 n7 r6 n11 P14 b16 n18 r17 hpre_0 hpre_1 hpre_2 hpre_6 hr1 hr3_0_0 hr3_0_1 hr3_1_0 hr3_1_1 c5 hr6_0_0 hr6_0_1 hr6_1_0 hr6_1_1 c8 kc15 hr10_4_0 hr10_4_1 hr10_4_2 hr17_0_0 hr17_0_1 hr17_1_0 hr17_1_1 c19)⟩ dX6_member_69 (fun r33 u H locs hr33 hP hS => ?_)
          obtain ⟨n34, n35, n36, P37⟩ := u
          have hP : CH D cy ad A (tP (tI (tI (tI (tI (tP (tI (tI (tI (tI (tI (tI κ 3 n2) 3 n4) 3 n7) 3 n11) 4 n12) 5 n13) P14) 3 n18) 3 n34) 4 n35) 5 n36) P37) H := hP
          obtain ⟨hr33, hr33y⟩ := hr33
          have hr33y : LG (cT (κ.2.2.1 10) (κ.1 7)) (cT (κ.2.2.1 12) (κ.1 7)) (cT (κ.2.2.1 11) (κ.1 7)) 0 0 false x32.toInt n18.toInt P37 r33 n34.toInt n35.toInt n36.toInt := hr33y
          have hr33 : (EX P14 P37) ∧ (PV sa P37) ∧ (SV ad P37 (κ.2.1 0) (κ.2.1 1) (κ.2.2.2.1 6) (κ.2.2.2.1 7) (κ.2.2.2.1 8) (κ.2.2.2.1 13) (κ.2.2.2.1 15) (κ.2.2.2.1 17) (κ.1 1).toInt) ∧ (NT P37 2 r33) ∧ (n18.toInt ≤ n34.toInt ∧ n34.toInt ≤ (κ.1 7).toInt ∧ ((cto P37 r33 : Nat) : Int) ≤ 2 * (n34.toInt - n18.toInt)) := hr33
          obtain ⟨hr33_0, hr33_1, hr33_2, hr33_3, hr33_4⟩ := hr33
          have kc38 : cto P37 k0 = cto P14 k0 := hr33_0.ct (hr10_0.nt ht0 (by decide)) (by decide)
          have kc39 : cto P37 (some b16) = cto P14 (some b16) := hr33_0.ct (nt_s hb16) (by decide)
          obtain ⟨hr33_4_0, hr33_4_1, hr33_4_2⟩ := hr33_4
          refine lq_astore (lv' := [(5, va_rf r33), (4, .ref b16), (3, .int r1), (0, .ref (ad 1)), (1, va_rf k0), (2, .int k1)]) C.x C.b dX6_member_72 hl (by decide) (by cases r33 <;> cases k0 <;> rfl) (fun ls hl => ?_)
          refine lq_aload C.x C.b dX6_member_74 (lv_at hl 0 rfl) ?_
          cases r33 with
          | none =>
            refine lv_ifnonnullN C.x C.b dX6_member_76 ?_
            refine lv_null C.x C.b dX6_member_79 ?_
            have hP : CH D cy ad A (tP (tI (tI (tI κ 3 n34) 4 n35) 5 n36) P37) H := CH.cong hP rfl rfl rfl rfl rfl rfl rfl rfl rfl rfl rfl rfl rfl rfl rfl rfl rfl rfl rfl rfl rfl rfl rfl rfl rfl rfl rfl
            exact c_retq (v := none) (Or.inl ⟨_, rfl⟩) C hsz hsl ⟨n34, n35, n36, P37⟩ ⟨⟨(hr10_0.trans hr33_0), hr33_1, hr33_2, nt_n, (vX6_member_55 κ k0 n2 n4 r3 n7 r6 n11 P14 b16 n18 r17 n34 P37 hpre_0 hpre_1 hpre_2 hpre_6 hr1 hr3_0_0 hr3_0_1 hr3_1_0 hr3_1_1 c5 hr6_0_0 hr6_0_1 hr6_1_0 hr6_1_1 c8 kc15 hr10_4_0 hr10_4_1 hr10_4_2 hr17_0_0 hr17_0_1 hr17_1_0 hr17_1_1 c19 kc38 kc39 hr33_4_0 hr33_4_1 hr33_4_2)⟩, (vX6_member_56 κ k0 k1 d n2 r1 n4 r3 n7 r6 x9 n11 n12 n13 P14 b16 n18 r17 x32 n34 n35 n36 P37 hpre_0 hpre_1 hpre_2 hpre_3 hpre_4 hpre_5 hpre_6 hr1y hr1 hr3y_0 hr3y_1 hr3_0_0 hr3_0_1 hr3_1_0 hr3_1_1 c5 hr6y_0 hr6y_1 hr6_0_0 hr6_0_1 hr6_1_0 hr6_1_1 c8 ex9 tx9 kc15 hr10y hr10_4_0 hr10_4_1 hr10_4_2 hr17y_0 hr17y_1 hr17_0_0 hr17_0_1 hr17_1_0 hr17_1_1 c19 ex32 tx32 kc38 kc39 hr33y hr33_4_0 hr33_4_1 hr33_4_2)⟩ hP hS ⟨(vX6_member_57 κ k0 n2 n4 r3 n7 r6 n11 P14 b16 n18 r17 n34 P37 hpre_0 hpre_1 hpre_2 hpre_6 hr1 hr3_0_0 hr3_0_1 hr3_1_0 hr3_1_1 c5 hr6_0_0 hr6_0_1 hr6_1_0 hr6_1_1 c8 kc15 hr10_4_0 hr10_4_1 hr10_4_2 hr17_0_0 hr17_0_1 hr17_1_0 hr17_1_1 c19 kc38 kc39 hr33_4_0 hr33_4_1 hr33_4_2), (vX6_member_58 κ k0 n2 n4 r3 n7 r6 n11 P14 b16 n18 r17 n34 P37 hpre_0 hpre_1 hpre_2 hpre_6 hr1 hr3_0_0 hr3_0_1 hr3_1_0 hr3_1_1 c5 hr6_0_0 hr6_0_1 hr6_1_0 hr6_1_1 c8 kc15 hr10_4_0 hr10_4_1 hr10_4_2 hr17_0_0 hr17_0_1 hr17_1_0 hr17_1_1 c19 kc38 kc39 hr33_4_0 hr33_4_1 hr33_4_2)⟩ ⟨(vX6_member_59 κ k0 n2 n4 r3 n7 r6 n11 P14 b16 n18 r17 n34 P37 hpre_0 hpre_1 hpre_2 hpre_6 hr1 hr3_0_0 hr3_0_1 hr3_1_0 hr3_1_1 c5 hr6_0_0 hr6_0_1 hr6_1_0 hr6_1_1 c8 kc15 hr10_4_0 hr10_4_1 hr10_4_2 hr17_0_0 hr17_0_1 hr17_1_0 hr17_1_1 c19 kc38 kc39 hr33_4_0 hr33_4_1 hr33_4_2), (vX6_member_60 κ k0 n2 n4 r3 n7 r6 n11 P14 b16 n18 r17 n34 P37 hpre_0 hpre_1 hpre_2 hpre_6 hr1 hr3_0_0 hr3_0_1 hr3_1_0 hr3_1_1 c5 hr6_0_0 hr6_0_1 hr6_1_0 hr6_1_1 c8 kc15 hr10_4_0 hr10_4_1 hr10_4_2 hr17_0_0 hr17_0_1 hr17_1_0 hr17_1_1 c19 kc38 kc39 hr33_4_0 hr33_4_1 hr33_4_2)⟩ dX6_member_80
          | some b40 =>
            have hb40 : oT P37 b40 = 2 := hr33_3 b40 rfl
            refine lv_ifnonnull (tgt := 81) C.x C.b dX6_member_76 (by decide) ?_
            refine lv_aload_n C.x C.b dX6_member_81 rfl (lv_at hl 3 rfl) ?_
            refine lv_bipush (v := 41) C.x C.b dX6_member_82 (by decide +kernel) ?_
            refine c_callVi (n := 1) (As := [.int 41]) (rest := []) C hP hS hl.1 (NX6_takes l D cy ad A sz0 sa (tP (tI (tI (tI (tI (tP (tI (tI (tI (tI (tI (tI κ 3 n2) 3 n4) 3 n7) 3 n11) 4 n12) 5 n13) P14) 3 n18) 3 n34) 4 n35) 5 n36) P37) H.size (SLT H) C.f (fun q h => C.a q (Nat.le_trans hS.1 h)) (41 : Int32) (vX6_member_61 κ k0 n2 n4 r3 n7 r6 n11 P14 b16 n18 r17 n34 P37 b40 hpre_0 hpre_1 hpre_2 hpre_6 hr1 hr3_0_0 hr3_0_1 hr3_1_0 hr3_1_1 c5 hr6_0_0 hr6_0_1 hr6_1_0 hr6_1_1 c8 kc15 hr10_4_0 hr10_4_1 hr10_4_2 hr17_0_0 hr17_0_1 hr17_1_0 hr17_1_1 c19 kc38 kc39 hr33_4_0 hr33_4_1 hr33_4_2)) ⟨cw_593, cw_596, by decide +kernel⟩ ⟨cw_594, cw_595, cw_577⟩ rfl (hP.recvS (k := 1) (ci := 8) C.K rfl rfl) rfl rfl (lv_room (Nat.le_of_ble_eq_true rfl)) ⟨(vX6_member_7 d ), (vX6_member_8 d )⟩ ⟨(vX6_member_62 κ k0 n2 n4 r3 n7 r6 n11 P14 b16 n18 r17 n34 P37 b40 hpre_0 hpre_1 hpre_2 hpre_6 hr1 hr3_0_0 hr3_0_1 hr3_1_0 hr3_1_1 c5 hr6_0_0 hr6_0_1 hr6_1_0 hr6_1_1 c8 kc15 hr10_4_0 hr10_4_1 hr10_4_2 hr17_0_0 hr17_0_1 hr17_1_0 hr17_1_1 c19 kc38 kc39 hr33_4_0 hr33_4_1 hr33_4_2), (vX6_member_63 κ k0 n2 n4 r3 n7 r6 n11 P14 b16 n18 r17 n34 P37 b40 hpre_0 hpre_1 hpre_2 hpre_6 hr1 hr3_0_0 hr3_0_1 hr3_1_0 hr3_1_1 c5 hr6_0_0 hr6_0_1 hr6_1_0 hr6_1_1 c8 kc15 hr10_4_0 hr10_4_1 hr10_4_2 hr17_0_0 hr17_0_1 hr17_1_0 hr17_1_1 c19 kc38 kc39 hr33_4_0 hr33_4_1 hr33_4_2)⟩ dX6_member_84 (fun r41 u H locs hr41 hP hS => ?_)
            obtain ⟨n42, rfl⟩ : ∃ z, z = u := ⟨_, rfl⟩
            have hP : CH D cy ad A (tI (tP (tI (tI (tI (tI (tP (tI (tI (tI (tI (tI (tI κ 3 n2) 3 n4) 3 n7) 3 n11) 4 n12) 5 n13) P14) 3 n18) 3 n34) 4 n35) 5 n36) P37) 3 n42) H := hP
            obtain ⟨hr41, hr41y⟩ := hr41
            have hr41y : (r41.toInt = 0 → ¬ (cT (κ.2.2.1 10) (κ.1 7)) n34.toInt = (41 : Int32).toInt) ∧ (¬ r41.toInt = 0 → (cT (κ.2.2.1 10) (κ.1 7)) n34.toInt = (41 : Int32).toInt) := hr41y
            have hr41 : (0 ≤ r41.toInt ∧ r41.toInt ≤ 1) ∧ ((r41.toInt = 0 → n42.toInt = n34.toInt) ∧ (¬ r41.toInt = 0 → n42.toInt = n34.toInt + 1 ∧ n34.toInt < (κ.1 7).toInt)) := hr41
            obtain ⟨hr41_0, hr41_1⟩ := hr41
            obtain ⟨hr41y_0, hr41y_1⟩ := hr41y
            obtain ⟨hr41_0_0, hr41_0_1⟩ := hr41_0
            obtain ⟨hr41_1_0, hr41_1_1⟩ := hr41_1
            refine lv_if_eq (tgt := 102) C.x C.b dX6_member_87 (by decide) (fun c43 => ?_) (fun c43 => ?_)
            · have c43 : r41.toInt = 0 := by have h := z_eq c43; rw [show (0 : Int32).toInt = 0 from by decide +kernel] at h; exact h
              refine lv_aload_n C.x C.b dX6_member_102 rfl (lv_at hl 3 rfl) ?_
              refine lv_iconst (v := 2) C.x C.b dX6_member_103 (by decide +kernel) ?_
              refine c_callVq (n := 1) (As := [.int 2]) (rest := []) C hP hS hl.1 (NX6_refuse l D cy ad A sz0 sa (tI (tP (tI (tI (tI (tI (tP (tI (tI (tI (tI (tI (tI κ 3 n2) 3 n4) 3 n7) 3 n11) 4 n12) 5 n13) P14) 3 n18) 3 n34) 4 n35) 5 n36) P37) 3 n42) H.size (SLT H) C.f (fun q h => C.a q (Nat.le_trans hS.1 h)) (2 : Int32) (vX6_member_64 κ k0 n2 n4 r3 n7 r6 n11 P14 b16 n18 r17 n34 P37 b40 n42 r41 hpre_0 hpre_1 hpre_2 hpre_6 hr1 hr3_0_0 hr3_0_1 hr3_1_0 hr3_1_1 c5 hr6_0_0 hr6_0_1 hr6_1_0 hr6_1_1 c8 kc15 hr10_4_0 hr10_4_1 hr10_4_2 hr17_0_0 hr17_0_1 hr17_1_0 hr17_1_1 c19 kc38 kc39 hr33_4_0 hr33_4_1 hr33_4_2 hr41_0_0 hr41_0_1 hr41_1_0 hr41_1_1 c43)) ⟨cw_583, cw_586, by decide +kernel⟩ ⟨cw_584, cw_585, cw_577⟩ rfl (hP.recvS (k := 1) (ci := 8) C.K rfl rfl) rfl rfl (lv_room (Nat.le_of_ble_eq_true rfl)) ⟨(vX6_member_2 d ), (vX6_member_33 d )⟩ ⟨(vX6_member_65 κ k0 n2 n4 r3 n7 r6 n11 P14 b16 n18 r17 n34 P37 b40 n42 r41 hpre_0 hpre_1 hpre_2 hpre_6 hr1 hr3_0_0 hr3_0_1 hr3_1_0 hr3_1_1 c5 hr6_0_0 hr6_0_1 hr6_1_0 hr6_1_1 c8 kc15 hr10_4_0 hr10_4_1 hr10_4_2 hr17_0_0 hr17_0_1 hr17_1_0 hr17_1_1 c19 kc38 kc39 hr33_4_0 hr33_4_1 hr33_4_2 hr41_0_0 hr41_0_1 hr41_1_0 hr41_1_1 c43), (vX6_member_66 κ k0 n2 n4 r3 n7 r6 n11 P14 b16 n18 r17 n34 P37 b40 n42 r41 hpre_0 hpre_1 hpre_2 hpre_6 hr1 hr3_0_0 hr3_0_1 hr3_1_0 hr3_1_1 c5 hr6_0_0 hr6_0_1 hr6_1_0 hr6_1_1 c8 kc15 hr10_4_0 hr10_4_1 hr10_4_2 hr17_0_0 hr17_0_1 hr17_1_0 hr17_1_1 c19 kc38 kc39 hr33_4_0 hr33_4_1 hr33_4_2 hr41_0_0 hr41_0_1 hr41_1_0 hr41_1_1 c43)⟩ dX6_member_104 (fun r44 u H locs hr44 hP hS => ?_)
              obtain ⟨n45, n46⟩ := u
              have hP : CH D cy ad A (tI (tI (tI (tP (tI (tI (tI (tI (tP (tI (tI (tI (tI (tI (tI κ 3 n2) 3 n4) 3 n7) 3 n11) 4 n12) 5 n13) P14) 3 n18) 3 n34) 4 n35) 5 n36) P37) 3 n42) 4 n45) 5 n46) H := hP
              obtain ⟨hr44, hr44y⟩ := hr44
              have hr44y : r44 = (none : Option Nat) ∧ n45.toInt = (2 : Int32).toInt ∧ n46.toInt = (cT (κ.2.2.1 11) (κ.1 7)) n42.toInt := hr44y
              have hr44 : (NT P37 2 r44) ∧ (cto P37 r44 = 0) := hr44
              obtain ⟨hr44_0, hr44_1⟩ := hr44
              obtain ⟨hr44y_0, hr44y_1, hr44y_2⟩ := hr44y
              have hP : CH D cy ad A (tP (tI (tI (tI κ 3 n42) 4 n45) 5 n46) P37) H := CH.cong hP rfl rfl rfl rfl rfl rfl rfl rfl rfl rfl rfl rfl rfl rfl rfl rfl rfl rfl rfl rfl rfl rfl rfl rfl rfl rfl rfl
              exact c_retq (v := r44) (Or.inl ⟨_, rfl⟩) C hsz hsl ⟨n42, n45, n46, P37⟩ ⟨⟨(hr10_0.trans hr33_0), hr33_1, hr33_2, hr44_0, (vX6_member_67 κ k0 n2 n4 r3 n7 r6 n11 P14 b16 n18 r17 n34 P37 b40 n42 r41 r44 hpre_0 hpre_1 hpre_2 hpre_6 hr1 hr3_0_0 hr3_0_1 hr3_1_0 hr3_1_1 c5 hr6_0_0 hr6_0_1 hr6_1_0 hr6_1_1 c8 kc15 hr10_4_0 hr10_4_1 hr10_4_2 hr17_0_0 hr17_0_1 hr17_1_0 hr17_1_1 c19 kc38 kc39 hr33_4_0 hr33_4_1 hr33_4_2 hr41_0_0 hr41_0_1 hr41_1_0 hr41_1_1 c43 hr44_1)⟩, (vX6_member_68 κ k0 k1 d n2 r1 n4 r3 n7 r6 x9 n11 n12 n13 P14 b16 n18 r17 x32 n34 n35 n36 P37 b40 n42 r41 n45 n46 r44 hpre_0 hpre_1 hpre_2 hpre_3 hpre_4 hpre_5 hpre_6 hr1y hr1 hr3y_0 hr3y_1 hr3_0_0 hr3_0_1 hr3_1_0 hr3_1_1 c5 hr6y_0 hr6y_1 hr6_0_0 hr6_0_1 hr6_1_0 hr6_1_1 c8 ex9 tx9 kc15 hr10y hr10_4_0 hr10_4_1 hr10_4_2 hr17y_0 hr17y_1 hr17_0_0 hr17_0_1 hr17_1_0 hr17_1_1 c19 ex32 tx32 kc38 kc39 hr33y hr33_4_0 hr33_4_1 hr33_4_2 hr41y_0 hr41y_1 hr41_0_0 hr41_0_1 hr41_1_0 hr41_1_1 c43 hr44y_0 hr44y_1 hr44y_2 hr44_1)⟩ hP hS ⟨(vX6_member_69 κ k0 n2 n4 r3 n7 r6 n11 P14 b16 n18 r17 n34 P37 b40 n42 r41 r44 hpre_0 hpre_1 hpre_2 hpre_6 hr1 hr3_0_0 hr3_0_1 hr3_1_0 hr3_1_1 c5 hr6_0_0 hr6_0_1 hr6_1_0 hr6_1_1 c8 kc15 hr10_4_0 hr10_4_1 hr10_4_2 hr17_0_0 hr17_0_1 hr17_1_0 hr17_1_1 c19 kc38 kc39 hr33_4_0 hr33_4_1 hr33_4_2 hr41_0_0 hr41_0_1 hr41_1_0 hr41_1_1 c43 hr44_1), (vX6_member_70 κ k0 n2 n4 r3 n7 r6 n11 P14 b16 n18 r17 n34 P37 b40 n42 r41 r44 hpre_0 hpre_1 hpre_2 hpre_6 hr1 hr3_0_0 hr3_0_1 hr3_1_0 hr3_1_1 c5 hr6_0_0 hr6_0_1 hr6_1_0 hr6_1_1 c8 kc15 hr10_4_0 hr10_4_1 hr10_4_2 hr17_0_0 hr17_0_1 hr17_1_0 hr17_1_1 c19 kc38 kc39 hr33_4_0 hr33_4_1 hr33_4_2 hr41_0_0 hr41_0_1 hr41_1_0 hr41_1_1 c43 hr44_1)⟩ ⟨(vX6_member_71 κ k0 n2 n4 r3 n7 r6 n11 P14 b16 n18 r17 n34 P37 b40 n42 r41 r44 hpre_0 hpre_1 hpre_2 hpre_6 hr1 hr3_0_0 hr3_0_1 hr3_1_0 hr3_1_1 c5 hr6_0_0 hr6_0_1 hr6_1_0 hr6_1_1 c8 kc15 hr10_4_0 hr10_4_1 hr10_4_2 hr17_0_0 hr17_0_1 hr17_1_0 hr17_1_1 c19 kc38 kc39 hr33_4_0 hr33_4_1 hr33_4_2 hr41_0_0 hr41_0_1 hr41_1_0 hr41_1_1 c43 hr44_1), (vX6_member_72 κ k0 n2 n4 r3 n7 r6 n11 P14 b16 n18 r17 n34 P37 b40 n42 r41 r44 hpre_0 hpre_1 hpre_2 hpre_6 hr1 hr3_0_0 hr3_0_1 hr3_1_0 hr3_1_1 c5 hr6_0_0 hr6_0_1 hr6_1_0 hr6_1_1 c8 kc15 hr10_4_0 hr10_4_1 hr10_4_2 hr17_0_0 hr17_0_1 hr17_1_0 hr17_1_1 c19 kc38 kc39 hr33_4_0 hr33_4_1 hr33_4_2 hr41_0_0 hr41_0_1 hr41_1_0 hr41_1_1 c43 hr44_1)⟩ dX6_member_107
            · have c43 : ¬ r41.toInt = 0 := by have h := z_ne c43; rw [show (0 : Int32).toInt = 0 from by decide +kernel] at h; exact h
              refine lq_aload_n C.x C.b dX6_member_90 rfl (lv_at hl 4 rfl) ?_
              refine lv_iload_n C.x C.b dX6_member_91 rfl (lv_at hl 2 rfl) ?_
              refine lv_aload C.x C.b dX6_member_92 (lv_at hl 1 rfl) ?_
              refine lv_aload C.x C.b dX6_member_94 (lv_at hl 0 rfl) ?_
              refine c_callSq (C2 := "") (b := 0) (n := 4) (As := [va_rf k0, .int r1, .ref b16, .ref b40]) (rest := []) C hP hS hl.1 (NX5_ofCall l D cy ad A sz0 sa (tI (tP (tI (tI (tI (tI (tP (tI (tI (tI (tI (tI (tI κ 3 n2) 3 n4) 3 n7) 3 n11) 4 n12) 5 n13) P14) 3 n18) 3 n34) 4 n35) 5 n36) P37) 3 n42) H.size (SLT H) C.f (fun q h => C.a q (Nat.le_trans hS.1 h)) k0 r1 (some b16) (some b40) (hr33_0.nt (hr10_0.nt ht0 (by decide)) (by decide)) (nt_s (hr33_0.T hb16 (by decide))) (nt_s hb40) hr33_1) ⟨cw_651, cw_555, by decide +kernel⟩ ⟨cw_652, cw_415⟩ rfl rfl (lv_room (Nat.le_of_ble_eq_true rfl)) ⟨(vX6_member_7 d ), (vX6_member_42 d )⟩ ⟨(vX6_member_73 κ k0 n2 n4 r3 n7 r6 n11 P14 b16 n18 r17 n34 P37 b40 n42 r41 hpre_0 hpre_1 hpre_2 hpre_6 hr1 hr3_0_0 hr3_0_1 hr3_1_0 hr3_1_1 c5 hr6_0_0 hr6_0_1 hr6_1_0 hr6_1_1 c8 kc15 hr10_4_0 hr10_4_1 hr10_4_2 hr17_0_0 hr17_0_1 hr17_1_0 hr17_1_1 c19 kc38 kc39 hr33_4_0 hr33_4_1 hr33_4_2 hr41_0_0 hr41_0_1 hr41_1_0 hr41_1_1 c43), (vX6_member_74 κ k0 n2 n4 r3 n7 r6 n11 P14 b16 n18 r17 n34 P37 b40 n42 r41 hpre_0 hpre_1 hpre_2 hpre_6 hr1 hr3_0_0 hr3_0_1 hr3_1_0 hr3_1_1 c5 hr6_0_0 hr6_0_1 hr6_1_0 hr6_1_1 c8 kc15 hr10_4_0 hr10_4_1 hr10_4_2 hr17_0_0 hr17_0_1 hr17_1_0 hr17_1_1 c19 kc38 kc39 hr33_4_0 hr33_4_1 hr33_4_2 hr41_0_0 hr41_0_1 hr41_1_0 hr41_1_1 c43)⟩ dX6_member_96 (fun r47 u H locs hr47 hP hS => ?_)
              obtain ⟨P48, rfl⟩ : ∃ z, z = u := ⟨_, rfl⟩
              have hP : CH D cy ad A (tP (tI (tP (tI (tI (tI (tI (tP (tI (tI (tI (tI (tI (tI κ 3 n2) 3 n4) 3 n7) 3 n11) 4 n12) 5 n13) P14) 3 n18) 3 n34) 4 n35) 5 n36) P37) 3 n42) P48) H := hP
              obtain ⟨hr47, hr47y⟩ := hr47
              have hr47y : oI P48 2 (r47.getD 0) = (5 : Int32) ∧ oI P48 5 (r47.getD 0) = 0 := hr47y
              have hr47 : (EX P37 P48) ∧ (PV sa P48) ∧ (NN P48 2 r47) ∧ (cto P48 r47 = 1 + cto P37 k0 + cto P37 (some b16) + cto P37 (some b40)) := hr47
              obtain ⟨hr47_0, hr47_1, hr47_2, hr47_3⟩ := hr47
              have kc49 : cto P48 k0 = cto P37 k0 := hr47_0.ct (hr33_0.nt (hr10_0.nt ht0 (by decide)) (by decide)) (by decide)
              have kc50 : cto P48 (some b16) = cto P37 (some b16) := hr47_0.ct (nt_s (hr33_0.T hb16 (by decide))) (by decide)
              have kc51 : cto P48 (some b40) = cto P37 (some b40) := hr47_0.ct (nt_s hb40) (by decide)
              obtain ⟨b52, rfl, tb52⟩ := hr47_2
              obtain ⟨hr47y_0, hr47y_1⟩ := hr47y
              have svz53 : SV ad P48 (κ.2.1 0) (κ.2.1 1) (κ.2.2.2.1 6) (κ.2.2.2.1 7) (κ.2.2.2.1 8) (κ.2.2.2.1 13) (κ.2.2.2.1 15) (κ.2.2.2.1 17) (κ.1 1).toInt := hr33_2.ex hr47_0
              refine lv_goto (tgt := 107) C.x C.b dX6_member_99 (by decide) ?_
              have hP : CH D cy ad A (tP (tI (tI (tI κ 3 n42) 4 n35) 5 n36) P48) H := CH.cong hP rfl rfl rfl rfl rfl rfl rfl rfl rfl rfl rfl rfl rfl rfl rfl rfl rfl rfl rfl rfl rfl rfl rfl rfl rfl rfl rfl
              exact c_retq (v := (some b52)) (Or.inl ⟨_, rfl⟩) C hsz hsl ⟨n42, n35, n36, P48⟩ ⟨⟨((hr10_0.trans hr33_0).trans hr47_0), hr47_1, svz53, (nt_s tb52), (vX6_member_75 κ k0 n2 n4 r3 n7 r6 n11 P14 b16 n18 r17 n34 P37 b40 n42 r41 P48 b52 hpre_0 hpre_1 hpre_2 hpre_6 hr1 hr3_0_0 hr3_0_1 hr3_1_0 hr3_1_1 c5 hr6_0_0 hr6_0_1 hr6_1_0 hr6_1_1 c8 kc15 hr10_4_0 hr10_4_1 hr10_4_2 hr17_0_0 hr17_0_1 hr17_1_0 hr17_1_1 c19 kc38 kc39 hr33_4_0 hr33_4_1 hr33_4_2 hr41_0_0 hr41_0_1 hr41_1_0 hr41_1_1 c43 kc49 kc50 kc51 hr47_3)⟩, (vX6_member_76 κ k0 k1 d n2 r1 n4 r3 n7 r6 x9 n11 n12 n13 P14 b16 n18 r17 x32 n34 n35 n36 P37 b40 n42 r41 P48 b52 hpre_0 hpre_1 hpre_2 hpre_3 hpre_4 hpre_5 hpre_6 hr1y hr1 hr3y_0 hr3y_1 hr3_0_0 hr3_0_1 hr3_1_0 hr3_1_1 c5 hr6y_0 hr6y_1 hr6_0_0 hr6_0_1 hr6_1_0 hr6_1_1 c8 ex9 tx9 kc15 hr10y hr10_4_0 hr10_4_1 hr10_4_2 hr17y_0 hr17y_1 hr17_0_0 hr17_0_1 hr17_1_0 hr17_1_1 c19 ex32 tx32 kc38 kc39 hr33y hr33_4_0 hr33_4_1 hr33_4_2 hr41y_0 hr41y_1 hr41_0_0 hr41_0_1 hr41_1_0 hr41_1_1 c43 kc49 kc50 kc51 hr47y_0 hr47y_1 hr47_3)⟩ hP hS ⟨(vX6_member_77 κ k0 n2 n4 r3 n7 r6 n11 P14 b16 n18 r17 n34 P37 b40 n42 r41 P48 b52 hpre_0 hpre_1 hpre_2 hpre_6 hr1 hr3_0_0 hr3_0_1 hr3_1_0 hr3_1_1 c5 hr6_0_0 hr6_0_1 hr6_1_0 hr6_1_1 c8 kc15 hr10_4_0 hr10_4_1 hr10_4_2 hr17_0_0 hr17_0_1 hr17_1_0 hr17_1_1 c19 kc38 kc39 hr33_4_0 hr33_4_1 hr33_4_2 hr41_0_0 hr41_0_1 hr41_1_0 hr41_1_1 c43 kc49 kc50 kc51 hr47_3), (vX6_member_78 κ k0 n2 n4 r3 n7 r6 n11 P14 b16 n18 r17 n34 P37 b40 n42 r41 P48 b52 hpre_0 hpre_1 hpre_2 hpre_6 hr1 hr3_0_0 hr3_0_1 hr3_1_0 hr3_1_1 c5 hr6_0_0 hr6_0_1 hr6_1_0 hr6_1_1 c8 kc15 hr10_4_0 hr10_4_1 hr10_4_2 hr17_0_0 hr17_0_1 hr17_1_0 hr17_1_1 c19 kc38 kc39 hr33_4_0 hr33_4_1 hr33_4_2 hr41_0_0 hr41_0_1 hr41_1_0 hr41_1_1 c43 kc49 kc50 kc51 hr47_3)⟩ ⟨(vX6_member_79 κ k0 n2 n4 r3 n7 r6 n11 P14 b16 n18 r17 n34 P37 b40 n42 r41 P48 b52 hpre_0 hpre_1 hpre_2 hpre_6 hr1 hr3_0_0 hr3_0_1 hr3_1_0 hr3_1_1 c5 hr6_0_0 hr6_0_1 hr6_1_0 hr6_1_1 c8 kc15 hr10_4_0 hr10_4_1 hr10_4_2 hr17_0_0 hr17_0_1 hr17_1_0 hr17_1_1 c19 kc38 kc39 hr33_4_0 hr33_4_1 hr33_4_2 hr41_0_0 hr41_0_1 hr41_1_0 hr41_1_1 c43 kc49 kc50 kc51 hr47_3), (vX6_member_80 κ k0 n2 n4 r3 n7 r6 n11 P14 b16 n18 r17 n34 P37 b40 n42 r41 P48 b52 hpre_0 hpre_1 hpre_2 hpre_6 hr1 hr3_0_0 hr3_0_1 hr3_1_0 hr3_1_1 c5 hr6_0_0 hr6_0_1 hr6_1_0 hr6_1_1 c8 kc15 hr10_4_0 hr10_4_1 hr10_4_2 hr17_0_0 hr17_0_1 hr17_1_0 hr17_1_1 c19 kc38 kc39 hr33_4_0 hr33_4_1 hr33_4_2 hr41_0_0 hr41_0_1 hr41_1_0 hr41_1_1 c43 kc49 kc50 kc51 hr47_3)⟩ dX6_member_107
    · have c8 : ¬ r6.toInt = 0 := by have h := z_ne c8; rw [show (0 : Int32).toInt = 0 from by decide +kernel] at h; exact h
      refine lq_aload_n C.x C.b dX6_member_29 rfl (lv_at hl 2 rfl) ?_
      refine lv_iload_n C.x C.b dX6_member_30 rfl (lv_at hl 0 rfl) ?_
      refine lv_null C.x C.b dX6_member_31 ?_
      refine lv_null C.x C.b dX6_member_32 ?_
      refine c_callSq (C2 := "") (b := 0) (n := 4) (As := [va_rf k0, .int r1, .null, .null]) (rest := []) C hP hS hl.1 (NX5_ofCall l D cy ad A sz0 sa (tI (tI (tI κ 3 n2) 3 n4) 3 n7) H.size (SLT H) C.f (fun q h => C.a q (Nat.le_trans hS.1 h)) k0 r1 none none ht0 nt_n nt_n hPV) ⟨cw_651, cw_555, by decide +kernel⟩ ⟨cw_652, cw_415⟩ rfl rfl (lv_room (Nat.le_of_ble_eq_true rfl)) ⟨(vX6_member_7 d ), (vX6_member_42 d )⟩ ⟨(vX6_member_81 κ n2 n4 r3 n7 r6 hpre_0 hpre_1 hpre_2 hpre_6 hr1 hr3_0_0 hr3_0_1 hr3_1_0 hr3_1_1 c5 hr6_0_0 hr6_0_1 hr6_1_0 hr6_1_1 c8), (vX6_member_82 κ n2 n4 r3 n7 r6 hpre_0 hpre_1 hpre_2 hpre_6 hr1 hr3_0_0 hr3_0_1 hr3_1_0 hr3_1_1 c5 hr6_0_0 hr6_0_1 hr6_1_0 hr6_1_1 c8)⟩ dX6_member_33 (fun r54 u H locs hr54 hP hS => ?_)
      obtain ⟨P55, rfl⟩ : ∃ z, z = u := ⟨_, rfl⟩
      have hP : CH D cy ad A (tP (tI (tI (tI κ 3 n2) 3 n4) 3 n7) P55) H := hP
      obtain ⟨hr54, hr54y⟩ := hr54
      have hr54y : oI P55 2 (r54.getD 0) = (5 : Int32) ∧ oI P55 5 (r54.getD 0) = 0 := hr54y
      have hr54 : (EX κ.2.2.2.2 P55) ∧ (PV sa P55) ∧ (NN P55 2 r54) ∧ (cto P55 r54 = 1 + cto κ.2.2.2.2 k0 + cto κ.2.2.2.2 none + cto κ.2.2.2.2 none) := hr54
      obtain ⟨hr54_0, hr54_1, hr54_2, hr54_3⟩ := hr54
      have kc56 : cto P55 k0 = cto κ.2.2.2.2 k0 := hr54_0.ct ht0 (by decide)
      obtain ⟨b57, rfl, tb57⟩ := hr54_2
      obtain ⟨hr54y_0, hr54y_1⟩ := hr54y
      have svz58 : SV ad P55 (κ.2.1 0) (κ.2.1 1) (κ.2.2.2.1 6) (κ.2.2.2.1 7) (κ.2.2.2.1 8) (κ.2.2.2.1 13) (κ.2.2.2.1 15) (κ.2.2.2.1 17) (κ.1 1).toInt := hSV.ex hr54_0
      have hP : CH D cy ad A (tP (tI (tI (tI κ 3 n7) 4 (κ.1 4)) 5 (κ.1 5)) P55) H := CH.cong hP rfl rfl rfl rfl rfl rfl rfl rfl rfl rfl rfl rfl rfl rfl rfl rfl rfl rfl rfl rfl rfl rfl rfl rfl rfl rfl rfl
      exact c_retq (v := (some b57)) (Or.inl ⟨_, rfl⟩) C hsz hsl ⟨n7, (κ.1 4), (κ.1 5), P55⟩ ⟨⟨hr54_0, hr54_1, svz58, (nt_s tb57), (vX6_member_83 κ k0 n2 n4 r3 n7 r6 P55 b57 hpre_0 hpre_1 hpre_2 hpre_6 hr1 hr3_0_0 hr3_0_1 hr3_1_0 hr3_1_1 c5 hr6_0_0 hr6_0_1 hr6_1_0 hr6_1_1 c8 kc56 hr54_3)⟩, (vX6_member_84 κ k0 k1 d n2 r1 n4 r3 n7 r6 P55 b57 hpre_0 hpre_1 hpre_2 hpre_3 hpre_4 hpre_5 hpre_6 hr1y hr1 hr3y_0 hr3y_1 hr3_0_0 hr3_0_1 hr3_1_0 hr3_1_1 c5 hr6y_0 hr6y_1 hr6_0_0 hr6_0_1 hr6_1_0 hr6_1_1 c8 kc56 hr54y_0 hr54y_1 hr54_3)⟩ hP hS ⟨(vX6_member_85 κ n2 n4 r3 n7 r6 hpre_0 hpre_1 hpre_2 hpre_6 hr1 hr3_0_0 hr3_0_1 hr3_1_0 hr3_1_1 c5 hr6_0_0 hr6_0_1 hr6_1_0 hr6_1_1 c8), (vX6_member_86 κ n2 n4 r3 n7 r6 hpre_0 hpre_1 hpre_2 hpre_6 hr1 hr3_0_0 hr3_0_1 hr3_1_0 hr3_1_1 c5 hr6_0_0 hr6_0_1 hr6_1_0 hr6_1_1 c8)⟩ ⟨(vX6_member_87 κ n2 n4 r3 n7 r6 hpre_0 hpre_1 hpre_2 hpre_6 hr1 hr3_0_0 hr3_0_1 hr3_1_0 hr3_1_1 c5 hr6_0_0 hr6_0_1 hr6_1_0 hr6_1_1 c8), (vX6_member_88 κ n2 n4 r3 n7 r6 hpre_0 hpre_1 hpre_2 hpre_6 hr1 hr3_0_0 hr3_0_1 hr3_1_0 hr3_1_1 c5 hr6_0_0 hr6_0_1 hr6_1_0 hr6_1_1 c8)⟩ dX6_member_36
  · have c5 : r3.toInt = 0 := by have h := z_eq c5; rw [show (0 : Int32).toInt = 0 from by decide +kernel] at h; exact h
    refine lq_aload_n C.x C.b dX6_member_14 rfl (lv_at hl 2 rfl) ?_
    refine lv_iload_n C.x C.b dX6_member_15 rfl (lv_at hl 0 rfl) ?_
    refine c_callSq (C2 := "") (b := 0) (n := 2) (As := [va_rf k0, .int r1]) (rest := []) C hP hS hl.1 (NX5_ofProperty l D cy ad A sz0 sa (tI (tI κ 3 n2) 3 n4) H.size (SLT H) C.f (fun q h => C.a q (Nat.le_trans hS.1 h)) k0 r1 ht0 hPV) ⟨cw_649, cw_554, by decide +kernel⟩ ⟨cw_650, cw_415⟩ rfl rfl (lv_room (Nat.le_of_ble_eq_true rfl)) ⟨(vX6_member_7 d ), (vX6_member_89 d )⟩ ⟨(vX6_member_90 κ n2 n4 r3 hpre_0 hpre_1 hpre_2 hpre_6 hr1 hr3_0_0 hr3_0_1 hr3_1_0 hr3_1_1 c5), (vX6_member_91 κ n2 n4 r3 hpre_0 hpre_1 hpre_2 hpre_6 hr1 hr3_0_0 hr3_0_1 hr3_1_0 hr3_1_1 c5)⟩ dX6_member_16 (fun r59 u H locs hr59 hP hS => ?_)
    obtain ⟨P60, rfl⟩ : ∃ z, z = u := ⟨_, rfl⟩
    have hP : CH D cy ad A (tP (tI (tI κ 3 n2) 3 n4) P60) H := hP
    obtain ⟨hr59, hr59y⟩ := hr59
    have hr59y : oI P60 2 (r59.getD 0) = (4 : Int32) ∧ oI P60 5 (r59.getD 0) = 0 := hr59y
    have hr59 : (EX κ.2.2.2.2 P60) ∧ (PV sa P60) ∧ (NN P60 2 r59) ∧ (cto P60 r59 = 1 + cto κ.2.2.2.2 k0) := hr59
    obtain ⟨hr59_0, hr59_1, hr59_2, hr59_3⟩ := hr59
    have kc61 : cto P60 k0 = cto κ.2.2.2.2 k0 := hr59_0.ct ht0 (by decide)
    obtain ⟨b62, rfl, tb62⟩ := hr59_2
    obtain ⟨hr59y_0, hr59y_1⟩ := hr59y
    have svz63 : SV ad P60 (κ.2.1 0) (κ.2.1 1) (κ.2.2.2.1 6) (κ.2.2.2.1 7) (κ.2.2.2.1 8) (κ.2.2.2.1 13) (κ.2.2.2.1 15) (κ.2.2.2.1 17) (κ.1 1).toInt := hSV.ex hr59_0
    have hP : CH D cy ad A (tP (tI (tI (tI κ 3 n4) 4 (κ.1 4)) 5 (κ.1 5)) P60) H := CH.cong hP rfl rfl rfl rfl rfl rfl rfl rfl rfl rfl rfl rfl rfl rfl rfl rfl rfl rfl rfl rfl rfl rfl rfl rfl rfl rfl rfl
    exact c_retq (v := (some b62)) (Or.inl ⟨_, rfl⟩) C hsz hsl ⟨n4, (κ.1 4), (κ.1 5), P60⟩ ⟨⟨hr59_0, hr59_1, svz63, (nt_s tb62), (vX6_member_92 κ k0 n2 n4 r3 P60 b62 hpre_0 hpre_1 hpre_2 hpre_6 hr1 hr3_0_0 hr3_0_1 hr3_1_0 hr3_1_1 c5 kc61 hr59_3)⟩, (vX6_member_93 κ k0 k1 d n2 r1 n4 r3 P60 b62 hpre_0 hpre_1 hpre_2 hpre_3 hpre_4 hpre_5 hpre_6 hr1y hr1 hr3y_0 hr3y_1 hr3_0_0 hr3_0_1 hr3_1_0 hr3_1_1 c5 kc61 hr59y_0 hr59y_1 hr59_3)⟩ hP hS ⟨(vX6_member_94 κ n2 n4 r3 hpre_0 hpre_1 hpre_2 hpre_6 hr1 hr3_0_0 hr3_0_1 hr3_1_0 hr3_1_1 c5), (vX6_member_95 κ n2 n4 r3 hpre_0 hpre_1 hpre_2 hpre_6 hr1 hr3_0_0 hr3_0_1 hr3_1_0 hr3_1_1 c5)⟩ ⟨(vX6_member_96 κ n2 n4 r3 hpre_0 hpre_1 hpre_2 hpre_6 hr1 hr3_0_0 hr3_0_1 hr3_1_0 hr3_1_1 c5), (vX6_member_97 κ n2 n4 r3 hpre_0 hpre_1 hpre_2 hpre_6 hr1 hr3_0_0 hr3_0_1 hr3_1_0 hr3_1_1 c5)⟩ dX6_member_19

-- frames @8
theorem vX6_named_1 (d : Nat)  : 0 + 1 ≤ 16 * d + 26 := by
  first | assumption | omega | (subst_vars; omega) | trivial
-- locals @8
theorem vX6_named_2 (d : Nat)  : 8 + (2 + 11) + 0 ≤ 500 * d + 500 := by
  first | assumption | omega | (subst_vars; omega) | trivial
-- room @8
theorem vX6_named_3 (κ : KS) (hpre_0 : 0 ≤ (κ.1 3).toInt) (hpre_1 : (κ.1 3).toInt ≤ (κ.1 7).toInt) (hpre_2 : (κ.1 7).toInt ≤ 41) (hpre_6 : (κ.1 3).toInt < (κ.1 7).toInt) : 0 + 0 ≤ (2 * ((κ.1 7).toInt - (κ.1 3).toInt)).toNat := by
  first | assumption | omega | (subst_vars; omega) | trivial
-- room @8
theorem vX6_named_4 (κ : KS) (hpre_0 : 0 ≤ (κ.1 3).toInt) (hpre_1 : (κ.1 3).toInt ≤ (κ.1 7).toInt) (hpre_2 : (κ.1 7).toInt ≤ 41) (hpre_6 : (κ.1 3).toInt < (κ.1 7).toInt) : 0 + 0 ≤ (16 * ((κ.1 7).toInt - (κ.1 3).toInt)).toNat := by
  first | assumption | omega | (subst_vars; omega) | trivial
-- nw@86 @86
theorem vX6_named_5 (κ : KS) (x3 : Int32) (hpre_0 : 0 ≤ (κ.1 3).toInt) (hpre_1 : (κ.1 3).toInt ≤ (κ.1 7).toInt) (hpre_2 : (κ.1 7).toInt ≤ 41) (hpre_6 : (κ.1 3).toInt < (κ.1 7).toInt) (ex3 : x3 = (κ.1 3) + (1 : Int32)) : x3.toInt = (κ.1 3).toInt + 1 := by
  have q1 : (1 : Int32).toInt = 1 := by decide +kernel
  have w1 : (1 : Int32).toInt = 1 := by decide +kernel
  rw [ex3, z_add (by omega) (by omega)]; first | done | omega
-- frames @90
theorem vX6_named_6 (d : Nat)  : 2 + 1 ≤ 16 * d + 26 := by
  first | assumption | omega | (subst_vars; omega) | trivial
-- locals @90
theorem vX6_named_7 (d : Nat)  : 8 + (0 + 11) + 46 ≤ 500 * d + 500 := by
  first | assumption | omega | (subst_vars; omega) | trivial
-- room @90
theorem vX6_named_8 (κ : KS) (x3 : Int32) (hpre_0 : 0 ≤ (κ.1 3).toInt) (hpre_1 : (κ.1 3).toInt ≤ (κ.1 7).toInt) (hpre_2 : (κ.1 7).toInt ≤ 41) (hpre_6 : (κ.1 3).toInt < (κ.1 7).toInt) (ex3 : x3 = (κ.1 3) + (1 : Int32)) (tx3 : x3.toInt = (κ.1 3).toInt + 1) : 0 + 0 + 1 ≤ (2 * ((κ.1 7).toInt - (κ.1 3).toInt)).toNat := by
  have q1 : (1 : Int32).toInt = 1 := by decide +kernel
  first | assumption | omega | (subst_vars; omega) | trivial
-- room @90
theorem vX6_named_9 (κ : KS) (x3 : Int32) (hpre_0 : 0 ≤ (κ.1 3).toInt) (hpre_1 : (κ.1 3).toInt ≤ (κ.1 7).toInt) (hpre_2 : (κ.1 7).toInt ≤ 41) (hpre_6 : (κ.1 3).toInt < (κ.1 7).toInt) (ex3 : x3 = (κ.1 3) + (1 : Int32)) (tx3 : x3.toInt = (κ.1 3).toInt + 1) : 0 + 0 + 5 ≤ (16 * ((κ.1 7).toInt - (κ.1 3).toInt)).toNat := by
  have q1 : (1 : Int32).toInt = 1 := by decide +kernel
  first | assumption | omega | (subst_vars; omega) | trivial
-- locals @93
theorem vX6_named_10 (d : Nat)  : 8 + (1 + 11) + 46 ≤ 500 * d + 500 := by
  first | assumption | omega | (subst_vars; omega) | trivial
-- room @93
theorem vX6_named_11 (κ : KS) (x3 : Int32) (hpre_0 : 0 ≤ (κ.1 3).toInt) (hpre_1 : (κ.1 3).toInt ≤ (κ.1 7).toInt) (hpre_2 : (κ.1 7).toInt ≤ 41) (hpre_6 : (κ.1 3).toInt < (κ.1 7).toInt) (ex3 : x3 = (κ.1 3) + (1 : Int32)) (tx3 : x3.toInt = (κ.1 3).toInt + 1) : 0 + 0 + 1 + 1 ≤ (2 * ((κ.1 7).toInt - (κ.1 3).toInt)).toNat := by
  have q1 : (1 : Int32).toInt = 1 := by decide +kernel
  first | assumption | omega | (subst_vars; omega) | trivial
-- room @93
theorem vX6_named_12 (κ : KS) (x3 : Int32) (hpre_0 : 0 ≤ (κ.1 3).toInt) (hpre_1 : (κ.1 3).toInt ≤ (κ.1 7).toInt) (hpre_2 : (κ.1 7).toInt ≤ 41) (hpre_6 : (κ.1 3).toInt < (κ.1 7).toInt) (ex3 : x3 = (κ.1 3) + (1 : Int32)) (tx3 : x3.toInt = (κ.1 3).toInt + 1) : 0 + 0 + 5 + 8 ≤ (16 * ((κ.1 7).toInt - (κ.1 3).toInt)).toNat := by
  have q1 : (1 : Int32).toInt = 1 := by decide +kernel
  first | assumption | omega | (subst_vars; omega) | trivial
-- post @96
theorem vX6_named_13 (κ : KS) (x3 : Int32) (P9 : PL) (b10 : Nat) (hpre_0 : 0 ≤ (κ.1 3).toInt) (hpre_1 : (κ.1 3).toInt ≤ (κ.1 7).toInt) (hpre_2 : (κ.1 7).toInt ≤ 41) (hpre_6 : (κ.1 3).toInt < (κ.1 7).toInt) (ex3 : x3 = (κ.1 3) + (1 : Int32)) (tx3 : x3.toInt = (κ.1 3).toInt + 1) (hr8_3 : cto P9 (some b10) = 1) : (κ.1 3).toInt ≤ x3.toInt ∧ x3.toInt ≤ (κ.1 7).toInt ∧ ((cto P9 (some b10) : Nat) : Int) ≤ 2 * (x3.toInt - (κ.1 3).toInt) := by
  have q1 : (1 : Int32).toInt = 1 := by decide +kernel
  refine ⟨?_, ?_, ?_⟩ <;> first | assumption | omega | (subst_vars; omega) | trivial
-- post2 @96
theorem vX6_named_14 (κ : KS) (k0 : Int32) (d : Nat) (r1 : Int32) (x3 : Int32) (P9 : PL) (b10 : Nat) (hpre_0 : 0 ≤ (κ.1 3).toInt) (hpre_1 : (κ.1 3).toInt ≤ (κ.1 7).toInt) (hpre_2 : (κ.1 7).toInt ≤ 41) (hpre_3 : 0 ≤ k0.toInt) (hpre_4 : k0.toInt ≤ 4) (hpre_5 : 4 ≤ k0.toInt + ((d : Nat) : Int)) (hpre_6 : (κ.1 3).toInt < (κ.1 7).toInt) (hr1y : (κ.1 7).toInt ≤ 41 → r1.toInt = cT (κ.2.2.1 12) (κ.1 7) (κ.1 3).toInt) (c2_0 : r1.toInt = 291207) (ex3 : x3 = (κ.1 3) + (1 : Int32)) (tx3 : x3.toInt = (κ.1 3).toInt + 1) (hr8y_0 : oI P9 2 b10 = (1 : Int32)) (hr8y_1 : oI P9 5 b10 = 0) (hr8_3 : cto P9 (some b10) = 1) : LG (cT (κ.2.2.1 10) (κ.1 7)) (cT (κ.2.2.1 12) (κ.1 7)) (cT (κ.2.2.1 11) (κ.1 7)) 9 0 false k0.toInt (κ.1 3).toInt P9 (some b10) x3.toInt (κ.1 4).toInt (κ.1 5).toInt := by
  have q1 : (1 : Int32).toInt = 1 := by decide +kernel
  have nn := hr1y (by omega)
  exact gl_nk (by show _ ∨ _ ∨ _; omega) (by omega) (CBS_op hr8y_0 (by omega) (by omega))
-- grow @96
theorem vX6_named_15 (κ : KS) (x3 : Int32) (hpre_0 : 0 ≤ (κ.1 3).toInt) (hpre_1 : (κ.1 3).toInt ≤ (κ.1 7).toInt) (hpre_2 : (κ.1 7).toInt ≤ 41) (hpre_6 : (κ.1 3).toInt < (κ.1 7).toInt) (ex3 : x3 = (κ.1 3) + (1 : Int32)) (tx3 : x3.toInt = (κ.1 3).toInt + 1) : 0 + 0 + 1 + 1 ≤ (2 * (x3.toInt - (κ.1 3).toInt)).toNat := by
  have q1 : (1 : Int32).toInt = 1 := by decide +kernel
  first | assumption | omega | (subst_vars; omega) | trivial
-- grow @96
theorem vX6_named_16 (κ : KS) (x3 : Int32) (hpre_0 : 0 ≤ (κ.1 3).toInt) (hpre_1 : (κ.1 3).toInt ≤ (κ.1 7).toInt) (hpre_2 : (κ.1 7).toInt ≤ 41) (hpre_6 : (κ.1 3).toInt < (κ.1 7).toInt) (ex3 : x3 = (κ.1 3) + (1 : Int32)) (tx3 : x3.toInt = (κ.1 3).toInt + 1) : 0 + 0 + 5 + 8 ≤ (16 * (x3.toInt - (κ.1 3).toInt)).toNat := by
  have q1 : (1 : Int32).toInt = 1 := by decide +kernel
  first | assumption | omega | (subst_vars; omega) | trivial
-- growm @96
theorem vX6_named_17 (κ : KS) (x3 : Int32) (hpre_0 : 0 ≤ (κ.1 3).toInt) (hpre_1 : (κ.1 3).toInt ≤ (κ.1 7).toInt) (hpre_2 : (κ.1 7).toInt ≤ 41) (hpre_6 : (κ.1 3).toInt < (κ.1 7).toInt) (ex3 : x3 = (κ.1 3) + (1 : Int32)) (tx3 : x3.toInt = (κ.1 3).toInt + 1) : (2 * (x3.toInt - (κ.1 3).toInt)).toNat ≤ (2 * ((κ.1 7).toInt - (κ.1 3).toInt)).toNat := by
  have q1 : (1 : Int32).toInt = 1 := by decide +kernel
  first | assumption | omega | (subst_vars; omega) | trivial
-- growm @96
theorem vX6_named_18 (κ : KS) (x3 : Int32) (hpre_0 : 0 ≤ (κ.1 3).toInt) (hpre_1 : (κ.1 3).toInt ≤ (κ.1 7).toInt) (hpre_2 : (κ.1 7).toInt ≤ 41) (hpre_6 : (κ.1 3).toInt < (κ.1 7).toInt) (ex3 : x3 = (κ.1 3) + (1 : Int32)) (tx3 : x3.toInt = (κ.1 3).toInt + 1) : (16 * (x3.toInt - (κ.1 3).toInt)).toNat ≤ (16 * ((κ.1 7).toInt - (κ.1 3).toInt)).toNat := by
  have q1 : (1 : Int32).toInt = 1 := by decide +kernel
  first | assumption | omega | (subst_vars; omega) | trivial
-- nw@50 @50
theorem vX6_named_19 (κ : KS) (x12 : Int32) (hpre_0 : 0 ≤ (κ.1 3).toInt) (hpre_1 : (κ.1 3).toInt ≤ (κ.1 7).toInt) (hpre_2 : (κ.1 7).toInt ≤ 41) (hpre_6 : (κ.1 3).toInt < (κ.1 7).toInt) (ex12 : x12 = (κ.1 3) + (1 : Int32)) : x12.toInt = (κ.1 3).toInt + 1 := by
  have q1 : (1 : Int32).toInt = 1 := by decide +kernel
  have w1 : (1 : Int32).toInt = 1 := by decide +kernel
  rw [ex12, z_add (by omega) (by omega)]; first | done | omega
-- room @55
theorem vX6_named_20 (κ : KS) (x12 : Int32) (hpre_0 : 0 ≤ (κ.1 3).toInt) (hpre_1 : (κ.1 3).toInt ≤ (κ.1 7).toInt) (hpre_2 : (κ.1 7).toInt ≤ 41) (hpre_6 : (κ.1 3).toInt < (κ.1 7).toInt) (ex12 : x12 = (κ.1 3) + (1 : Int32)) (tx12 : x12.toInt = (κ.1 3).toInt + 1) : 0 + 0 + 1 ≤ (2 * ((κ.1 7).toInt - (κ.1 3).toInt)).toNat := by
  have q1 : (1 : Int32).toInt = 1 := by decide +kernel
  first | assumption | omega | (subst_vars; omega) | trivial
-- room @55
theorem vX6_named_21 (κ : KS) (x12 : Int32) (hpre_0 : 0 ≤ (κ.1 3).toInt) (hpre_1 : (κ.1 3).toInt ≤ (κ.1 7).toInt) (hpre_2 : (κ.1 7).toInt ≤ 41) (hpre_6 : (κ.1 3).toInt < (κ.1 7).toInt) (ex12 : x12 = (κ.1 3) + (1 : Int32)) (tx12 : x12.toInt = (κ.1 3).toInt + 1) : 0 + 0 + 5 ≤ (16 * ((κ.1 7).toInt - (κ.1 3).toInt)).toNat := by
  have q1 : (1 : Int32).toInt = 1 := by decide +kernel
  first | assumption | omega | (subst_vars; omega) | trivial
-- room @58
theorem vX6_named_22 (κ : KS) (x12 : Int32) (hpre_0 : 0 ≤ (κ.1 3).toInt) (hpre_1 : (κ.1 3).toInt ≤ (κ.1 7).toInt) (hpre_2 : (κ.1 7).toInt ≤ 41) (hpre_6 : (κ.1 3).toInt < (κ.1 7).toInt) (ex12 : x12 = (κ.1 3) + (1 : Int32)) (tx12 : x12.toInt = (κ.1 3).toInt + 1) : 0 + 0 + 1 + 1 ≤ (2 * ((κ.1 7).toInt - (κ.1 3).toInt)).toNat := by
  have q1 : (1 : Int32).toInt = 1 := by decide +kernel
  first | assumption | omega | (subst_vars; omega) | trivial
-- room @58
theorem vX6_named_23 (κ : KS) (x12 : Int32) (hpre_0 : 0 ≤ (κ.1 3).toInt) (hpre_1 : (κ.1 3).toInt ≤ (κ.1 7).toInt) (hpre_2 : (κ.1 7).toInt ≤ 41) (hpre_6 : (κ.1 3).toInt < (κ.1 7).toInt) (ex12 : x12 = (κ.1 3) + (1 : Int32)) (tx12 : x12.toInt = (κ.1 3).toInt + 1) : 0 + 0 + 5 + 8 ≤ (16 * ((κ.1 7).toInt - (κ.1 3).toInt)).toNat := by
  have q1 : (1 : Int32).toInt = 1 := by decide +kernel
  first | assumption | omega | (subst_vars; omega) | trivial
-- post @61
theorem vX6_named_24 (κ : KS) (x12 : Int32) (P18 : PL) (b19 : Nat) (hpre_0 : 0 ≤ (κ.1 3).toInt) (hpre_1 : (κ.1 3).toInt ≤ (κ.1 7).toInt) (hpre_2 : (κ.1 7).toInt ≤ 41) (hpre_6 : (κ.1 3).toInt < (κ.1 7).toInt) (ex12 : x12 = (κ.1 3) + (1 : Int32)) (tx12 : x12.toInt = (κ.1 3).toInt + 1) (hr17_3 : cto P18 (some b19) = 1) : (κ.1 3).toInt ≤ x12.toInt ∧ x12.toInt ≤ (κ.1 7).toInt ∧ ((cto P18 (some b19) : Nat) : Int) ≤ 2 * (x12.toInt - (κ.1 3).toInt) := by
  have q1 : (1 : Int32).toInt = 1 := by decide +kernel
  refine ⟨?_, ?_, ?_⟩ <;> first | assumption | omega | (subst_vars; omega) | trivial
-- post2 @61
theorem vX6_named_25 (κ : KS) (k0 : Int32) (d : Nat) (r1 : Int32) (x12 : Int32) (P18 : PL) (b19 : Nat) (hpre_0 : 0 ≤ (κ.1 3).toInt) (hpre_1 : (κ.1 3).toInt ≤ (κ.1 7).toInt) (hpre_2 : (κ.1 7).toInt ≤ 41) (hpre_3 : 0 ≤ k0.toInt) (hpre_4 : k0.toInt ≤ 4) (hpre_5 : 4 ≤ k0.toInt + ((d : Nat) : Int)) (hpre_6 : (κ.1 3).toInt < (κ.1 7).toInt) (hr1y : (κ.1 7).toInt ≤ 41 → r1.toInt = cT (κ.2.2.1 12) (κ.1 7) (κ.1 3).toInt) (c2_0 : ¬ r1.toInt = 291207) (c2_1 : r1.toInt = 407354) (ex12 : x12 = (κ.1 3) + (1 : Int32)) (tx12 : x12.toInt = (κ.1 3).toInt + 1) (hr17y_0 : oI P18 2 b19 = (1 : Int32)) (hr17y_1 : oI P18 5 b19 = 0) (hr17_3 : cto P18 (some b19) = 1) : LG (cT (κ.2.2.1 10) (κ.1 7)) (cT (κ.2.2.1 12) (κ.1 7)) (cT (κ.2.2.1 11) (κ.1 7)) 9 0 false k0.toInt (κ.1 3).toInt P18 (some b19) x12.toInt (κ.1 4).toInt (κ.1 5).toInt := by
  have q1 : (1 : Int32).toInt = 1 := by decide +kernel
  have nn := hr1y (by omega)
  exact gl_nk (by show _ ∨ _ ∨ _; omega) (by omega) (CBS_op hr17y_0 (by omega) (by omega))
-- grow @61
theorem vX6_named_26 (κ : KS) (x12 : Int32) (hpre_0 : 0 ≤ (κ.1 3).toInt) (hpre_1 : (κ.1 3).toInt ≤ (κ.1 7).toInt) (hpre_2 : (κ.1 7).toInt ≤ 41) (hpre_6 : (κ.1 3).toInt < (κ.1 7).toInt) (ex12 : x12 = (κ.1 3) + (1 : Int32)) (tx12 : x12.toInt = (κ.1 3).toInt + 1) : 0 + 0 + 1 + 1 ≤ (2 * (x12.toInt - (κ.1 3).toInt)).toNat := by
  have q1 : (1 : Int32).toInt = 1 := by decide +kernel
  first | assumption | omega | (subst_vars; omega) | trivial
-- grow @61
theorem vX6_named_27 (κ : KS) (x12 : Int32) (hpre_0 : 0 ≤ (κ.1 3).toInt) (hpre_1 : (κ.1 3).toInt ≤ (κ.1 7).toInt) (hpre_2 : (κ.1 7).toInt ≤ 41) (hpre_6 : (κ.1 3).toInt < (κ.1 7).toInt) (ex12 : x12 = (κ.1 3) + (1 : Int32)) (tx12 : x12.toInt = (κ.1 3).toInt + 1) : 0 + 0 + 5 + 8 ≤ (16 * (x12.toInt - (κ.1 3).toInt)).toNat := by
  have q1 : (1 : Int32).toInt = 1 := by decide +kernel
  first | assumption | omega | (subst_vars; omega) | trivial
-- growm @61
theorem vX6_named_28 (κ : KS) (x12 : Int32) (hpre_0 : 0 ≤ (κ.1 3).toInt) (hpre_1 : (κ.1 3).toInt ≤ (κ.1 7).toInt) (hpre_2 : (κ.1 7).toInt ≤ 41) (hpre_6 : (κ.1 3).toInt < (κ.1 7).toInt) (ex12 : x12 = (κ.1 3) + (1 : Int32)) (tx12 : x12.toInt = (κ.1 3).toInt + 1) : (2 * (x12.toInt - (κ.1 3).toInt)).toNat ≤ (2 * ((κ.1 7).toInt - (κ.1 3).toInt)).toNat := by
  have q1 : (1 : Int32).toInt = 1 := by decide +kernel
  first | assumption | omega | (subst_vars; omega) | trivial
-- growm @61
theorem vX6_named_29 (κ : KS) (x12 : Int32) (hpre_0 : 0 ≤ (κ.1 3).toInt) (hpre_1 : (κ.1 3).toInt ≤ (κ.1 7).toInt) (hpre_2 : (κ.1 7).toInt ≤ 41) (hpre_6 : (κ.1 3).toInt < (κ.1 7).toInt) (ex12 : x12 = (κ.1 3) + (1 : Int32)) (tx12 : x12.toInt = (κ.1 3).toInt + 1) : (16 * (x12.toInt - (κ.1 3).toInt)).toNat ≤ (16 * ((κ.1 7).toInt - (κ.1 3).toInt)).toNat := by
  have q1 : (1 : Int32).toInt = 1 := by decide +kernel
  first | assumption | omega | (subst_vars; omega) | trivial
-- nw@68 @68
theorem vX6_named_30 (κ : KS) (x21 : Int32) (hpre_0 : 0 ≤ (κ.1 3).toInt) (hpre_1 : (κ.1 3).toInt ≤ (κ.1 7).toInt) (hpre_2 : (κ.1 7).toInt ≤ 41) (hpre_6 : (κ.1 3).toInt < (κ.1 7).toInt) (ex21 : x21 = (κ.1 3) + (1 : Int32)) : x21.toInt = (κ.1 3).toInt + 1 := by
  have q1 : (1 : Int32).toInt = 1 := by decide +kernel
  have w1 : (1 : Int32).toInt = 1 := by decide +kernel
  rw [ex21, z_add (by omega) (by omega)]; first | done | omega
-- room @73
theorem vX6_named_31 (κ : KS) (x21 : Int32) (hpre_0 : 0 ≤ (κ.1 3).toInt) (hpre_1 : (κ.1 3).toInt ≤ (κ.1 7).toInt) (hpre_2 : (κ.1 7).toInt ≤ 41) (hpre_6 : (κ.1 3).toInt < (κ.1 7).toInt) (ex21 : x21 = (κ.1 3) + (1 : Int32)) (tx21 : x21.toInt = (κ.1 3).toInt + 1) : 0 + 0 + 1 ≤ (2 * ((κ.1 7).toInt - (κ.1 3).toInt)).toNat := by
  have q1 : (1 : Int32).toInt = 1 := by decide +kernel
  first | assumption | omega | (subst_vars; omega) | trivial
-- room @73
theorem vX6_named_32 (κ : KS) (x21 : Int32) (hpre_0 : 0 ≤ (κ.1 3).toInt) (hpre_1 : (κ.1 3).toInt ≤ (κ.1 7).toInt) (hpre_2 : (κ.1 7).toInt ≤ 41) (hpre_6 : (κ.1 3).toInt < (κ.1 7).toInt) (ex21 : x21 = (κ.1 3) + (1 : Int32)) (tx21 : x21.toInt = (κ.1 3).toInt + 1) : 0 + 0 + 5 ≤ (16 * ((κ.1 7).toInt - (κ.1 3).toInt)).toNat := by
  have q1 : (1 : Int32).toInt = 1 := by decide +kernel
  first | assumption | omega | (subst_vars; omega) | trivial
-- room @76
theorem vX6_named_33 (κ : KS) (x21 : Int32) (hpre_0 : 0 ≤ (κ.1 3).toInt) (hpre_1 : (κ.1 3).toInt ≤ (κ.1 7).toInt) (hpre_2 : (κ.1 7).toInt ≤ 41) (hpre_6 : (κ.1 3).toInt < (κ.1 7).toInt) (ex21 : x21 = (κ.1 3) + (1 : Int32)) (tx21 : x21.toInt = (κ.1 3).toInt + 1) : 0 + 0 + 1 + 1 ≤ (2 * ((κ.1 7).toInt - (κ.1 3).toInt)).toNat := by
  have q1 : (1 : Int32).toInt = 1 := by decide +kernel
  first | assumption | omega | (subst_vars; omega) | trivial
-- room @76
theorem vX6_named_34 (κ : KS) (x21 : Int32) (hpre_0 : 0 ≤ (κ.1 3).toInt) (hpre_1 : (κ.1 3).toInt ≤ (κ.1 7).toInt) (hpre_2 : (κ.1 7).toInt ≤ 41) (hpre_6 : (κ.1 3).toInt < (κ.1 7).toInt) (ex21 : x21 = (κ.1 3) + (1 : Int32)) (tx21 : x21.toInt = (κ.1 3).toInt + 1) : 0 + 0 + 5 + 8 ≤ (16 * ((κ.1 7).toInt - (κ.1 3).toInt)).toNat := by
  have q1 : (1 : Int32).toInt = 1 := by decide +kernel
  first | assumption | omega | (subst_vars; omega) | trivial
-- post @79
theorem vX6_named_35 (κ : KS) (x21 : Int32) (P27 : PL) (b28 : Nat) (hpre_0 : 0 ≤ (κ.1 3).toInt) (hpre_1 : (κ.1 3).toInt ≤ (κ.1 7).toInt) (hpre_2 : (κ.1 7).toInt ≤ 41) (hpre_6 : (κ.1 3).toInt < (κ.1 7).toInt) (ex21 : x21 = (κ.1 3) + (1 : Int32)) (tx21 : x21.toInt = (κ.1 3).toInt + 1) (hr26_3 : cto P27 (some b28) = 1) : (κ.1 3).toInt ≤ x21.toInt ∧ x21.toInt ≤ (κ.1 7).toInt ∧ ((cto P27 (some b28) : Nat) : Int) ≤ 2 * (x21.toInt - (κ.1 3).toInt) := by
  have q1 : (1 : Int32).toInt = 1 := by decide +kernel
  refine ⟨?_, ?_, ?_⟩ <;> first | assumption | omega | (subst_vars; omega) | trivial
-- post2 @79
theorem vX6_named_36 (κ : KS) (k0 : Int32) (d : Nat) (r1 : Int32) (x21 : Int32) (P27 : PL) (b28 : Nat) (hpre_0 : 0 ≤ (κ.1 3).toInt) (hpre_1 : (κ.1 3).toInt ≤ (κ.1 7).toInt) (hpre_2 : (κ.1 7).toInt ≤ 41) (hpre_3 : 0 ≤ k0.toInt) (hpre_4 : k0.toInt ≤ 4) (hpre_5 : 4 ≤ k0.toInt + ((d : Nat) : Int)) (hpre_6 : (κ.1 3).toInt < (κ.1 7).toInt) (hr1y : (κ.1 7).toInt ≤ 41 → r1.toInt = cT (κ.2.2.1 12) (κ.1 7) (κ.1 3).toInt) (c2_0 : ¬ r1.toInt = 291207) (c2_1 : ¬ r1.toInt = 407354) (c2_2 : r1.toInt = 3217595) (ex21 : x21 = (κ.1 3) + (1 : Int32)) (tx21 : x21.toInt = (κ.1 3).toInt + 1) (hr26y_0 : oI P27 2 b28 = (1 : Int32)) (hr26y_1 : oI P27 5 b28 = 0) (hr26_3 : cto P27 (some b28) = 1) : LG (cT (κ.2.2.1 10) (κ.1 7)) (cT (κ.2.2.1 12) (κ.1 7)) (cT (κ.2.2.1 11) (κ.1 7)) 9 0 false k0.toInt (κ.1 3).toInt P27 (some b28) x21.toInt (κ.1 4).toInt (κ.1 5).toInt := by
  have q1 : (1 : Int32).toInt = 1 := by decide +kernel
  have nn := hr1y (by omega)
  exact gl_nk (by show _ ∨ _ ∨ _; omega) (by omega) (CBS_op hr26y_0 (by omega) (by omega))
-- grow @79
theorem vX6_named_37 (κ : KS) (x21 : Int32) (hpre_0 : 0 ≤ (κ.1 3).toInt) (hpre_1 : (κ.1 3).toInt ≤ (κ.1 7).toInt) (hpre_2 : (κ.1 7).toInt ≤ 41) (hpre_6 : (κ.1 3).toInt < (κ.1 7).toInt) (ex21 : x21 = (κ.1 3) + (1 : Int32)) (tx21 : x21.toInt = (κ.1 3).toInt + 1) : 0 + 0 + 1 + 1 ≤ (2 * (x21.toInt - (κ.1 3).toInt)).toNat := by
  have q1 : (1 : Int32).toInt = 1 := by decide +kernel
  first | assumption | omega | (subst_vars; omega) | trivial
-- grow @79
theorem vX6_named_38 (κ : KS) (x21 : Int32) (hpre_0 : 0 ≤ (κ.1 3).toInt) (hpre_1 : (κ.1 3).toInt ≤ (κ.1 7).toInt) (hpre_2 : (κ.1 7).toInt ≤ 41) (hpre_6 : (κ.1 3).toInt < (κ.1 7).toInt) (ex21 : x21 = (κ.1 3) + (1 : Int32)) (tx21 : x21.toInt = (κ.1 3).toInt + 1) : 0 + 0 + 5 + 8 ≤ (16 * (x21.toInt - (κ.1 3).toInt)).toNat := by
  have q1 : (1 : Int32).toInt = 1 := by decide +kernel
  first | assumption | omega | (subst_vars; omega) | trivial
-- growm @79
theorem vX6_named_39 (κ : KS) (x21 : Int32) (hpre_0 : 0 ≤ (κ.1 3).toInt) (hpre_1 : (κ.1 3).toInt ≤ (κ.1 7).toInt) (hpre_2 : (κ.1 7).toInt ≤ 41) (hpre_6 : (κ.1 3).toInt < (κ.1 7).toInt) (ex21 : x21 = (κ.1 3) + (1 : Int32)) (tx21 : x21.toInt = (κ.1 3).toInt + 1) : (2 * (x21.toInt - (κ.1 3).toInt)).toNat ≤ (2 * ((κ.1 7).toInt - (κ.1 3).toInt)).toNat := by
  have q1 : (1 : Int32).toInt = 1 := by decide +kernel
  first | assumption | omega | (subst_vars; omega) | trivial
-- growm @79
theorem vX6_named_40 (κ : KS) (x21 : Int32) (hpre_0 : 0 ≤ (κ.1 3).toInt) (hpre_1 : (κ.1 3).toInt ≤ (κ.1 7).toInt) (hpre_2 : (κ.1 7).toInt ≤ 41) (hpre_6 : (κ.1 3).toInt < (κ.1 7).toInt) (ex21 : x21 = (κ.1 3) + (1 : Int32)) (tx21 : x21.toInt = (κ.1 3).toInt + 1) : (16 * (x21.toInt - (κ.1 3).toInt)).toNat ≤ (16 * ((κ.1 7).toInt - (κ.1 3).toInt)).toNat := by
  have q1 : (1 : Int32).toInt = 1 := by decide +kernel
  first | assumption | omega | (subst_vars; omega) | trivial
-- room @98
theorem vX6_named_41 (κ : KS) (hpre_0 : 0 ≤ (κ.1 3).toInt) (hpre_1 : (κ.1 3).toInt ≤ (κ.1 7).toInt) (hpre_2 : (κ.1 7).toInt ≤ 41) (hpre_6 : (κ.1 3).toInt < (κ.1 7).toInt) : 0 + 0 + 1 ≤ (2 * ((κ.1 7).toInt - (κ.1 3).toInt)).toNat := by
  first | assumption | omega | (subst_vars; omega) | trivial
-- room @98
theorem vX6_named_42 (κ : KS) (hpre_0 : 0 ≤ (κ.1 3).toInt) (hpre_1 : (κ.1 3).toInt ≤ (κ.1 7).toInt) (hpre_2 : (κ.1 7).toInt ≤ 41) (hpre_6 : (κ.1 3).toInt < (κ.1 7).toInt) : 0 + 0 + 8 ≤ (16 * ((κ.1 7).toInt - (κ.1 3).toInt)).toNat := by
  first | assumption | omega | (subst_vars; omega) | trivial
-- pre:X6_member@102 @102
theorem vX6_named_43 (κ : KS) (k0 : Int32) (d : Nat) (hpre_0 : 0 ≤ (κ.1 3).toInt) (hpre_1 : (κ.1 3).toInt ≤ (κ.1 7).toInt) (hpre_2 : (κ.1 7).toInt ≤ 41) (hpre_3 : 0 ≤ k0.toInt) (hpre_4 : k0.toInt ≤ 4) (hpre_5 : 4 ≤ k0.toInt + ((d : Nat) : Int)) (hpre_6 : (κ.1 3).toInt < (κ.1 7).toInt) : 0 ≤ (κ.1 3).toInt ∧ (κ.1 3).toInt ≤ (κ.1 7).toInt ∧ (κ.1 7).toInt ≤ 41 ∧ 0 ≤ k0.toInt ∧ k0.toInt ≤ 4 ∧ 4 ≤ k0.toInt + ((d : Nat) : Int) ∧ (κ.1 3).toInt < (κ.1 7).toInt := by
  refine ⟨?_, ?_, ?_, ?_, ?_, ?_, ?_⟩ <;> first | assumption | omega | (subst_vars; omega) | trivial
-- frames @102
theorem vX6_named_44 (d : Nat)  : 16 * d + 25 + 1 ≤ 16 * d + 26 := by
  first | assumption | omega | (subst_vars; omega) | trivial
-- locals @102
theorem vX6_named_45 (d : Nat)  : 8 + (6 + 11) + (500 * d + 470) ≤ 500 * d + 500 := by
  first | assumption | omega | (subst_vars; omega) | trivial
-- room @102
theorem vX6_named_46 (κ : KS) (hpre_0 : 0 ≤ (κ.1 3).toInt) (hpre_1 : (κ.1 3).toInt ≤ (κ.1 7).toInt) (hpre_2 : (κ.1 7).toInt ≤ 41) (hpre_6 : (κ.1 3).toInt < (κ.1 7).toInt) : 0 + 0 + 1 + ((2 * ((κ.1 7).toInt - (κ.1 3).toInt) - 1).toNat) ≤ (2 * ((κ.1 7).toInt - (κ.1 3).toInt)).toNat := by
  first | assumption | omega | (subst_vars; omega) | trivial
-- room @102
theorem vX6_named_47 (κ : KS) (hpre_0 : 0 ≤ (κ.1 3).toInt) (hpre_1 : (κ.1 3).toInt ≤ (κ.1 7).toInt) (hpre_2 : (κ.1 7).toInt ≤ 41) (hpre_6 : (κ.1 3).toInt < (κ.1 7).toInt) : 0 + 0 + 8 + ((16 * ((κ.1 7).toInt - (κ.1 3).toInt) - 8).toNat) ≤ (16 * ((κ.1 7).toInt - (κ.1 3).toInt)).toNat := by
  first | assumption | omega | (subst_vars; omega) | trivial
-- post @105
theorem vX6_named_48 (κ : KS) (P31 : PL) (b32 : Nat) (n35 : Int32) (P38 : PL) (r34 : Option Nat) (hpre_0 : 0 ≤ (κ.1 3).toInt) (hpre_1 : (κ.1 3).toInt ≤ (κ.1 7).toInt) (hpre_2 : (κ.1 7).toInt ≤ 41) (hpre_6 : (κ.1 3).toInt < (κ.1 7).toInt) (hr30_3 : cto P31 (some b32) = 1) (kc39 : cto P38 (some b32) = cto P31 (some b32)) (hr34_4_0 : (κ.1 3).toInt ≤ n35.toInt) (hr34_4_1 : n35.toInt ≤ (κ.1 7).toInt) (hr34_4_2 : (κ.1 3).toInt < n35.toInt) (hr34_4_3 : ((cto P38 r34 : Nat) : Int) + 1 ≤ ((cto P31 (some b32) : Nat) : Int) + 2 * (n35.toInt - (κ.1 3).toInt)) : (κ.1 3).toInt ≤ n35.toInt ∧ n35.toInt ≤ (κ.1 7).toInt ∧ ((cto P38 r34 : Nat) : Int) ≤ 2 * (n35.toInt - (κ.1 3).toInt) := by
  refine ⟨?_, ?_, ?_⟩ <;> first | assumption | omega | (subst_vars; omega) | trivial
-- post2 @105
theorem vX6_named_49 (κ : KS) (k0 : Int32) (d : Nat) (r1 : Int32) (P31 : PL) (b32 : Nat) (n35 : Int32) (n36 : Int32) (n37 : Int32) (P38 : PL) (r34 : Option Nat) (hpre_0 : 0 ≤ (κ.1 3).toInt) (hpre_1 : (κ.1 3).toInt ≤ (κ.1 7).toInt) (hpre_2 : (κ.1 7).toInt ≤ 41) (hpre_3 : 0 ≤ k0.toInt) (hpre_4 : k0.toInt ≤ 4) (hpre_5 : 4 ≤ k0.toInt + ((d : Nat) : Int)) (hpre_6 : (κ.1 3).toInt < (κ.1 7).toInt) (hr1y : (κ.1 7).toInt ≤ 41 → r1.toInt = cT (κ.2.2.1 12) (κ.1 7) (κ.1 3).toInt) (c2_0 : ¬ r1.toInt = 291207) (c2_1 : ¬ r1.toInt = 407354) (c2_2 : ¬ r1.toInt = 3217595) (hr30y_0 : oI P31 2 b32 = (2 : Int32)) (hr30y_1 : oI P31 5 b32 = 0) (hr30_3 : cto P31 (some b32) = 1) (kc39 : cto P38 (some b32) = cto P31 (some b32)) (hr34y : ∀ s9 : Bool, LG (cT (κ.2.2.1 10) (κ.1 7)) (cT (κ.2.2.1 12) (κ.1 7)) (cT (κ.2.2.1 11) (κ.1 7)) 10 0 s9 k0.toInt (κ.1 3).toInt P38 r34 n35.toInt n36.toInt n37.toInt) (hr34_4_0 : (κ.1 3).toInt ≤ n35.toInt) (hr34_4_1 : n35.toInt ≤ (κ.1 7).toInt) (hr34_4_2 : (κ.1 3).toInt < n35.toInt) (hr34_4_3 : ((cto P38 r34 : Nat) : Int) + 1 ≤ ((cto P31 (some b32) : Nat) : Int) + 2 * (n35.toInt - (κ.1 3).toInt)) : LG (cT (κ.2.2.1 10) (κ.1 7)) (cT (κ.2.2.1 12) (κ.1 7)) (cT (κ.2.2.1 11) (κ.1 7)) 9 0 false k0.toInt (κ.1 3).toInt P38 r34 n35.toInt n36.toInt n37.toInt := by
  have q2 : (2 : Int32).toInt = 2 := by decide +kernel
  have nn := hr1y (by omega)
  exact gl_nm (by show ¬ (_ ∨ _ ∨ _); omega) hr34y
-- grow @105
theorem vX6_named_50 (κ : KS) (P31 : PL) (b32 : Nat) (n35 : Int32) (P38 : PL) (r34 : Option Nat) (hpre_0 : 0 ≤ (κ.1 3).toInt) (hpre_1 : (κ.1 3).toInt ≤ (κ.1 7).toInt) (hpre_2 : (κ.1 7).toInt ≤ 41) (hpre_6 : (κ.1 3).toInt < (κ.1 7).toInt) (hr30_3 : cto P31 (some b32) = 1) (kc39 : cto P38 (some b32) = cto P31 (some b32)) (hr34_4_0 : (κ.1 3).toInt ≤ n35.toInt) (hr34_4_1 : n35.toInt ≤ (κ.1 7).toInt) (hr34_4_2 : (κ.1 3).toInt < n35.toInt) (hr34_4_3 : ((cto P38 r34 : Nat) : Int) + 1 ≤ ((cto P31 (some b32) : Nat) : Int) + 2 * (n35.toInt - (κ.1 3).toInt)) : 0 + 0 + 1 + ((2 * (n35.toInt - (κ.1 3).toInt) - 1).toNat) ≤ (2 * (n35.toInt - (κ.1 3).toInt)).toNat := by
  first | assumption | omega | (subst_vars; omega) | trivial
-- grow @105
theorem vX6_named_51 (κ : KS) (P31 : PL) (b32 : Nat) (n35 : Int32) (P38 : PL) (r34 : Option Nat) (hpre_0 : 0 ≤ (κ.1 3).toInt) (hpre_1 : (κ.1 3).toInt ≤ (κ.1 7).toInt) (hpre_2 : (κ.1 7).toInt ≤ 41) (hpre_6 : (κ.1 3).toInt < (κ.1 7).toInt) (hr30_3 : cto P31 (some b32) = 1) (kc39 : cto P38 (some b32) = cto P31 (some b32)) (hr34_4_0 : (κ.1 3).toInt ≤ n35.toInt) (hr34_4_1 : n35.toInt ≤ (κ.1 7).toInt) (hr34_4_2 : (κ.1 3).toInt < n35.toInt) (hr34_4_3 : ((cto P38 r34 : Nat) : Int) + 1 ≤ ((cto P31 (some b32) : Nat) : Int) + 2 * (n35.toInt - (κ.1 3).toInt)) : 0 + 0 + 8 + ((16 * (n35.toInt - (κ.1 3).toInt) - 8).toNat) ≤ (16 * (n35.toInt - (κ.1 3).toInt)).toNat := by
  first | assumption | omega | (subst_vars; omega) | trivial
-- growm @105
theorem vX6_named_52 (κ : KS) (P31 : PL) (b32 : Nat) (n35 : Int32) (P38 : PL) (r34 : Option Nat) (hpre_0 : 0 ≤ (κ.1 3).toInt) (hpre_1 : (κ.1 3).toInt ≤ (κ.1 7).toInt) (hpre_2 : (κ.1 7).toInt ≤ 41) (hpre_6 : (κ.1 3).toInt < (κ.1 7).toInt) (hr30_3 : cto P31 (some b32) = 1) (kc39 : cto P38 (some b32) = cto P31 (some b32)) (hr34_4_0 : (κ.1 3).toInt ≤ n35.toInt) (hr34_4_1 : n35.toInt ≤ (κ.1 7).toInt) (hr34_4_2 : (κ.1 3).toInt < n35.toInt) (hr34_4_3 : ((cto P38 r34 : Nat) : Int) + 1 ≤ ((cto P31 (some b32) : Nat) : Int) + 2 * (n35.toInt - (κ.1 3).toInt)) : (2 * (n35.toInt - (κ.1 3).toInt)).toNat ≤ (2 * ((κ.1 7).toInt - (κ.1 3).toInt)).toNat := by
  first | assumption | omega | (subst_vars; omega) | trivial
-- growm @105
theorem vX6_named_53 (κ : KS) (P31 : PL) (b32 : Nat) (n35 : Int32) (P38 : PL) (r34 : Option Nat) (hpre_0 : 0 ≤ (κ.1 3).toInt) (hpre_1 : (κ.1 3).toInt ≤ (κ.1 7).toInt) (hpre_2 : (κ.1 7).toInt ≤ 41) (hpre_6 : (κ.1 3).toInt < (κ.1 7).toInt) (hr30_3 : cto P31 (some b32) = 1) (kc39 : cto P38 (some b32) = cto P31 (some b32)) (hr34_4_0 : (κ.1 3).toInt ≤ n35.toInt) (hr34_4_1 : n35.toInt ≤ (κ.1 7).toInt) (hr34_4_2 : (κ.1 3).toInt < n35.toInt) (hr34_4_3 : ((cto P38 r34 : Nat) : Int) + 1 ≤ ((cto P31 (some b32) : Nat) : Int) + 2 * (n35.toInt - (κ.1 3).toInt)) : (16 * (n35.toInt - (κ.1 3).toInt)).toNat ≤ (16 * ((κ.1 7).toInt - (κ.1 3).toInt)).toNat := by
  first | assumption | omega | (subst_vars; omega) | trivial
set_option maxHeartbeats 4000000 in
set_option maxRecDepth 100000 in
theorem NX6_named (l : Launch) (D : va_G) (cy : Nat → ClassId) (ad : Nat → Nat) (A : Nat → Prop) (sz0 : Nat) (sa : Nat → Nat) (d : Nat) (IH : KX6_choice l D cy ad A sz0 sa d) (κ : KS) (sz sl : Nat) (hAF : ∀ q, A q → Fr sz0 q) (hAn : ∀ q : Nat, sz ≤ q → A q) (k0 : Int32) (hPV : PV sa κ.2.2.2.2) (hSV : SV ad κ.2.2.2.2 (κ.2.1 0) (κ.2.1 1) (κ.2.2.2.1 6) (κ.2.2.2.1 7) (κ.2.2.2.1 8) (κ.2.2.2.1 13) (κ.2.2.2.1 15) (κ.2.2.2.1 17) (κ.1 1).toInt) (hpre : 0 ≤ (κ.1 3).toInt ∧ (κ.1 3).toInt ≤ (κ.1 7).toInt ∧ (κ.1 7).toInt ≤ 41 ∧ 0 ≤ k0.toInt ∧ k0.toInt ≤ 4 ∧ 4 ≤ k0.toInt + ((d : Nat) : Int) ∧ (κ.1 3).toInt < (κ.1 7).toInt) : Met l yX6_named (Cond.code yX6_named cX6_named 2 (some (.object "PhraseDesk$Node")) :: GWc) ({ frames := 16 * d + 26, cells := (2 * ((κ.1 7).toInt - (κ.1 3).toInt)).toNat, slots := (16 * ((κ.1 7).toInt - (κ.1 3).toInt)).toNat, locals := 500 * d + 500 }) (PcC D cy ad A sz0 sa [.ref (ad 1), .int k0] κ sz sl) (va_Qq (fun (r : Option Nat) (u : Int32 × Int32 × Int32 × PL) => ((EX κ.2.2.2.2 u.2.2.2) ∧ (PV sa u.2.2.2) ∧ (SV ad u.2.2.2 (κ.2.1 0) (κ.2.1 1) (κ.2.2.2.1 6) (κ.2.2.2.1 7) (κ.2.2.2.1 8) (κ.2.2.2.1 13) (κ.2.2.2.1 15) (κ.2.2.2.1 17) (κ.1 1).toInt) ∧ (NT u.2.2.2 2 r) ∧ ((κ.1 3).toInt ≤ u.1.toInt ∧ u.1.toInt ≤ (κ.1 7).toInt ∧ ((cto u.2.2.2 r : Nat) : Int) ≤ 2 * (u.1.toInt - (κ.1 3).toInt))) ∧ (LG (cT (κ.2.2.1 10) (κ.1 7)) (cT (κ.2.2.1 12) (κ.1 7)) (cT (κ.2.2.1 11) (κ.1 7)) 9 0 false k0.toInt (κ.1 3).toInt u.2.2.2 r u.1.toInt u.2.1.toInt u.2.2.1.toInt)) (fun (u : Int32 × Int32 × Int32 × PL) (t : State) => Bx D cy ad A sz sl (tP (tI (tI (tI κ 3 u.1) 4 u.2.1) 5 u.2.2.1) u.2.2.2) ((2 * (u.1.toInt - (κ.1 3).toInt)).toNat) ((16 * (u.1.toInt - (κ.1 3).toInt)).toNat) t) A) ((2 * ((κ.1 7).toInt - (κ.1 3).toInt)).toNat) ((16 * ((κ.1 7).toInt - (κ.1 3).toInt)).toNat) A := by
  refine CM_of (loc0 := [(0, .ref (ad 1)), (1, .int k0)]) (own := RX6) (nm := "named") (by decide) rfl rfl rfl (Nat.le_of_ble_eq_true rfl) hAF hAn ?_
  intro p e s m below meth c ls hsz hsl C hP hS hl
  obtain ⟨hpre_0, hpre_1, hpre_2, hpre_3, hpre_4, hpre_5, hpre_6⟩ := hpre
  refine lv_aload_n C.x C.b dX6_named_0 rfl (lv_at hl 0 rfl) ?_
  refine cg_X6_0 C hP cw_563 dX6_named_1 ?_
  refine lv_aload_n C.x C.b dX6_named_4 rfl (lv_at hl 0 rfl) ?_
  refine cg_X6_1 (v := (κ.1 3)) C hP rfl cw_567 dX6_named_5 ?_
  refine c_callVi (n := 1) (As := [.int (κ.1 3)]) (rest := []) C hP hS hl.1 (NX4_nameAt l D cy ad A sz0 sa κ s.heap.size (SLT s.heap) C.f (fun q h => C.a q (Nat.le_trans hS.1 h)) (κ.1 3) ) ⟨cw_630, cw_478, by decide +kernel⟩ ⟨cw_631, cw_632, cw_484⟩ rfl (hP.recvS (k := 2) (ci := 6) C.K rfl rfl) rfl rfl (lv_room (Nat.le_of_ble_eq_true rfl)) ⟨(vX6_named_1 d ), (vX6_named_2 d )⟩ ⟨(vX6_named_3 κ hpre_0 hpre_1 hpre_2 hpre_6), (vX6_named_4 κ hpre_0 hpre_1 hpre_2 hpre_6)⟩ dX6_named_8 (fun r1 u H locs hr1 hP hS => ?_)
  obtain ⟨hr1, hr1y⟩ := hr1
  have hr1y : (κ.1 7).toInt ≤ 41 → r1.toInt = cT (κ.2.2.1 12) (κ.1 7) (κ.1 3).toInt := hr1y
  have hr1 : True := hr1
  by_cases c2_0 : r1.toInt = 291207
  · refine lv_lookup (off := 69) (tgt := 80) C.x C.b dX6_named_11 (by decide) (by rw [c2_0]; decide) (by decide) ?_
    refine lv_aload_n C.x C.b dX6_named_80 rfl (lv_at hl 0 rfl) ?_
    refine lv_dup C.x C.b dX6_named_81 rfl ?_
    refine cg_X6_1 (v := (κ.1 3)) C hP rfl cw_567 dX6_named_82 ?_
    refine lv_iconst (v := 1) C.x C.b dX6_named_85 (by decide +kernel) ?_
    refine lv_iadd C.x C.b dX6_named_86 ?_
    refine lv_topi (fun x3 ex3 => ?_)
    have tx3 : x3.toInt = (κ.1 3).toInt + 1 := (vX6_named_5 κ x3 hpre_0 hpre_1 hpre_2 hpre_6 ex3)
    refine cp_X6_1 (v := x3) C hP hS cw_567 dX6_named_87 (fun H locs hP hS => ?_)
    refine c_callSq (C2 := "") (b := 0) (n := 0) (As := []) (rest := []) C hP hS hl.1 (NX10_ofNull l D cy ad A sz0 sa (tI κ 3 x3) H.size (SLT H) C.f (fun q h => C.a q (Nat.le_trans hS.1 h))  hPV) ⟨cw_655, cw_657, by decide +kernel⟩ ⟨cw_656, cw_40⟩ rfl rfl (lv_room (Nat.le_of_ble_eq_true rfl)) ⟨(vX6_named_6 d ), (vX6_named_7 d )⟩ ⟨(vX6_named_8 κ x3 hpre_0 hpre_1 hpre_2 hpre_6 ex3 tx3), (vX6_named_9 κ x3 hpre_0 hpre_1 hpre_2 hpre_6 ex3 tx3)⟩ dX6_named_90 (fun r4 u H locs hr4 hP hS => ?_)
    obtain ⟨P5, rfl⟩ : ∃ z, z = u := ⟨_, rfl⟩
    have hP : CH D cy ad A (tP (tI κ 3 x3) P5) H := hP
    have hr4 : (EX κ.2.2.2.2 P5) ∧ (PV sa P5) ∧ (NN P5 1 r4) := hr4
    obtain ⟨hr4_0, hr4_1, hr4_2⟩ := hr4
    obtain ⟨b6, rfl, tb6⟩ := hr4_2
    have svz7 : SV ad P5 (κ.2.1 0) (κ.2.1 1) (κ.2.2.2.1 6) (κ.2.2.2.1 7) (κ.2.2.2.1 8) (κ.2.2.2.1 13) (κ.2.2.2.1 15) (κ.2.2.2.1 17) (κ.1 1).toInt := hSV.ex hr4_0
    refine c_callSq (C2 := "") (b := 0) (n := 1) (As := [.ref b6]) (rest := []) C hP hS hl.1 (NX5_ofLiteral l D cy ad A sz0 sa (tP (tI κ 3 x3) P5) H.size (SLT H) C.f (fun q h => C.a q (Nat.le_trans hS.1 h)) (some b6) (nt_s tb6) hr4_1) ⟨cw_624, cw_547, by decide +kernel⟩ ⟨cw_625, cw_415⟩ rfl rfl (lv_room (Nat.le_of_ble_eq_true rfl)) ⟨(vX6_named_6 d ), (vX6_named_10 d )⟩ ⟨(vX6_named_11 κ x3 hpre_0 hpre_1 hpre_2 hpre_6 ex3 tx3), (vX6_named_12 κ x3 hpre_0 hpre_1 hpre_2 hpre_6 ex3 tx3)⟩ dX6_named_93 (fun r8 u H locs hr8 hP hS => ?_)
    obtain ⟨P9, rfl⟩ : ∃ z, z = u := ⟨_, rfl⟩
    have hP : CH D cy ad A (tP (tP (tI κ 3 x3) P5) P9) H := hP
    obtain ⟨hr8, hr8y⟩ := hr8
    have hr8y : oI P9 2 (r8.getD 0) = (1 : Int32) ∧ oI P9 5 (r8.getD 0) = 0 := hr8y
    have hr8 : (EX P5 P9) ∧ (PV sa P9) ∧ (NN P9 2 r8) ∧ (cto P9 r8 = 1) := hr8
    obtain ⟨hr8_0, hr8_1, hr8_2, hr8_3⟩ := hr8
    obtain ⟨b10, rfl, tb10⟩ := hr8_2
    obtain ⟨hr8y_0, hr8y_1⟩ := hr8y
    have svz11 : SV ad P9 (κ.2.1 0) (κ.2.1 1) (κ.2.2.2.1 6) (κ.2.2.2.1 7) (κ.2.2.2.1 8) (κ.2.2.2.1 13) (κ.2.2.2.1 15) (κ.2.2.2.1 17) (κ.1 1).toInt := svz7.ex hr8_0
    have hP : CH D cy ad A (tP (tI (tI (tI κ 3 x3) 4 (κ.1 4)) 5 (κ.1 5)) P9) H := CH.cong hP rfl rfl rfl rfl rfl rfl rfl rfl rfl rfl rfl rfl rfl rfl rfl rfl rfl rfl rfl rfl rfl rfl rfl rfl rfl rfl rfl
    exact c_retq (v := (some b10)) (Or.inl ⟨_, rfl⟩) C hsz hsl ⟨x3, (κ.1 4), (κ.1 5), P9⟩ ⟨⟨(hr4_0.trans hr8_0), hr8_1, svz11, (nt_s tb10), (vX6_named_13 κ x3 P9 b10 hpre_0 hpre_1 hpre_2 hpre_6 ex3 tx3 hr8_3)⟩, (vX6_named_14 κ k0 d r1 x3 P9 b10 hpre_0 hpre_1 hpre_2 hpre_3 hpre_4 hpre_5 hpre_6 hr1y c2_0 ex3 tx3 hr8y_0 hr8y_1 hr8_3)⟩ hP hS ⟨(vX6_named_15 κ x3 hpre_0 hpre_1 hpre_2 hpre_6 ex3 tx3), (vX6_named_16 κ x3 hpre_0 hpre_1 hpre_2 hpre_6 ex3 tx3)⟩ ⟨(vX6_named_17 κ x3 hpre_0 hpre_1 hpre_2 hpre_6 ex3 tx3), (vX6_named_18 κ x3 hpre_0 hpre_1 hpre_2 hpre_6 ex3 tx3)⟩ dX6_named_96
  · by_cases c2_1 : r1.toInt = 407354
    · refine lv_lookup (off := 33) (tgt := 44) C.x C.b dX6_named_11 (by decide) (by rw [c2_1]; decide) (by decide) ?_
      refine lv_aload_n C.x C.b dX6_named_44 rfl (lv_at hl 0 rfl) ?_
      refine lv_dup C.x C.b dX6_named_45 rfl ?_
      refine cg_X6_1 (v := (κ.1 3)) C hP rfl cw_567 dX6_named_46 ?_
      refine lv_iconst (v := 1) C.x C.b dX6_named_49 (by decide +kernel) ?_
      refine lv_iadd C.x C.b dX6_named_50 ?_
      refine lv_topi (fun x12 ex12 => ?_)
      have tx12 : x12.toInt = (κ.1 3).toInt + 1 := (vX6_named_19 κ x12 hpre_0 hpre_1 hpre_2 hpre_6 ex12)
      refine cp_X6_1 (v := x12) C hP hS cw_567 dX6_named_51 (fun H locs hP hS => ?_)
      refine lv_iconst (v := 1) C.x C.b dX6_named_54 (by decide +kernel) ?_
      refine c_callSq (C2 := "") (b := 0) (n := 1) (As := [.int 1]) (rest := []) C hP hS hl.1 (NX10_ofBool l D cy ad A sz0 sa (tI κ 3 x12) H.size (SLT H) C.f (fun q h => C.a q (Nat.le_trans hS.1 h)) (1 : Int32) hPV) ⟨cw_654, cw_82, by decide +kernel⟩ ⟨cw_81, cw_40⟩ rfl rfl (lv_room (Nat.le_of_ble_eq_true rfl)) ⟨(vX6_named_6 d ), (vX6_named_10 d )⟩ ⟨(vX6_named_20 κ x12 hpre_0 hpre_1 hpre_2 hpre_6 ex12 tx12), (vX6_named_21 κ x12 hpre_0 hpre_1 hpre_2 hpre_6 ex12 tx12)⟩ dX6_named_55 (fun r13 u H locs hr13 hP hS => ?_)
      obtain ⟨P14, rfl⟩ : ∃ z, z = u := ⟨_, rfl⟩
      have hP : CH D cy ad A (tP (tI κ 3 x12) P14) H := hP
      have hr13 : (EX κ.2.2.2.2 P14) ∧ (PV sa P14) ∧ (NN P14 1 r13) := hr13
      obtain ⟨hr13_0, hr13_1, hr13_2⟩ := hr13
      obtain ⟨b15, rfl, tb15⟩ := hr13_2
      have svz16 : SV ad P14 (κ.2.1 0) (κ.2.1 1) (κ.2.2.2.1 6) (κ.2.2.2.1 7) (κ.2.2.2.1 8) (κ.2.2.2.1 13) (κ.2.2.2.1 15) (κ.2.2.2.1 17) (κ.1 1).toInt := hSV.ex hr13_0
      refine c_callSq (C2 := "") (b := 0) (n := 1) (As := [.ref b15]) (rest := []) C hP hS hl.1 (NX5_ofLiteral l D cy ad A sz0 sa (tP (tI κ 3 x12) P14) H.size (SLT H) C.f (fun q h => C.a q (Nat.le_trans hS.1 h)) (some b15) (nt_s tb15) hr13_1) ⟨cw_624, cw_547, by decide +kernel⟩ ⟨cw_625, cw_415⟩ rfl rfl (lv_room (Nat.le_of_ble_eq_true rfl)) ⟨(vX6_named_6 d ), (vX6_named_10 d )⟩ ⟨(vX6_named_22 κ x12 hpre_0 hpre_1 hpre_2 hpre_6 ex12 tx12), (vX6_named_23 κ x12 hpre_0 hpre_1 hpre_2 hpre_6 ex12 tx12)⟩ dX6_named_58 (fun r17 u H locs hr17 hP hS => ?_)
      obtain ⟨P18, rfl⟩ : ∃ z, z = u := ⟨_, rfl⟩
      have hP : CH D cy ad A (tP (tP (tI κ 3 x12) P14) P18) H := hP
      obtain ⟨hr17, hr17y⟩ := hr17
      have hr17y : oI P18 2 (r17.getD 0) = (1 : Int32) ∧ oI P18 5 (r17.getD 0) = 0 := hr17y
      have hr17 : (EX P14 P18) ∧ (PV sa P18) ∧ (NN P18 2 r17) ∧ (cto P18 r17 = 1) := hr17
      obtain ⟨hr17_0, hr17_1, hr17_2, hr17_3⟩ := hr17
      obtain ⟨b19, rfl, tb19⟩ := hr17_2
      obtain ⟨hr17y_0, hr17y_1⟩ := hr17y
      have svz20 : SV ad P18 (κ.2.1 0) (κ.2.1 1) (κ.2.2.2.1 6) (κ.2.2.2.1 7) (κ.2.2.2.1 8) (κ.2.2.2.1 13) (κ.2.2.2.1 15) (κ.2.2.2.1 17) (κ.1 1).toInt := svz16.ex hr17_0
      have hP : CH D cy ad A (tP (tI (tI (tI κ 3 x12) 4 (κ.1 4)) 5 (κ.1 5)) P18) H := CH.cong hP rfl rfl rfl rfl rfl rfl rfl rfl rfl rfl rfl rfl rfl rfl rfl rfl rfl rfl rfl rfl rfl rfl rfl rfl rfl rfl rfl
      exact c_retq (v := (some b19)) (Or.inl ⟨_, rfl⟩) C hsz hsl ⟨x12, (κ.1 4), (κ.1 5), P18⟩ ⟨⟨(hr13_0.trans hr17_0), hr17_1, svz20, (nt_s tb19), (vX6_named_24 κ x12 P18 b19 hpre_0 hpre_1 hpre_2 hpre_6 ex12 tx12 hr17_3)⟩, (vX6_named_25 κ k0 d r1 x12 P18 b19 hpre_0 hpre_1 hpre_2 hpre_3 hpre_4 hpre_5 hpre_6 hr1y c2_0 c2_1 ex12 tx12 hr17y_0 hr17y_1 hr17_3)⟩ hP hS ⟨(vX6_named_26 κ x12 hpre_0 hpre_1 hpre_2 hpre_6 ex12 tx12), (vX6_named_27 κ x12 hpre_0 hpre_1 hpre_2 hpre_6 ex12 tx12)⟩ ⟨(vX6_named_28 κ x12 hpre_0 hpre_1 hpre_2 hpre_6 ex12 tx12), (vX6_named_29 κ x12 hpre_0 hpre_1 hpre_2 hpre_6 ex12 tx12)⟩ dX6_named_61
    · by_cases c2_2 : r1.toInt = 3217595
      · refine lv_lookup (off := 51) (tgt := 62) C.x C.b dX6_named_11 (by decide) (by rw [c2_2]; decide) (by decide) ?_
        refine lv_aload_n C.x C.b dX6_named_62 rfl (lv_at hl 0 rfl) ?_
        refine lv_dup C.x C.b dX6_named_63 rfl ?_
        refine cg_X6_1 (v := (κ.1 3)) C hP rfl cw_567 dX6_named_64 ?_
        refine lv_iconst (v := 1) C.x C.b dX6_named_67 (by decide +kernel) ?_
        refine lv_iadd C.x C.b dX6_named_68 ?_
        refine lv_topi (fun x21 ex21 => ?_)
        have tx21 : x21.toInt = (κ.1 3).toInt + 1 := (vX6_named_30 κ x21 hpre_0 hpre_1 hpre_2 hpre_6 ex21)
        refine cp_X6_1 (v := x21) C hP hS cw_567 dX6_named_69 (fun H locs hP hS => ?_)
        refine lv_iconst (v := 0) C.x C.b dX6_named_72 (by decide +kernel) ?_
        refine c_callSq (C2 := "") (b := 0) (n := 1) (As := [.int 0]) (rest := []) C hP hS hl.1 (NX10_ofBool l D cy ad A sz0 sa (tI κ 3 x21) H.size (SLT H) C.f (fun q h => C.a q (Nat.le_trans hS.1 h)) (0 : Int32) hPV) ⟨cw_654, cw_82, by decide +kernel⟩ ⟨cw_81, cw_40⟩ rfl rfl (lv_room (Nat.le_of_ble_eq_true rfl)) ⟨(vX6_named_6 d ), (vX6_named_10 d )⟩ ⟨(vX6_named_31 κ x21 hpre_0 hpre_1 hpre_2 hpre_6 ex21 tx21), (vX6_named_32 κ x21 hpre_0 hpre_1 hpre_2 hpre_6 ex21 tx21)⟩ dX6_named_73 (fun r22 u H locs hr22 hP hS => ?_)
        obtain ⟨P23, rfl⟩ : ∃ z, z = u := ⟨_, rfl⟩
        have hP : CH D cy ad A (tP (tI κ 3 x21) P23) H := hP
        have hr22 : (EX κ.2.2.2.2 P23) ∧ (PV sa P23) ∧ (NN P23 1 r22) := hr22
        obtain ⟨hr22_0, hr22_1, hr22_2⟩ := hr22
        obtain ⟨b24, rfl, tb24⟩ := hr22_2
        have svz25 : SV ad P23 (κ.2.1 0) (κ.2.1 1) (κ.2.2.2.1 6) (κ.2.2.2.1 7) (κ.2.2.2.1 8) (κ.2.2.2.1 13) (κ.2.2.2.1 15) (κ.2.2.2.1 17) (κ.1 1).toInt := hSV.ex hr22_0
        refine c_callSq (C2 := "") (b := 0) (n := 1) (As := [.ref b24]) (rest := []) C hP hS hl.1 (NX5_ofLiteral l D cy ad A sz0 sa (tP (tI κ 3 x21) P23) H.size (SLT H) C.f (fun q h => C.a q (Nat.le_trans hS.1 h)) (some b24) (nt_s tb24) hr22_1) ⟨cw_624, cw_547, by decide +kernel⟩ ⟨cw_625, cw_415⟩ rfl rfl (lv_room (Nat.le_of_ble_eq_true rfl)) ⟨(vX6_named_6 d ), (vX6_named_10 d )⟩ ⟨(vX6_named_33 κ x21 hpre_0 hpre_1 hpre_2 hpre_6 ex21 tx21), (vX6_named_34 κ x21 hpre_0 hpre_1 hpre_2 hpre_6 ex21 tx21)⟩ dX6_named_76 (fun r26 u H locs hr26 hP hS => ?_)
        obtain ⟨P27, rfl⟩ : ∃ z, z = u := ⟨_, rfl⟩
        have hP : CH D cy ad A (tP (tP (tI κ 3 x21) P23) P27) H := hP
        obtain ⟨hr26, hr26y⟩ := hr26
        have hr26y : oI P27 2 (r26.getD 0) = (1 : Int32) ∧ oI P27 5 (r26.getD 0) = 0 := hr26y
        have hr26 : (EX P23 P27) ∧ (PV sa P27) ∧ (NN P27 2 r26) ∧ (cto P27 r26 = 1) := hr26
        obtain ⟨hr26_0, hr26_1, hr26_2, hr26_3⟩ := hr26
        obtain ⟨b28, rfl, tb28⟩ := hr26_2
        obtain ⟨hr26y_0, hr26y_1⟩ := hr26y
        have svz29 : SV ad P27 (κ.2.1 0) (κ.2.1 1) (κ.2.2.2.1 6) (κ.2.2.2.1 7) (κ.2.2.2.1 8) (κ.2.2.2.1 13) (κ.2.2.2.1 15) (κ.2.2.2.1 17) (κ.1 1).toInt := svz25.ex hr26_0
        have hP : CH D cy ad A (tP (tI (tI (tI κ 3 x21) 4 (κ.1 4)) 5 (κ.1 5)) P27) H := CH.cong hP rfl rfl rfl rfl rfl rfl rfl rfl rfl rfl rfl rfl rfl rfl rfl rfl rfl rfl rfl rfl rfl rfl rfl rfl rfl rfl rfl
        exact c_retq (v := (some b28)) (Or.inl ⟨_, rfl⟩) C hsz hsl ⟨x21, (κ.1 4), (κ.1 5), P27⟩ ⟨⟨(hr22_0.trans hr26_0), hr26_1, svz29, (nt_s tb28), (vX6_named_35 κ x21 P27 b28 hpre_0 hpre_1 hpre_2 hpre_6 ex21 tx21 hr26_3)⟩, (vX6_named_36 κ k0 d r1 x21 P27 b28 hpre_0 hpre_1 hpre_2 hpre_3 hpre_4 hpre_5 hpre_6 hr1y c2_0 c2_1 c2_2 ex21 tx21 hr26y_0 hr26y_1 hr26_3)⟩ hP hS ⟨(vX6_named_37 κ x21 hpre_0 hpre_1 hpre_2 hpre_6 ex21 tx21), (vX6_named_38 κ x21 hpre_0 hpre_1 hpre_2 hpre_6 ex21 tx21)⟩ ⟨(vX6_named_39 κ x21 hpre_0 hpre_1 hpre_2 hpre_6 ex21 tx21), (vX6_named_40 κ x21 hpre_0 hpre_1 hpre_2 hpre_6 ex21 tx21)⟩ dX6_named_79
      · refine lv_lookup (off := 86) (tgt := 97) C.x C.b dX6_named_11 (by decide) (by simp [Op.lookupswitch.offset, c2_0, c2_1, c2_2, (show ¬ (291207 : Int) = r1.toInt from fun h9 => c2_0 h9.symm), (show ¬ (407354 : Int) = r1.toInt from fun h9 => c2_1 h9.symm), (show ¬ (3217595 : Int) = r1.toInt from fun h9 => c2_2 h9.symm)]) (by decide) ?_
        refine lv_aload_n C.x C.b dX6_named_97 rfl (lv_at hl 0 rfl) ?_
        refine c_callSq (C2 := "") (b := 0) (n := 0) (As := []) (rest := [.ref (ad 1)]) C hP hS hl.1 (NX5_ofRoot l D cy ad A sz0 sa κ H.size (SLT H) C.f (fun q h => C.a q (Nat.le_trans hS.1 h))  hPV) ⟨cw_658, cw_552, by decide +kernel⟩ ⟨cw_659, cw_415⟩ rfl rfl (lv_room (Nat.le_of_ble_eq_true rfl)) ⟨(vX6_named_6 d ), (vX6_named_7 d )⟩ ⟨(vX6_named_41 κ hpre_0 hpre_1 hpre_2 hpre_6), (vX6_named_42 κ hpre_0 hpre_1 hpre_2 hpre_6)⟩ dX6_named_98 (fun r30 u H locs hr30 hP hS => ?_)
        obtain ⟨P31, rfl⟩ : ∃ z, z = u := ⟨_, rfl⟩
        have hP : CH D cy ad A (tP κ P31) H := hP
        obtain ⟨hr30, hr30y⟩ := hr30
        have hr30y : oI P31 2 (r30.getD 0) = (2 : Int32) ∧ oI P31 5 (r30.getD 0) = 0 := hr30y
        have hr30 : (EX κ.2.2.2.2 P31) ∧ (PV sa P31) ∧ (NN P31 2 r30) ∧ (cto P31 r30 = 1) := hr30
        obtain ⟨hr30_0, hr30_1, hr30_2, hr30_3⟩ := hr30
        obtain ⟨b32, rfl, tb32⟩ := hr30_2
        obtain ⟨hr30y_0, hr30y_1⟩ := hr30y
        have svz33 : SV ad P31 (κ.2.1 0) (κ.2.1 1) (κ.2.2.2.1 6) (κ.2.2.2.1 7) (κ.2.2.2.1 8) (κ.2.2.2.1 13) (κ.2.2.2.1 15) (κ.2.2.2.1 17) (κ.1 1).toInt := hSV.ex hr30_0
        refine lv_iload_n C.x C.b dX6_named_101 rfl (lv_at hl 1 rfl) ?_
        refine c_callVq (n := 2) (As := [.ref b32, .int k0]) (rest := []) C hP hS hl.1 (NX6_member l D cy ad A sz0 sa d IH (tP κ P31) H.size (SLT H) C.f (fun q h => C.a q (Nat.le_trans hS.1 h)) (some b32) k0 (nt_s tb32) hr30_1 svz33 (vX6_named_43 κ k0 d hpre_0 hpre_1 hpre_2 hpre_3 hpre_4 hpre_5 hpre_6)) ⟨cw_616, cw_648, by decide +kernel⟩ ⟨cw_617, cw_618, cw_577⟩ rfl (hP.recvS (k := 1) (ci := 8) C.K rfl rfl) rfl rfl (lv_room (Nat.le_of_ble_eq_true rfl)) ⟨(vX6_named_44 d ), (vX6_named_45 d )⟩ ⟨(vX6_named_46 κ hpre_0 hpre_1 hpre_2 hpre_6), (vX6_named_47 κ hpre_0 hpre_1 hpre_2 hpre_6)⟩ dX6_named_102 (fun r34 u H locs hr34 hP hS => ?_)
        obtain ⟨n35, n36, n37, P38⟩ := u
        have hP : CH D cy ad A (tP (tI (tI (tI (tP κ P31) 3 n35) 4 n36) 5 n37) P38) H := hP
        obtain ⟨hr34, hr34y⟩ := hr34
        have hr34y : ∀ s9 : Bool, LG (cT (κ.2.2.1 10) (κ.1 7)) (cT (κ.2.2.1 12) (κ.1 7)) (cT (κ.2.2.1 11) (κ.1 7)) 10 0 s9 k0.toInt (κ.1 3).toInt P38 r34 n35.toInt n36.toInt n37.toInt := hr34y
        have hr34 : (EX P31 P38) ∧ (PV sa P38) ∧ (SV ad P38 (κ.2.1 0) (κ.2.1 1) (κ.2.2.2.1 6) (κ.2.2.2.1 7) (κ.2.2.2.1 8) (κ.2.2.2.1 13) (κ.2.2.2.1 15) (κ.2.2.2.1 17) (κ.1 1).toInt) ∧ (NT P38 2 r34) ∧ ((κ.1 3).toInt ≤ n35.toInt ∧ n35.toInt ≤ (κ.1 7).toInt ∧ (κ.1 3).toInt < n35.toInt ∧ ((cto P38 r34 : Nat) : Int) + 1 ≤ ((cto P31 (some b32) : Nat) : Int) + 2 * (n35.toInt - (κ.1 3).toInt)) := hr34
        obtain ⟨hr34_0, hr34_1, hr34_2, hr34_3, hr34_4⟩ := hr34
        have kc39 : cto P38 (some b32) = cto P31 (some b32) := hr34_0.ct (nt_s tb32) (by decide)
        obtain ⟨hr34_4_0, hr34_4_1, hr34_4_2, hr34_4_3⟩ := hr34_4
        have hP : CH D cy ad A (tP (tI (tI (tI κ 3 n35) 4 n36) 5 n37) P38) H := CH.cong hP rfl rfl rfl rfl rfl rfl rfl rfl rfl rfl rfl rfl rfl rfl rfl rfl rfl rfl rfl rfl rfl rfl rfl rfl rfl rfl rfl
        exact c_retq (v := r34) (Or.inl ⟨_, rfl⟩) C hsz hsl ⟨n35, n36, n37, P38⟩ ⟨⟨(hr30_0.trans hr34_0), hr34_1, hr34_2, hr34_3, (vX6_named_48 κ P31 b32 n35 P38 r34 hpre_0 hpre_1 hpre_2 hpre_6 hr30_3 kc39 hr34_4_0 hr34_4_1 hr34_4_2 hr34_4_3)⟩, (vX6_named_49 κ k0 d r1 P31 b32 n35 n36 n37 P38 r34 hpre_0 hpre_1 hpre_2 hpre_3 hpre_4 hpre_5 hpre_6 hr1y c2_0 c2_1 c2_2 hr30y_0 hr30y_1 hr30_3 kc39 hr34y hr34_4_0 hr34_4_1 hr34_4_2 hr34_4_3)⟩ hP hS ⟨(vX6_named_50 κ P31 b32 n35 P38 r34 hpre_0 hpre_1 hpre_2 hpre_6 hr30_3 kc39 hr34_4_0 hr34_4_1 hr34_4_2 hr34_4_3), (vX6_named_51 κ P31 b32 n35 P38 r34 hpre_0 hpre_1 hpre_2 hpre_6 hr30_3 kc39 hr34_4_0 hr34_4_1 hr34_4_2 hr34_4_3)⟩ ⟨(vX6_named_52 κ P31 b32 n35 P38 r34 hpre_0 hpre_1 hpre_2 hpre_6 hr30_3 kc39 hr34_4_0 hr34_4_1 hr34_4_2 hr34_4_3), (vX6_named_53 κ P31 b32 n35 P38 r34 hpre_0 hpre_1 hpre_2 hpre_6 hr30_3 kc39 hr34_4_0 hr34_4_1 hr34_4_2 hr34_4_3)⟩ dX6_named_105

-- nw@3 @3
theorem vX6_bracketed_1 (k0 : Int32) (d : Nat) (x1 : Int32) (hpre_3 : 0 ≤ k0.toInt) (hpre_4 : k0.toInt ≤ 4) (hpre_5 : 4 ≤ k0.toInt + ((d : Nat) : Int)) (ex1 : x1 = k0 + (1 : Int32)) : x1.toInt = k0.toInt + 1 := by
  have q1 : (1 : Int32).toInt = 1 := by decide +kernel
  have w1 : (1 : Int32).toInt = 1 := by decide +kernel
  rw [ex1, z_add (by omega) (by omega)]; first | done | omega
-- pre:X6_choice@4 @4
theorem vX6_bracketed_2 (κ : KS) (k0 : Int32) (d : Nat) (x1 : Int32) (hpre_0 : 0 ≤ (κ.1 3).toInt) (hpre_1 : (κ.1 3).toInt ≤ (κ.1 7).toInt) (hpre_2 : (κ.1 7).toInt ≤ 41) (hpre_3 : 0 ≤ k0.toInt) (hpre_4 : k0.toInt ≤ 4) (hpre_5 : 4 ≤ k0.toInt + ((d : Nat) : Int)) (ex1 : x1 = k0 + (1 : Int32)) (tx1 : x1.toInt = k0.toInt + 1) : 0 ≤ (κ.1 3).toInt ∧ (κ.1 3).toInt ≤ (κ.1 7).toInt ∧ (κ.1 7).toInt ≤ 41 ∧ 0 ≤ x1.toInt ∧ x1.toInt ≤ 5 ∧ 5 ≤ x1.toInt + ((d : Nat) : Int) := by
  have q1 : (1 : Int32).toInt = 1 := by decide +kernel
  refine ⟨?_, ?_, ?_, ?_, ?_, ?_⟩ <;> first | assumption | omega | (subst_vars; omega) | trivial
-- frames @4
theorem vX6_bracketed_3 (d : Nat)  : 16 * d + 20 + 1 ≤ 16 * d + 26 := by
  first | assumption | omega | (subst_vars; omega) | trivial
-- locals @4
theorem vX6_bracketed_4 (d : Nat)  : 8 + (4 + 11) + (500 * d + 300) ≤ 500 * d + 500 := by
  first | assumption | omega | (subst_vars; omega) | trivial
-- room @4
theorem vX6_bracketed_5 (κ : KS) (hpre_0 : 0 ≤ (κ.1 3).toInt) (hpre_1 : (κ.1 3).toInt ≤ (κ.1 7).toInt) (hpre_2 : (κ.1 7).toInt ≤ 41) : 0 + ((2 * ((κ.1 7).toInt - (κ.1 3).toInt)).toNat) ≤ (2 * ((κ.1 7).toInt - (κ.1 3).toInt)).toNat := by
  first | assumption | omega | (subst_vars; omega) | trivial
-- room @4
theorem vX6_bracketed_6 (κ : KS) (hpre_0 : 0 ≤ (κ.1 3).toInt) (hpre_1 : (κ.1 3).toInt ≤ (κ.1 7).toInt) (hpre_2 : (κ.1 7).toInt ≤ 41) : 0 + ((16 * ((κ.1 7).toInt - (κ.1 3).toInt)).toNat) ≤ (16 * ((κ.1 7).toInt - (κ.1 3).toInt)).toNat := by
  first | assumption | omega | (subst_vars; omega) | trivial
-- post @13
theorem vX6_bracketed_7 (κ : KS) (n3 : Int32) (P6 : PL) (hpre_0 : 0 ≤ (κ.1 3).toInt) (hpre_1 : (κ.1 3).toInt ≤ (κ.1 7).toInt) (hpre_2 : (κ.1 7).toInt ≤ 41) (hr2_4_0 : (κ.1 3).toInt ≤ n3.toInt) (hr2_4_1 : n3.toInt ≤ (κ.1 7).toInt) (hr2_4_2 : ((cto P6 none : Nat) : Int) ≤ 2 * (n3.toInt - (κ.1 3).toInt)) : (κ.1 3).toInt ≤ n3.toInt ∧ n3.toInt ≤ (κ.1 7).toInt ∧ ((cto P6 none : Nat) : Int) ≤ 2 * (n3.toInt - (κ.1 3).toInt) := by
  have zc0 : cto P6 none = 0 := rfl
  refine ⟨?_, ?_, ?_⟩ <;> first | assumption | omega | (subst_vars; omega) | trivial
-- post2 @13
theorem vX6_bracketed_8 (κ : KS) (k0 : Int32) (d : Nat) (x1 : Int32) (n3 : Int32) (n4 : Int32) (n5 : Int32) (P6 : PL) (hpre_0 : 0 ≤ (κ.1 3).toInt) (hpre_1 : (κ.1 3).toInt ≤ (κ.1 7).toInt) (hpre_2 : (κ.1 7).toInt ≤ 41) (hpre_3 : 0 ≤ k0.toInt) (hpre_4 : k0.toInt ≤ 4) (hpre_5 : 4 ≤ k0.toInt + ((d : Nat) : Int)) (ex1 : x1 = k0 + (1 : Int32)) (tx1 : x1.toInt = k0.toInt + 1) (hr2y : LG (cT (κ.2.2.1 10) (κ.1 7)) (cT (κ.2.2.1 12) (κ.1 7)) (cT (κ.2.2.1 11) (κ.1 7)) 0 0 false x1.toInt (κ.1 3).toInt P6 none n3.toInt n4.toInt n5.toInt) (hr2_4_0 : (κ.1 3).toInt ≤ n3.toInt) (hr2_4_1 : n3.toInt ≤ (κ.1 7).toInt) (hr2_4_2 : ((cto P6 none : Nat) : Int) ≤ 2 * (n3.toInt - (κ.1 3).toInt)) : LG (cT (κ.2.2.1 10) (κ.1 7)) (cT (κ.2.2.1 12) (κ.1 7)) (cT (κ.2.2.1 11) (κ.1 7)) 8 0 false k0.toInt (κ.1 3).toInt P6 none n3.toInt n4.toInt n5.toInt := by
  have q1 : (1 : Int32).toInt = 1 := by decide +kernel
  have zc0 : cto P6 none = 0 := rfl
  first
  | exact gl_be (by omega) hr2y
  | exact gl_bo (by omega) hr2y (by omega) (by omega) CBS_br
  | exact gl_bx (by omega) hr2y (by omega) (by omega) (by omega)
-- grow @13
theorem vX6_bracketed_9 (κ : KS) (n3 : Int32) (P6 : PL) (hpre_0 : 0 ≤ (κ.1 3).toInt) (hpre_1 : (κ.1 3).toInt ≤ (κ.1 7).toInt) (hpre_2 : (κ.1 7).toInt ≤ 41) (hr2_4_0 : (κ.1 3).toInt ≤ n3.toInt) (hr2_4_1 : n3.toInt ≤ (κ.1 7).toInt) (hr2_4_2 : ((cto P6 none : Nat) : Int) ≤ 2 * (n3.toInt - (κ.1 3).toInt)) : 0 + ((2 * (n3.toInt - (κ.1 3).toInt)).toNat) ≤ (2 * (n3.toInt - (κ.1 3).toInt)).toNat := by
  have zc0 : cto P6 none = 0 := rfl
  first | assumption | omega | (subst_vars; omega) | trivial
-- grow @13
theorem vX6_bracketed_10 (κ : KS) (n3 : Int32) (P6 : PL) (hpre_0 : 0 ≤ (κ.1 3).toInt) (hpre_1 : (κ.1 3).toInt ≤ (κ.1 7).toInt) (hpre_2 : (κ.1 7).toInt ≤ 41) (hr2_4_0 : (κ.1 3).toInt ≤ n3.toInt) (hr2_4_1 : n3.toInt ≤ (κ.1 7).toInt) (hr2_4_2 : ((cto P6 none : Nat) : Int) ≤ 2 * (n3.toInt - (κ.1 3).toInt)) : 0 + ((16 * (n3.toInt - (κ.1 3).toInt)).toNat) ≤ (16 * (n3.toInt - (κ.1 3).toInt)).toNat := by
  have zc0 : cto P6 none = 0 := rfl
  first | assumption | omega | (subst_vars; omega) | trivial
-- growm @13
theorem vX6_bracketed_11 (κ : KS) (n3 : Int32) (P6 : PL) (hpre_0 : 0 ≤ (κ.1 3).toInt) (hpre_1 : (κ.1 3).toInt ≤ (κ.1 7).toInt) (hpre_2 : (κ.1 7).toInt ≤ 41) (hr2_4_0 : (κ.1 3).toInt ≤ n3.toInt) (hr2_4_1 : n3.toInt ≤ (κ.1 7).toInt) (hr2_4_2 : ((cto P6 none : Nat) : Int) ≤ 2 * (n3.toInt - (κ.1 3).toInt)) : (2 * (n3.toInt - (κ.1 3).toInt)).toNat ≤ (2 * ((κ.1 7).toInt - (κ.1 3).toInt)).toNat := by
  have zc0 : cto P6 none = 0 := rfl
  first | assumption | omega | (subst_vars; omega) | trivial
-- growm @13
theorem vX6_bracketed_12 (κ : KS) (n3 : Int32) (P6 : PL) (hpre_0 : 0 ≤ (κ.1 3).toInt) (hpre_1 : (κ.1 3).toInt ≤ (κ.1 7).toInt) (hpre_2 : (κ.1 7).toInt ≤ 41) (hr2_4_0 : (κ.1 3).toInt ≤ n3.toInt) (hr2_4_1 : n3.toInt ≤ (κ.1 7).toInt) (hr2_4_2 : ((cto P6 none : Nat) : Int) ≤ 2 * (n3.toInt - (κ.1 3).toInt)) : (16 * (n3.toInt - (κ.1 3).toInt)).toNat ≤ (16 * ((κ.1 7).toInt - (κ.1 3).toInt)).toNat := by
  have zc0 : cto P6 none = 0 := rfl
  first | assumption | omega | (subst_vars; omega) | trivial
-- pre:X6_takes@17 @17
theorem vX6_bracketed_13 (κ : KS) (n3 : Int32) (P6 : PL) (b7 : Nat) (hpre_0 : 0 ≤ (κ.1 3).toInt) (hpre_1 : (κ.1 3).toInt ≤ (κ.1 7).toInt) (hpre_2 : (κ.1 7).toInt ≤ 41) (hr2_4_0 : (κ.1 3).toInt ≤ n3.toInt) (hr2_4_1 : n3.toInt ≤ (κ.1 7).toInt) (hr2_4_2 : ((cto P6 (some b7) : Nat) : Int) ≤ 2 * (n3.toInt - (κ.1 3).toInt)) : 0 ≤ n3.toInt ∧ n3.toInt ≤ (κ.1 7).toInt ∧ (κ.1 7).toInt ≤ 41 ∧ ¬ (41 : Int32).toInt = 0 := by
  have q41 : (41 : Int32).toInt = 41 := by decide +kernel
  refine ⟨?_, ?_, ?_, ?_⟩ <;> first | assumption | omega | (subst_vars; omega) | trivial
-- frames @17
theorem vX6_bracketed_14 (d : Nat)  : 2 + 1 ≤ 16 * d + 26 := by
  first | assumption | omega | (subst_vars; omega) | trivial
-- locals @17
theorem vX6_bracketed_15 (d : Nat)  : 8 + (2 + 11) + 41 ≤ 500 * d + 500 := by
  first | assumption | omega | (subst_vars; omega) | trivial
-- room @17
theorem vX6_bracketed_16 (κ : KS) (n3 : Int32) (P6 : PL) (b7 : Nat) (hpre_0 : 0 ≤ (κ.1 3).toInt) (hpre_1 : (κ.1 3).toInt ≤ (κ.1 7).toInt) (hpre_2 : (κ.1 7).toInt ≤ 41) (hr2_4_0 : (κ.1 3).toInt ≤ n3.toInt) (hr2_4_1 : n3.toInt ≤ (κ.1 7).toInt) (hr2_4_2 : ((cto P6 (some b7) : Nat) : Int) ≤ 2 * (n3.toInt - (κ.1 3).toInt)) : 0 + ((2 * (n3.toInt - (κ.1 3).toInt)).toNat) + 0 ≤ (2 * ((κ.1 7).toInt - (κ.1 3).toInt)).toNat := by
  first | assumption | omega | (subst_vars; omega) | trivial
-- room @17
theorem vX6_bracketed_17 (κ : KS) (n3 : Int32) (P6 : PL) (b7 : Nat) (hpre_0 : 0 ≤ (κ.1 3).toInt) (hpre_1 : (κ.1 3).toInt ≤ (κ.1 7).toInt) (hpre_2 : (κ.1 7).toInt ≤ 41) (hr2_4_0 : (κ.1 3).toInt ≤ n3.toInt) (hr2_4_1 : n3.toInt ≤ (κ.1 7).toInt) (hr2_4_2 : ((cto P6 (some b7) : Nat) : Int) ≤ 2 * (n3.toInt - (κ.1 3).toInt)) : 0 + ((16 * (n3.toInt - (κ.1 3).toInt)).toNat) + 0 ≤ (16 * ((κ.1 7).toInt - (κ.1 3).toInt)).toNat := by
  first | assumption | omega | (subst_vars; omega) | trivial
-- post @35
theorem vX6_bracketed_18 (κ : KS) (n3 : Int32) (P6 : PL) (b7 : Nat) (n9 : Int32) (r8 : Int32) (hpre_0 : 0 ≤ (κ.1 3).toInt) (hpre_1 : (κ.1 3).toInt ≤ (κ.1 7).toInt) (hpre_2 : (κ.1 7).toInt ≤ 41) (hr2_4_0 : (κ.1 3).toInt ≤ n3.toInt) (hr2_4_1 : n3.toInt ≤ (κ.1 7).toInt) (hr2_4_2 : ((cto P6 (some b7) : Nat) : Int) ≤ 2 * (n3.toInt - (κ.1 3).toInt)) (hr8_0_0 : 0 ≤ r8.toInt) (hr8_0_1 : r8.toInt ≤ 1) (hr8_1_0 : r8.toInt = 0 → n9.toInt = n3.toInt) (hr8_1_1 : ¬ r8.toInt = 0 → n9.toInt = n3.toInt + 1 ∧ n3.toInt < (κ.1 7).toInt) (c10 : ¬ r8.toInt = 0) : (κ.1 3).toInt ≤ n9.toInt ∧ n9.toInt ≤ (κ.1 7).toInt ∧ ((cto P6 (some b7) : Nat) : Int) ≤ 2 * (n9.toInt - (κ.1 3).toInt) := by
  refine ⟨?_, ?_, ?_⟩ <;> first | assumption | omega | (subst_vars; omega) | trivial
-- post2 @35
theorem vX6_bracketed_19 (κ : KS) (k0 : Int32) (d : Nat) (x1 : Int32) (n3 : Int32) (n4 : Int32) (n5 : Int32) (P6 : PL) (b7 : Nat) (n9 : Int32) (r8 : Int32) (hpre_0 : 0 ≤ (κ.1 3).toInt) (hpre_1 : (κ.1 3).toInt ≤ (κ.1 7).toInt) (hpre_2 : (κ.1 7).toInt ≤ 41) (hpre_3 : 0 ≤ k0.toInt) (hpre_4 : k0.toInt ≤ 4) (hpre_5 : 4 ≤ k0.toInt + ((d : Nat) : Int)) (ex1 : x1 = k0 + (1 : Int32)) (tx1 : x1.toInt = k0.toInt + 1) (hr2y : LG (cT (κ.2.2.1 10) (κ.1 7)) (cT (κ.2.2.1 12) (κ.1 7)) (cT (κ.2.2.1 11) (κ.1 7)) 0 0 false x1.toInt (κ.1 3).toInt P6 (some b7) n3.toInt n4.toInt n5.toInt) (hr2_4_0 : (κ.1 3).toInt ≤ n3.toInt) (hr2_4_1 : n3.toInt ≤ (κ.1 7).toInt) (hr2_4_2 : ((cto P6 (some b7) : Nat) : Int) ≤ 2 * (n3.toInt - (κ.1 3).toInt)) (hr8y_0 : r8.toInt = 0 → ¬ (cT (κ.2.2.1 10) (κ.1 7)) n3.toInt = (41 : Int32).toInt) (hr8y_1 : ¬ r8.toInt = 0 → (cT (κ.2.2.1 10) (κ.1 7)) n3.toInt = (41 : Int32).toInt) (hr8_0_0 : 0 ≤ r8.toInt) (hr8_0_1 : r8.toInt ≤ 1) (hr8_1_0 : r8.toInt = 0 → n9.toInt = n3.toInt) (hr8_1_1 : ¬ r8.toInt = 0 → n9.toInt = n3.toInt + 1 ∧ n3.toInt < (κ.1 7).toInt) (c10 : ¬ r8.toInt = 0) : LG (cT (κ.2.2.1 10) (κ.1 7)) (cT (κ.2.2.1 12) (κ.1 7)) (cT (κ.2.2.1 11) (κ.1 7)) 8 0 false k0.toInt (κ.1 3).toInt (sI P6 5 b7 (1 : Int32)) (some b7) n9.toInt n4.toInt n5.toInt := by
  have q1 : (1 : Int32).toInt = 1 := by decide +kernel
  have q41 : (41 : Int32).toInt = 41 := by decide +kernel
  have tkhr8y_1 := hr8y_1 c10
  first
  | exact gl_be (by omega) hr2y
  | exact gl_bo (by omega) hr2y (by omega) (by omega) CBS_br
  | exact gl_bx (by omega) hr2y (by omega) (by omega) (by omega)
-- grow @35
theorem vX6_bracketed_20 (κ : KS) (n3 : Int32) (P6 : PL) (b7 : Nat) (n9 : Int32) (r8 : Int32) (hpre_0 : 0 ≤ (κ.1 3).toInt) (hpre_1 : (κ.1 3).toInt ≤ (κ.1 7).toInt) (hpre_2 : (κ.1 7).toInt ≤ 41) (hr2_4_0 : (κ.1 3).toInt ≤ n3.toInt) (hr2_4_1 : n3.toInt ≤ (κ.1 7).toInt) (hr2_4_2 : ((cto P6 (some b7) : Nat) : Int) ≤ 2 * (n3.toInt - (κ.1 3).toInt)) (hr8_0_0 : 0 ≤ r8.toInt) (hr8_0_1 : r8.toInt ≤ 1) (hr8_1_0 : r8.toInt = 0 → n9.toInt = n3.toInt) (hr8_1_1 : ¬ r8.toInt = 0 → n9.toInt = n3.toInt + 1 ∧ n3.toInt < (κ.1 7).toInt) (c10 : ¬ r8.toInt = 0) : 0 + ((2 * (n3.toInt - (κ.1 3).toInt)).toNat) + 0 ≤ (2 * (n9.toInt - (κ.1 3).toInt)).toNat := by
  first | assumption | omega | (subst_vars; omega) | trivial
-- grow @35
theorem vX6_bracketed_21 (κ : KS) (n3 : Int32) (P6 : PL) (b7 : Nat) (n9 : Int32) (r8 : Int32) (hpre_0 : 0 ≤ (κ.1 3).toInt) (hpre_1 : (κ.1 3).toInt ≤ (κ.1 7).toInt) (hpre_2 : (κ.1 7).toInt ≤ 41) (hr2_4_0 : (κ.1 3).toInt ≤ n3.toInt) (hr2_4_1 : n3.toInt ≤ (κ.1 7).toInt) (hr2_4_2 : ((cto P6 (some b7) : Nat) : Int) ≤ 2 * (n3.toInt - (κ.1 3).toInt)) (hr8_0_0 : 0 ≤ r8.toInt) (hr8_0_1 : r8.toInt ≤ 1) (hr8_1_0 : r8.toInt = 0 → n9.toInt = n3.toInt) (hr8_1_1 : ¬ r8.toInt = 0 → n9.toInt = n3.toInt + 1 ∧ n3.toInt < (κ.1 7).toInt) (c10 : ¬ r8.toInt = 0) : 0 + ((16 * (n3.toInt - (κ.1 3).toInt)).toNat) + 0 ≤ (16 * (n9.toInt - (κ.1 3).toInt)).toNat := by
  first | assumption | omega | (subst_vars; omega) | trivial
-- growm @35
theorem vX6_bracketed_22 (κ : KS) (n3 : Int32) (P6 : PL) (b7 : Nat) (n9 : Int32) (r8 : Int32) (hpre_0 : 0 ≤ (κ.1 3).toInt) (hpre_1 : (κ.1 3).toInt ≤ (κ.1 7).toInt) (hpre_2 : (κ.1 7).toInt ≤ 41) (hr2_4_0 : (κ.1 3).toInt ≤ n3.toInt) (hr2_4_1 : n3.toInt ≤ (κ.1 7).toInt) (hr2_4_2 : ((cto P6 (some b7) : Nat) : Int) ≤ 2 * (n3.toInt - (κ.1 3).toInt)) (hr8_0_0 : 0 ≤ r8.toInt) (hr8_0_1 : r8.toInt ≤ 1) (hr8_1_0 : r8.toInt = 0 → n9.toInt = n3.toInt) (hr8_1_1 : ¬ r8.toInt = 0 → n9.toInt = n3.toInt + 1 ∧ n3.toInt < (κ.1 7).toInt) (c10 : ¬ r8.toInt = 0) : (2 * (n9.toInt - (κ.1 3).toInt)).toNat ≤ (2 * ((κ.1 7).toInt - (κ.1 3).toInt)).toNat := by
  first | assumption | omega | (subst_vars; omega) | trivial
-- growm @35
theorem vX6_bracketed_23 (κ : KS) (n3 : Int32) (P6 : PL) (b7 : Nat) (n9 : Int32) (r8 : Int32) (hpre_0 : 0 ≤ (κ.1 3).toInt) (hpre_1 : (κ.1 3).toInt ≤ (κ.1 7).toInt) (hpre_2 : (κ.1 7).toInt ≤ 41) (hr2_4_0 : (κ.1 3).toInt ≤ n3.toInt) (hr2_4_1 : n3.toInt ≤ (κ.1 7).toInt) (hr2_4_2 : ((cto P6 (some b7) : Nat) : Int) ≤ 2 * (n3.toInt - (κ.1 3).toInt)) (hr8_0_0 : 0 ≤ r8.toInt) (hr8_0_1 : r8.toInt ≤ 1) (hr8_1_0 : r8.toInt = 0 → n9.toInt = n3.toInt) (hr8_1_1 : ¬ r8.toInt = 0 → n9.toInt = n3.toInt + 1 ∧ n3.toInt < (κ.1 7).toInt) (c10 : ¬ r8.toInt = 0) : (16 * (n9.toInt - (κ.1 3).toInt)).toNat ≤ (16 * ((κ.1 7).toInt - (κ.1 3).toInt)).toNat := by
  first | assumption | omega | (subst_vars; omega) | trivial
-- pre:X6_refuse@25 @25
theorem vX6_bracketed_24 (κ : KS) (n3 : Int32) (P6 : PL) (b7 : Nat) (n9 : Int32) (r8 : Int32) (hpre_0 : 0 ≤ (κ.1 3).toInt) (hpre_1 : (κ.1 3).toInt ≤ (κ.1 7).toInt) (hpre_2 : (κ.1 7).toInt ≤ 41) (hr2_4_0 : (κ.1 3).toInt ≤ n3.toInt) (hr2_4_1 : n3.toInt ≤ (κ.1 7).toInt) (hr2_4_2 : ((cto P6 (some b7) : Nat) : Int) ≤ 2 * (n3.toInt - (κ.1 3).toInt)) (hr8_0_0 : 0 ≤ r8.toInt) (hr8_0_1 : r8.toInt ≤ 1) (hr8_1_0 : r8.toInt = 0 → n9.toInt = n3.toInt) (hr8_1_1 : ¬ r8.toInt = 0 → n9.toInt = n3.toInt + 1 ∧ n3.toInt < (κ.1 7).toInt) (c10 : r8.toInt = 0) : (κ.1 7).toInt ≤ 41 := by
  first | assumption | omega | (subst_vars; omega) | trivial
-- frames @25
theorem vX6_bracketed_25 (d : Nat)  : 1 + 1 ≤ 16 * d + 26 := by
  first | assumption | omega | (subst_vars; omega) | trivial
-- locals @25
theorem vX6_bracketed_26 (d : Nat)  : 8 + (2 + 11) + 21 ≤ 500 * d + 500 := by
  first | assumption | omega | (subst_vars; omega) | trivial
-- room @25
theorem vX6_bracketed_27 (κ : KS) (n3 : Int32) (P6 : PL) (b7 : Nat) (n9 : Int32) (r8 : Int32) (hpre_0 : 0 ≤ (κ.1 3).toInt) (hpre_1 : (κ.1 3).toInt ≤ (κ.1 7).toInt) (hpre_2 : (κ.1 7).toInt ≤ 41) (hr2_4_0 : (κ.1 3).toInt ≤ n3.toInt) (hr2_4_1 : n3.toInt ≤ (κ.1 7).toInt) (hr2_4_2 : ((cto P6 (some b7) : Nat) : Int) ≤ 2 * (n3.toInt - (κ.1 3).toInt)) (hr8_0_0 : 0 ≤ r8.toInt) (hr8_0_1 : r8.toInt ≤ 1) (hr8_1_0 : r8.toInt = 0 → n9.toInt = n3.toInt) (hr8_1_1 : ¬ r8.toInt = 0 → n9.toInt = n3.toInt + 1 ∧ n3.toInt < (κ.1 7).toInt) (c10 : r8.toInt = 0) : 0 + ((2 * (n3.toInt - (κ.1 3).toInt)).toNat) + 0 + 0 ≤ (2 * ((κ.1 7).toInt - (κ.1 3).toInt)).toNat := by
  first | assumption | omega | (subst_vars; omega) | trivial
-- room @25
theorem vX6_bracketed_28 (κ : KS) (n3 : Int32) (P6 : PL) (b7 : Nat) (n9 : Int32) (r8 : Int32) (hpre_0 : 0 ≤ (κ.1 3).toInt) (hpre_1 : (κ.1 3).toInt ≤ (κ.1 7).toInt) (hpre_2 : (κ.1 7).toInt ≤ 41) (hr2_4_0 : (κ.1 3).toInt ≤ n3.toInt) (hr2_4_1 : n3.toInt ≤ (κ.1 7).toInt) (hr2_4_2 : ((cto P6 (some b7) : Nat) : Int) ≤ 2 * (n3.toInt - (κ.1 3).toInt)) (hr8_0_0 : 0 ≤ r8.toInt) (hr8_0_1 : r8.toInt ≤ 1) (hr8_1_0 : r8.toInt = 0 → n9.toInt = n3.toInt) (hr8_1_1 : ¬ r8.toInt = 0 → n9.toInt = n3.toInt + 1 ∧ n3.toInt < (κ.1 7).toInt) (c10 : r8.toInt = 0) : 0 + ((16 * (n3.toInt - (κ.1 3).toInt)).toNat) + 0 + 0 ≤ (16 * ((κ.1 7).toInt - (κ.1 3).toInt)).toNat := by
  first | assumption | omega | (subst_vars; omega) | trivial
-- post @28
theorem vX6_bracketed_29 (κ : KS) (n3 : Int32) (P6 : PL) (b7 : Nat) (n9 : Int32) (r8 : Int32) (r12 : Option Nat) (hpre_0 : 0 ≤ (κ.1 3).toInt) (hpre_1 : (κ.1 3).toInt ≤ (κ.1 7).toInt) (hpre_2 : (κ.1 7).toInt ≤ 41) (hr2_4_0 : (κ.1 3).toInt ≤ n3.toInt) (hr2_4_1 : n3.toInt ≤ (κ.1 7).toInt) (hr2_4_2 : ((cto P6 (some b7) : Nat) : Int) ≤ 2 * (n3.toInt - (κ.1 3).toInt)) (hr8_0_0 : 0 ≤ r8.toInt) (hr8_0_1 : r8.toInt ≤ 1) (hr8_1_0 : r8.toInt = 0 → n9.toInt = n3.toInt) (hr8_1_1 : ¬ r8.toInt = 0 → n9.toInt = n3.toInt + 1 ∧ n3.toInt < (κ.1 7).toInt) (c10 : r8.toInt = 0) (hr12_1 : cto P6 r12 = 0) : (κ.1 3).toInt ≤ n9.toInt ∧ n9.toInt ≤ (κ.1 7).toInt ∧ ((cto P6 r12 : Nat) : Int) ≤ 2 * (n9.toInt - (κ.1 3).toInt) := by
  refine ⟨?_, ?_, ?_⟩ <;> first | assumption | omega | (subst_vars; omega) | trivial
-- post2 @28
theorem vX6_bracketed_30 (κ : KS) (k0 : Int32) (d : Nat) (x1 : Int32) (n3 : Int32) (n4 : Int32) (n5 : Int32) (P6 : PL) (b7 : Nat) (n9 : Int32) (r8 : Int32) (n13 : Int32) (n14 : Int32) (r12 : Option Nat) (hpre_0 : 0 ≤ (κ.1 3).toInt) (hpre_1 : (κ.1 3).toInt ≤ (κ.1 7).toInt) (hpre_2 : (κ.1 7).toInt ≤ 41) (hpre_3 : 0 ≤ k0.toInt) (hpre_4 : k0.toInt ≤ 4) (hpre_5 : 4 ≤ k0.toInt + ((d : Nat) : Int)) (ex1 : x1 = k0 + (1 : Int32)) (tx1 : x1.toInt = k0.toInt + 1) (hr2y : LG (cT (κ.2.2.1 10) (κ.1 7)) (cT (κ.2.2.1 12) (κ.1 7)) (cT (κ.2.2.1 11) (κ.1 7)) 0 0 false x1.toInt (κ.1 3).toInt P6 (some b7) n3.toInt n4.toInt n5.toInt) (hr2_4_0 : (κ.1 3).toInt ≤ n3.toInt) (hr2_4_1 : n3.toInt ≤ (κ.1 7).toInt) (hr2_4_2 : ((cto P6 (some b7) : Nat) : Int) ≤ 2 * (n3.toInt - (κ.1 3).toInt)) (hr8y_0 : r8.toInt = 0 → ¬ (cT (κ.2.2.1 10) (κ.1 7)) n3.toInt = (41 : Int32).toInt) (hr8y_1 : ¬ r8.toInt = 0 → (cT (κ.2.2.1 10) (κ.1 7)) n3.toInt = (41 : Int32).toInt) (hr8_0_0 : 0 ≤ r8.toInt) (hr8_0_1 : r8.toInt ≤ 1) (hr8_1_0 : r8.toInt = 0 → n9.toInt = n3.toInt) (hr8_1_1 : ¬ r8.toInt = 0 → n9.toInt = n3.toInt + 1 ∧ n3.toInt < (κ.1 7).toInt) (c10 : r8.toInt = 0) (hr12y_0 : r12 = (none : Option Nat)) (hr12y_1 : n13.toInt = (2 : Int32).toInt) (hr12y_2 : n14.toInt = (cT (κ.2.2.1 11) (κ.1 7)) n9.toInt) (hr12_1 : cto P6 r12 = 0) : LG (cT (κ.2.2.1 10) (κ.1 7)) (cT (κ.2.2.1 12) (κ.1 7)) (cT (κ.2.2.1 11) (κ.1 7)) 8 0 false k0.toInt (κ.1 3).toInt P6 r12 n9.toInt n13.toInt n14.toInt := by
  have q1 : (1 : Int32).toInt = 1 := by decide +kernel
  have q2 : (2 : Int32).toInt = 2 := by decide +kernel
  have q41 : (41 : Int32).toInt = 41 := by decide +kernel
  have tkhr8y_0 := hr8y_0 c10
  obtain rfl : n9 = n3 := Int32.toInt_inj.mp (hr8_1_0 c10)
  obtain rfl := hr12y_0
  first
  | exact gl_be (by omega) hr2y
  | exact gl_bo (by omega) hr2y (by omega) (by omega) CBS_br
  | exact gl_bx (by omega) hr2y (by omega) (by omega) (by omega)
-- grow @28
theorem vX6_bracketed_31 (κ : KS) (n3 : Int32) (P6 : PL) (b7 : Nat) (n9 : Int32) (r8 : Int32) (r12 : Option Nat) (hpre_0 : 0 ≤ (κ.1 3).toInt) (hpre_1 : (κ.1 3).toInt ≤ (κ.1 7).toInt) (hpre_2 : (κ.1 7).toInt ≤ 41) (hr2_4_0 : (κ.1 3).toInt ≤ n3.toInt) (hr2_4_1 : n3.toInt ≤ (κ.1 7).toInt) (hr2_4_2 : ((cto P6 (some b7) : Nat) : Int) ≤ 2 * (n3.toInt - (κ.1 3).toInt)) (hr8_0_0 : 0 ≤ r8.toInt) (hr8_0_1 : r8.toInt ≤ 1) (hr8_1_0 : r8.toInt = 0 → n9.toInt = n3.toInt) (hr8_1_1 : ¬ r8.toInt = 0 → n9.toInt = n3.toInt + 1 ∧ n3.toInt < (κ.1 7).toInt) (c10 : r8.toInt = 0) (hr12_1 : cto P6 r12 = 0) : 0 + ((2 * (n3.toInt - (κ.1 3).toInt)).toNat) + 0 + 0 ≤ (2 * (n9.toInt - (κ.1 3).toInt)).toNat := by
  first | assumption | omega | (subst_vars; omega) | trivial
-- grow @28
theorem vX6_bracketed_32 (κ : KS) (n3 : Int32) (P6 : PL) (b7 : Nat) (n9 : Int32) (r8 : Int32) (r12 : Option Nat) (hpre_0 : 0 ≤ (κ.1 3).toInt) (hpre_1 : (κ.1 3).toInt ≤ (κ.1 7).toInt) (hpre_2 : (κ.1 7).toInt ≤ 41) (hr2_4_0 : (κ.1 3).toInt ≤ n3.toInt) (hr2_4_1 : n3.toInt ≤ (κ.1 7).toInt) (hr2_4_2 : ((cto P6 (some b7) : Nat) : Int) ≤ 2 * (n3.toInt - (κ.1 3).toInt)) (hr8_0_0 : 0 ≤ r8.toInt) (hr8_0_1 : r8.toInt ≤ 1) (hr8_1_0 : r8.toInt = 0 → n9.toInt = n3.toInt) (hr8_1_1 : ¬ r8.toInt = 0 → n9.toInt = n3.toInt + 1 ∧ n3.toInt < (κ.1 7).toInt) (c10 : r8.toInt = 0) (hr12_1 : cto P6 r12 = 0) : 0 + ((16 * (n3.toInt - (κ.1 3).toInt)).toNat) + 0 + 0 ≤ (16 * (n9.toInt - (κ.1 3).toInt)).toNat := by
  first | assumption | omega | (subst_vars; omega) | trivial
-- growm @28
theorem vX6_bracketed_33 (κ : KS) (n3 : Int32) (P6 : PL) (b7 : Nat) (n9 : Int32) (r8 : Int32) (r12 : Option Nat) (hpre_0 : 0 ≤ (κ.1 3).toInt) (hpre_1 : (κ.1 3).toInt ≤ (κ.1 7).toInt) (hpre_2 : (κ.1 7).toInt ≤ 41) (hr2_4_0 : (κ.1 3).toInt ≤ n3.toInt) (hr2_4_1 : n3.toInt ≤ (κ.1 7).toInt) (hr2_4_2 : ((cto P6 (some b7) : Nat) : Int) ≤ 2 * (n3.toInt - (κ.1 3).toInt)) (hr8_0_0 : 0 ≤ r8.toInt) (hr8_0_1 : r8.toInt ≤ 1) (hr8_1_0 : r8.toInt = 0 → n9.toInt = n3.toInt) (hr8_1_1 : ¬ r8.toInt = 0 → n9.toInt = n3.toInt + 1 ∧ n3.toInt < (κ.1 7).toInt) (c10 : r8.toInt = 0) (hr12_1 : cto P6 r12 = 0) : (2 * (n9.toInt - (κ.1 3).toInt)).toNat ≤ (2 * ((κ.1 7).toInt - (κ.1 3).toInt)).toNat := by
  first | assumption | omega | (subst_vars; omega) | trivial
-- growm @28
theorem vX6_bracketed_34 (κ : KS) (n3 : Int32) (P6 : PL) (b7 : Nat) (n9 : Int32) (r8 : Int32) (r12 : Option Nat) (hpre_0 : 0 ≤ (κ.1 3).toInt) (hpre_1 : (κ.1 3).toInt ≤ (κ.1 7).toInt) (hpre_2 : (κ.1 7).toInt ≤ 41) (hr2_4_0 : (κ.1 3).toInt ≤ n3.toInt) (hr2_4_1 : n3.toInt ≤ (κ.1 7).toInt) (hr2_4_2 : ((cto P6 (some b7) : Nat) : Int) ≤ 2 * (n3.toInt - (κ.1 3).toInt)) (hr8_0_0 : 0 ≤ r8.toInt) (hr8_0_1 : r8.toInt ≤ 1) (hr8_1_0 : r8.toInt = 0 → n9.toInt = n3.toInt) (hr8_1_1 : ¬ r8.toInt = 0 → n9.toInt = n3.toInt + 1 ∧ n3.toInt < (κ.1 7).toInt) (c10 : r8.toInt = 0) (hr12_1 : cto P6 r12 = 0) : (16 * (n9.toInt - (κ.1 3).toInt)).toNat ≤ (16 * ((κ.1 7).toInt - (κ.1 3).toInt)).toNat := by
  first | assumption | omega | (subst_vars; omega) | trivial
set_option maxHeartbeats 4000000 in
set_option maxRecDepth 100000 in
theorem NX6_bracketed (l : Launch) (D : va_G) (cy : Nat → ClassId) (ad : Nat → Nat) (A : Nat → Prop) (sz0 : Nat) (sa : Nat → Nat) (d : Nat) (IH : KX6_choice l D cy ad A sz0 sa d) (κ : KS) (sz sl : Nat) (hAF : ∀ q, A q → Fr sz0 q) (hAn : ∀ q : Nat, sz ≤ q → A q) (k0 : Int32) (hPV : PV sa κ.2.2.2.2) (hSV : SV ad κ.2.2.2.2 (κ.2.1 0) (κ.2.1 1) (κ.2.2.2.1 6) (κ.2.2.2.1 7) (κ.2.2.2.1 8) (κ.2.2.2.1 13) (κ.2.2.2.1 15) (κ.2.2.2.1 17) (κ.1 1).toInt) (hpre : 0 ≤ (κ.1 3).toInt ∧ (κ.1 3).toInt ≤ (κ.1 7).toInt ∧ (κ.1 7).toInt ≤ 41 ∧ 0 ≤ k0.toInt ∧ k0.toInt ≤ 4 ∧ 4 ≤ k0.toInt + ((d : Nat) : Int)) : Met l yX6_bracketed (Cond.code yX6_bracketed cX6_bracketed 3 (some (.object "PhraseDesk$Node")) :: GWc) ({ frames := 16 * d + 26, cells := (2 * ((κ.1 7).toInt - (κ.1 3).toInt)).toNat, slots := (16 * ((κ.1 7).toInt - (κ.1 3).toInt)).toNat, locals := 500 * d + 500 }) (PcC D cy ad A sz0 sa [.ref (ad 1), .int k0] κ sz sl) (va_Qq (fun (r : Option Nat) (u : Int32 × Int32 × Int32 × PL) => ((EX κ.2.2.2.2 u.2.2.2) ∧ (PV sa u.2.2.2) ∧ (SV ad u.2.2.2 (κ.2.1 0) (κ.2.1 1) (κ.2.2.2.1 6) (κ.2.2.2.1 7) (κ.2.2.2.1 8) (κ.2.2.2.1 13) (κ.2.2.2.1 15) (κ.2.2.2.1 17) (κ.1 1).toInt) ∧ (NT u.2.2.2 2 r) ∧ ((κ.1 3).toInt ≤ u.1.toInt ∧ u.1.toInt ≤ (κ.1 7).toInt ∧ ((cto u.2.2.2 r : Nat) : Int) ≤ 2 * (u.1.toInt - (κ.1 3).toInt))) ∧ (LG (cT (κ.2.2.1 10) (κ.1 7)) (cT (κ.2.2.1 12) (κ.1 7)) (cT (κ.2.2.1 11) (κ.1 7)) 8 0 false k0.toInt (κ.1 3).toInt u.2.2.2 r u.1.toInt u.2.1.toInt u.2.2.1.toInt)) (fun (u : Int32 × Int32 × Int32 × PL) (t : State) => Bx D cy ad A sz sl (tP (tI (tI (tI κ 3 u.1) 4 u.2.1) 5 u.2.2.1) u.2.2.2) ((2 * (u.1.toInt - (κ.1 3).toInt)).toNat) ((16 * (u.1.toInt - (κ.1 3).toInt)).toNat) t) A) ((2 * ((κ.1 7).toInt - (κ.1 3).toInt)).toNat) ((16 * ((κ.1 7).toInt - (κ.1 3).toInt)).toNat) A := by
  refine CM_of (loc0 := [(0, .ref (ad 1)), (1, .int k0)]) (own := RX6) (nm := "bracketed") (by decide) rfl rfl rfl (Nat.le_of_ble_eq_true rfl) hAF hAn ?_
  intro p e s m below meth c ls hsz hsl C hP hS hl
  obtain ⟨hpre_0, hpre_1, hpre_2, hpre_3, hpre_4, hpre_5⟩ := hpre
  refine lv_aload_n C.x C.b dX6_bracketed_0 rfl (lv_at hl 0 rfl) ?_
  refine lv_iload_n C.x C.b dX6_bracketed_1 rfl (lv_at hl 1 rfl) ?_
  refine lv_iconst (v := 1) C.x C.b dX6_bracketed_2 (by decide +kernel) ?_
  refine lv_iadd C.x C.b dX6_bracketed_3 ?_
  refine lv_topi (fun x1 ex1 => ?_)
  have tx1 : x1.toInt = k0.toInt + 1 := (vX6_bracketed_1 k0 d x1 hpre_3 hpre_4 hpre_5 ex1)
  refine c_callVq (n := 1) (As := [.int x1]) (rest := []) C hP hS hl.1 (IH κ s.heap.size (SLT s.heap) C.f (fun q h => C.a q (Nat.le_trans hS.1 h)) x1 hPV hSV (vX6_bracketed_2 κ k0 d x1 hpre_0 hpre_1 hpre_2 hpre_3 hpre_4 hpre_5 ex1 tx1)) ⟨cw_579, cw_582, by decide +kernel⟩ ⟨cw_580, cw_581, cw_577⟩ rfl (hP.recvS (k := 1) (ci := 8) C.K rfl rfl) rfl rfl (lv_room (Nat.le_of_ble_eq_true rfl)) ⟨(vX6_bracketed_3 d ), (vX6_bracketed_4 d )⟩ ⟨(vX6_bracketed_5 κ hpre_0 hpre_1 hpre_2), (vX6_bracketed_6 κ hpre_0 hpre_1 hpre_2)⟩ dX6_bracketed_4 (fun r2 u H locs hr2 hP hS => ?_)
  obtain ⟨n3, n4, n5, P6⟩ := u
  have hP : CH D cy ad A (tP (tI (tI (tI κ 3 n3) 4 n4) 5 n5) P6) H := hP
  obtain ⟨hr2, hr2y⟩ := hr2
  have hr2y : LG (cT (κ.2.2.1 10) (κ.1 7)) (cT (κ.2.2.1 12) (κ.1 7)) (cT (κ.2.2.1 11) (κ.1 7)) 0 0 false x1.toInt (κ.1 3).toInt P6 r2 n3.toInt n4.toInt n5.toInt := hr2y
  have hr2 : (EX κ.2.2.2.2 P6) ∧ (PV sa P6) ∧ (SV ad P6 (κ.2.1 0) (κ.2.1 1) (κ.2.2.2.1 6) (κ.2.2.2.1 7) (κ.2.2.2.1 8) (κ.2.2.2.1 13) (κ.2.2.2.1 15) (κ.2.2.2.1 17) (κ.1 1).toInt) ∧ (NT P6 2 r2) ∧ ((κ.1 3).toInt ≤ n3.toInt ∧ n3.toInt ≤ (κ.1 7).toInt ∧ ((cto P6 r2 : Nat) : Int) ≤ 2 * (n3.toInt - (κ.1 3).toInt)) := hr2
  obtain ⟨hr2_0, hr2_1, hr2_2, hr2_3, hr2_4⟩ := hr2
  obtain ⟨hr2_4_0, hr2_4_1, hr2_4_2⟩ := hr2_4
  refine lq_astore_n (lv' := [(2, va_rf r2), (0, .ref (ad 1)), (1, .int k0)]) C.x C.b dX6_bracketed_7 rfl hl (by decide) (by cases r2 <;> rfl) (fun ls hl => ?_)
  refine lq_aload_n C.x C.b dX6_bracketed_8 rfl (lv_at hl 0 rfl) ?_
  cases r2 with
  | none =>
    refine lv_ifnonnullN C.x C.b dX6_bracketed_9 ?_
    refine lv_null C.x C.b dX6_bracketed_12 ?_
    exact c_retq (v := none) (Or.inl ⟨_, rfl⟩) C hsz hsl ⟨n3, n4, n5, P6⟩ ⟨⟨hr2_0, hr2_1, hr2_2, nt_n, (vX6_bracketed_7 κ n3 P6 hpre_0 hpre_1 hpre_2 hr2_4_0 hr2_4_1 hr2_4_2)⟩, (vX6_bracketed_8 κ k0 d x1 n3 n4 n5 P6 hpre_0 hpre_1 hpre_2 hpre_3 hpre_4 hpre_5 ex1 tx1 hr2y hr2_4_0 hr2_4_1 hr2_4_2)⟩ hP hS ⟨(vX6_bracketed_9 κ n3 P6 hpre_0 hpre_1 hpre_2 hr2_4_0 hr2_4_1 hr2_4_2), (vX6_bracketed_10 κ n3 P6 hpre_0 hpre_1 hpre_2 hr2_4_0 hr2_4_1 hr2_4_2)⟩ ⟨(vX6_bracketed_11 κ n3 P6 hpre_0 hpre_1 hpre_2 hr2_4_0 hr2_4_1 hr2_4_2), (vX6_bracketed_12 κ n3 P6 hpre_0 hpre_1 hpre_2 hr2_4_0 hr2_4_1 hr2_4_2)⟩ dX6_bracketed_13
  | some b7 =>
    have hb7 : oT P6 b7 = 2 := hr2_3 b7 rfl
    refine lv_ifnonnull (tgt := 14) C.x C.b dX6_bracketed_9 (by decide) ?_
    refine lv_aload_n C.x C.b dX6_bracketed_14 rfl (lv_at hl 1 rfl) ?_
    refine lv_bipush (v := 41) C.x C.b dX6_bracketed_15 (by decide +kernel) ?_
    refine c_callVi (n := 1) (As := [.int 41]) (rest := []) C hP hS hl.1 (NX6_takes l D cy ad A sz0 sa (tP (tI (tI (tI κ 3 n3) 4 n4) 5 n5) P6) H.size (SLT H) C.f (fun q h => C.a q (Nat.le_trans hS.1 h)) (41 : Int32) (vX6_bracketed_13 κ n3 P6 b7 hpre_0 hpre_1 hpre_2 hr2_4_0 hr2_4_1 hr2_4_2)) ⟨cw_593, cw_596, by decide +kernel⟩ ⟨cw_594, cw_595, cw_577⟩ rfl (hP.recvS (k := 1) (ci := 8) C.K rfl rfl) rfl rfl (lv_room (Nat.le_of_ble_eq_true rfl)) ⟨(vX6_bracketed_14 d ), (vX6_bracketed_15 d )⟩ ⟨(vX6_bracketed_16 κ n3 P6 b7 hpre_0 hpre_1 hpre_2 hr2_4_0 hr2_4_1 hr2_4_2), (vX6_bracketed_17 κ n3 P6 b7 hpre_0 hpre_1 hpre_2 hr2_4_0 hr2_4_1 hr2_4_2)⟩ dX6_bracketed_17 (fun r8 u H locs hr8 hP hS => ?_)
    obtain ⟨n9, rfl⟩ : ∃ z, z = u := ⟨_, rfl⟩
    have hP : CH D cy ad A (tI (tP (tI (tI (tI κ 3 n3) 4 n4) 5 n5) P6) 3 n9) H := hP
    obtain ⟨hr8, hr8y⟩ := hr8
    have hr8y : (r8.toInt = 0 → ¬ (cT (κ.2.2.1 10) (κ.1 7)) n3.toInt = (41 : Int32).toInt) ∧ (¬ r8.toInt = 0 → (cT (κ.2.2.1 10) (κ.1 7)) n3.toInt = (41 : Int32).toInt) := hr8y
    have hr8 : (0 ≤ r8.toInt ∧ r8.toInt ≤ 1) ∧ ((r8.toInt = 0 → n9.toInt = n3.toInt) ∧ (¬ r8.toInt = 0 → n9.toInt = n3.toInt + 1 ∧ n3.toInt < (κ.1 7).toInt)) := hr8
    obtain ⟨hr8_0, hr8_1⟩ := hr8
    obtain ⟨hr8y_0, hr8y_1⟩ := hr8y
    obtain ⟨hr8_0_0, hr8_0_1⟩ := hr8_0
    obtain ⟨hr8_1_0, hr8_1_1⟩ := hr8_1
    refine lv_if_ne (tgt := 29) C.x C.b dX6_bracketed_20 (by decide) (fun c10 => ?_) (fun c10 => ?_)
    · have c10 : ¬ r8.toInt = 0 := by have h := z_ne c10; rw [show (0 : Int32).toInt = 0 from by decide +kernel] at h; exact h
      refine lv_aload_n C.x C.b dX6_bracketed_29 rfl (lv_at hl 0 rfl) ?_
      refine lv_iconst (v := 1) C.x C.b dX6_bracketed_30 (by decide +kernel) ?_
      refine pp_X5_7 C hP hS (t20 (a := b7) (t := 2) hb7) (Or.inr rfl) cw_610 dX6_bracketed_31 (fun H locs hP hS => ?_)
      have exz11 : EX P6 (sI P6 5 b7 (1 : Int32)) := (EX.st45 (by decide))
      have pvz11 : PV sa (sI P6 5 b7 (1 : Int32)) := (hr2_1.st45 hb7 (by decide))
      have svz11 : SV ad (sI P6 5 b7 (1 : Int32)) (κ.2.1 0) (κ.2.1 1) (κ.2.2.2.1 6) (κ.2.2.2.1 7) (κ.2.2.2.1 8) (κ.2.2.2.1 13) (κ.2.2.2.1 15) (κ.2.2.2.1 17) (κ.1 1).toInt := hr2_2.ex exz11
      refine lv_aload_n C.x C.b dX6_bracketed_34 rfl (lv_at hl 0 rfl) ?_
      have hP : CH D cy ad A (tP (tI (tI (tI κ 3 n9) 4 n4) 5 n5) (sI P6 5 b7 (1 : Int32))) H := CH.cong hP rfl rfl rfl rfl rfl rfl rfl rfl rfl rfl rfl rfl rfl rfl rfl rfl rfl rfl rfl rfl rfl rfl rfl rfl rfl rfl rfl
      exact c_retq (v := (some b7)) (Or.inl ⟨_, rfl⟩) C hsz hsl ⟨n9, n4, n5, (sI P6 5 b7 (1 : Int32))⟩ ⟨⟨(hr2_0.trans exz11), pvz11, svz11, (nt_s (exz11.T hb7 (by decide))), (vX6_bracketed_18 κ n3 P6 b7 n9 r8 hpre_0 hpre_1 hpre_2 hr2_4_0 hr2_4_1 hr2_4_2 hr8_0_0 hr8_0_1 hr8_1_0 hr8_1_1 c10)⟩, (vX6_bracketed_19 κ k0 d x1 n3 n4 n5 P6 b7 n9 r8 hpre_0 hpre_1 hpre_2 hpre_3 hpre_4 hpre_5 ex1 tx1 hr2y hr2_4_0 hr2_4_1 hr2_4_2 hr8y_0 hr8y_1 hr8_0_0 hr8_0_1 hr8_1_0 hr8_1_1 c10)⟩ hP hS ⟨(vX6_bracketed_20 κ n3 P6 b7 n9 r8 hpre_0 hpre_1 hpre_2 hr2_4_0 hr2_4_1 hr2_4_2 hr8_0_0 hr8_0_1 hr8_1_0 hr8_1_1 c10), (vX6_bracketed_21 κ n3 P6 b7 n9 r8 hpre_0 hpre_1 hpre_2 hr2_4_0 hr2_4_1 hr2_4_2 hr8_0_0 hr8_0_1 hr8_1_0 hr8_1_1 c10)⟩ ⟨(vX6_bracketed_22 κ n3 P6 b7 n9 r8 hpre_0 hpre_1 hpre_2 hr2_4_0 hr2_4_1 hr2_4_2 hr8_0_0 hr8_0_1 hr8_1_0 hr8_1_1 c10), (vX6_bracketed_23 κ n3 P6 b7 n9 r8 hpre_0 hpre_1 hpre_2 hr2_4_0 hr2_4_1 hr2_4_2 hr8_0_0 hr8_0_1 hr8_1_0 hr8_1_1 c10)⟩ dX6_bracketed_35
    · have c10 : r8.toInt = 0 := by have h := z_eq c10; rw [show (0 : Int32).toInt = 0 from by decide +kernel] at h; exact h
      refine lv_aload_n C.x C.b dX6_bracketed_23 rfl (lv_at hl 1 rfl) ?_
      refine lv_iconst (v := 2) C.x C.b dX6_bracketed_24 (by decide +kernel) ?_
      refine c_callVq (n := 1) (As := [.int 2]) (rest := []) C hP hS hl.1 (NX6_refuse l D cy ad A sz0 sa (tI (tP (tI (tI (tI κ 3 n3) 4 n4) 5 n5) P6) 3 n9) H.size (SLT H) C.f (fun q h => C.a q (Nat.le_trans hS.1 h)) (2 : Int32) (vX6_bracketed_24 κ n3 P6 b7 n9 r8 hpre_0 hpre_1 hpre_2 hr2_4_0 hr2_4_1 hr2_4_2 hr8_0_0 hr8_0_1 hr8_1_0 hr8_1_1 c10)) ⟨cw_583, cw_586, by decide +kernel⟩ ⟨cw_584, cw_585, cw_577⟩ rfl (hP.recvS (k := 1) (ci := 8) C.K rfl rfl) rfl rfl (lv_room (Nat.le_of_ble_eq_true rfl)) ⟨(vX6_bracketed_25 d ), (vX6_bracketed_26 d )⟩ ⟨(vX6_bracketed_27 κ n3 P6 b7 n9 r8 hpre_0 hpre_1 hpre_2 hr2_4_0 hr2_4_1 hr2_4_2 hr8_0_0 hr8_0_1 hr8_1_0 hr8_1_1 c10), (vX6_bracketed_28 κ n3 P6 b7 n9 r8 hpre_0 hpre_1 hpre_2 hr2_4_0 hr2_4_1 hr2_4_2 hr8_0_0 hr8_0_1 hr8_1_0 hr8_1_1 c10)⟩ dX6_bracketed_25 (fun r12 u H locs hr12 hP hS => ?_)
      obtain ⟨n13, n14⟩ := u
      have hP : CH D cy ad A (tI (tI (tI (tP (tI (tI (tI κ 3 n3) 4 n4) 5 n5) P6) 3 n9) 4 n13) 5 n14) H := hP
      obtain ⟨hr12, hr12y⟩ := hr12
      have hr12y : r12 = (none : Option Nat) ∧ n13.toInt = (2 : Int32).toInt ∧ n14.toInt = (cT (κ.2.2.1 11) (κ.1 7)) n9.toInt := hr12y
      have hr12 : (NT P6 2 r12) ∧ (cto P6 r12 = 0) := hr12
      obtain ⟨hr12_0, hr12_1⟩ := hr12
      obtain ⟨hr12y_0, hr12y_1, hr12y_2⟩ := hr12y
      have hP : CH D cy ad A (tP (tI (tI (tI κ 3 n9) 4 n13) 5 n14) P6) H := CH.cong hP rfl rfl rfl rfl rfl rfl rfl rfl rfl rfl rfl rfl rfl rfl rfl rfl rfl rfl rfl rfl rfl rfl rfl rfl rfl rfl rfl
      exact c_retq (v := r12) (Or.inl ⟨_, rfl⟩) C hsz hsl ⟨n9, n13, n14, P6⟩ ⟨⟨hr2_0, hr2_1, hr2_2, hr12_0, (vX6_bracketed_29 κ n3 P6 b7 n9 r8 r12 hpre_0 hpre_1 hpre_2 hr2_4_0 hr2_4_1 hr2_4_2 hr8_0_0 hr8_0_1 hr8_1_0 hr8_1_1 c10 hr12_1)⟩, (vX6_bracketed_30 κ k0 d x1 n3 n4 n5 P6 b7 n9 r8 n13 n14 r12 hpre_0 hpre_1 hpre_2 hpre_3 hpre_4 hpre_5 ex1 tx1 hr2y hr2_4_0 hr2_4_1 hr2_4_2 hr8y_0 hr8y_1 hr8_0_0 hr8_0_1 hr8_1_0 hr8_1_1 c10 hr12y_0 hr12y_1 hr12y_2 hr12_1)⟩ hP hS ⟨(vX6_bracketed_31 κ n3 P6 b7 n9 r8 r12 hpre_0 hpre_1 hpre_2 hr2_4_0 hr2_4_1 hr2_4_2 hr8_0_0 hr8_0_1 hr8_1_0 hr8_1_1 c10 hr12_1), (vX6_bracketed_32 κ n3 P6 b7 n9 r8 r12 hpre_0 hpre_1 hpre_2 hr2_4_0 hr2_4_1 hr2_4_2 hr8_0_0 hr8_0_1 hr8_1_0 hr8_1_1 c10 hr12_1)⟩ ⟨(vX6_bracketed_33 κ n3 P6 b7 n9 r8 r12 hpre_0 hpre_1 hpre_2 hr2_4_0 hr2_4_1 hr2_4_2 hr8_0_0 hr8_0_1 hr8_1_0 hr8_1_1 c10 hr12_1), (vX6_bracketed_34 κ n3 P6 b7 n9 r8 r12 hpre_0 hpre_1 hpre_2 hr2_4_0 hr2_4_1 hr2_4_2 hr8_0_0 hr8_0_1 hr8_1_0 hr8_1_1 c10 hr12_1)⟩ dX6_bracketed_28

-- pre:X6_kind@1 @1
theorem vX6_first_1 (κ : KS) (hpre_0 : 0 ≤ (κ.1 3).toInt) (hpre_1 : (κ.1 3).toInt ≤ (κ.1 7).toInt) (hpre_2 : (κ.1 7).toInt ≤ 41) : (κ.1 7).toInt ≤ 41 := by
  first | assumption | omega | (subst_vars; omega) | trivial
-- frames @1
theorem vX6_first_2 (d : Nat)  : 1 + 1 ≤ 16 * d + 27 := by
  first | assumption | omega | (subst_vars; omega) | trivial
-- locals @1
theorem vX6_first_3 (d : Nat)  : 8 + (1 + 11) + 21 ≤ 500 * d + 530 := by
  first | assumption | omega | (subst_vars; omega) | trivial
-- room @1
theorem vX6_first_4 (κ : KS) (hpre_0 : 0 ≤ (κ.1 3).toInt) (hpre_1 : (κ.1 3).toInt ≤ (κ.1 7).toInt) (hpre_2 : (κ.1 7).toInt ≤ 41) : 0 + 0 ≤ (2 * ((κ.1 7).toInt - (κ.1 3).toInt)).toNat := by
  first | assumption | omega | (subst_vars; omega) | trivial
-- room @1
theorem vX6_first_5 (κ : KS) (hpre_0 : 0 ≤ (κ.1 3).toInt) (hpre_1 : (κ.1 3).toInt ≤ (κ.1 7).toInt) (hpre_2 : (κ.1 7).toInt ≤ 41) : 0 + 0 ≤ (16 * ((κ.1 7).toInt - (κ.1 3).toInt)).toNat := by
  first | assumption | omega | (subst_vars; omega) | trivial
-- pre:X6_takes@38 @38
theorem vX6_first_6 (κ : KS) (r1 : Int32) (hpre_0 : 0 ≤ (κ.1 3).toInt) (hpre_1 : (κ.1 3).toInt ≤ (κ.1 7).toInt) (hpre_2 : (κ.1 7).toInt ≤ 41) (hr1 : (¬ r1.toInt = 0 → 0 ≤ (κ.1 3).toInt ∧ (κ.1 3).toInt < (κ.1 7).toInt)) (c2 : ¬ r1.toInt = 1) : 0 ≤ (κ.1 3).toInt ∧ (κ.1 3).toInt ≤ (κ.1 7).toInt ∧ (κ.1 7).toInt ≤ 41 ∧ ¬ (35 : Int32).toInt = 0 := by
  have q35 : (35 : Int32).toInt = 35 := by decide +kernel
  refine ⟨?_, ?_, ?_, ?_⟩ <;> first | assumption | omega | (subst_vars; omega) | trivial
-- frames @38
theorem vX6_first_7 (d : Nat)  : 2 + 1 ≤ 16 * d + 27 := by
  first | assumption | omega | (subst_vars; omega) | trivial
-- locals @38
theorem vX6_first_8 (d : Nat)  : 8 + (2 + 11) + 41 ≤ 500 * d + 530 := by
  first | assumption | omega | (subst_vars; omega) | trivial
-- room @38
theorem vX6_first_9 (κ : KS) (r1 : Int32) (hpre_0 : 0 ≤ (κ.1 3).toInt) (hpre_1 : (κ.1 3).toInt ≤ (κ.1 7).toInt) (hpre_2 : (κ.1 7).toInt ≤ 41) (hr1 : (¬ r1.toInt = 0 → 0 ≤ (κ.1 3).toInt ∧ (κ.1 3).toInt < (κ.1 7).toInt)) (c2 : ¬ r1.toInt = 1) : 0 + 0 + 0 ≤ (2 * ((κ.1 7).toInt - (κ.1 3).toInt)).toNat := by
  first | assumption | omega | (subst_vars; omega) | trivial
-- room @38
theorem vX6_first_10 (κ : KS) (r1 : Int32) (hpre_0 : 0 ≤ (κ.1 3).toInt) (hpre_1 : (κ.1 3).toInt ≤ (κ.1 7).toInt) (hpre_2 : (κ.1 7).toInt ≤ 41) (hr1 : (¬ r1.toInt = 0 → 0 ≤ (κ.1 3).toInt ∧ (κ.1 3).toInt < (κ.1 7).toInt)) (c2 : ¬ r1.toInt = 1) : 0 + 0 + 0 ≤ (16 * ((κ.1 7).toInt - (κ.1 3).toInt)).toNat := by
  first | assumption | omega | (subst_vars; omega) | trivial
-- pre:X6_takes@71 @71
theorem vX6_first_11 (κ : KS) (r1 : Int32) (n4 : Int32) (r3 : Int32) (hpre_0 : 0 ≤ (κ.1 3).toInt) (hpre_1 : (κ.1 3).toInt ≤ (κ.1 7).toInt) (hpre_2 : (κ.1 7).toInt ≤ 41) (hr1 : (¬ r1.toInt = 0 → 0 ≤ (κ.1 3).toInt ∧ (κ.1 3).toInt < (κ.1 7).toInt)) (c2 : ¬ r1.toInt = 1) (hr3_0_0 : 0 ≤ r3.toInt) (hr3_0_1 : r3.toInt ≤ 1) (hr3_1_0 : r3.toInt = 0 → n4.toInt = (κ.1 3).toInt) (hr3_1_1 : ¬ r3.toInt = 0 → n4.toInt = (κ.1 3).toInt + 1 ∧ (κ.1 3).toInt < (κ.1 7).toInt) (c5 : r3.toInt = 0) : 0 ≤ n4.toInt ∧ n4.toInt ≤ (κ.1 7).toInt ∧ (κ.1 7).toInt ≤ 41 ∧ ¬ (40 : Int32).toInt = 0 := by
  have q40 : (40 : Int32).toInt = 40 := by decide +kernel
  refine ⟨?_, ?_, ?_, ?_⟩ <;> first | assumption | omega | (subst_vars; omega) | trivial
-- room @71
theorem vX6_first_12 (κ : KS) (r1 : Int32) (n4 : Int32) (r3 : Int32) (hpre_0 : 0 ≤ (κ.1 3).toInt) (hpre_1 : (κ.1 3).toInt ≤ (κ.1 7).toInt) (hpre_2 : (κ.1 7).toInt ≤ 41) (hr1 : (¬ r1.toInt = 0 → 0 ≤ (κ.1 3).toInt ∧ (κ.1 3).toInt < (κ.1 7).toInt)) (c2 : ¬ r1.toInt = 1) (hr3_0_0 : 0 ≤ r3.toInt) (hr3_0_1 : r3.toInt ≤ 1) (hr3_1_0 : r3.toInt = 0 → n4.toInt = (κ.1 3).toInt) (hr3_1_1 : ¬ r3.toInt = 0 → n4.toInt = (κ.1 3).toInt + 1 ∧ (κ.1 3).toInt < (κ.1 7).toInt) (c5 : r3.toInt = 0) : 0 + 0 + 0 + 0 ≤ (2 * ((κ.1 7).toInt - (κ.1 3).toInt)).toNat := by
  first | assumption | omega | (subst_vars; omega) | trivial
-- room @71
theorem vX6_first_13 (κ : KS) (r1 : Int32) (n4 : Int32) (r3 : Int32) (hpre_0 : 0 ≤ (κ.1 3).toInt) (hpre_1 : (κ.1 3).toInt ≤ (κ.1 7).toInt) (hpre_2 : (κ.1 7).toInt ≤ 41) (hr1 : (¬ r1.toInt = 0 → 0 ≤ (κ.1 3).toInt ∧ (κ.1 3).toInt < (κ.1 7).toInt)) (c2 : ¬ r1.toInt = 1) (hr3_0_0 : 0 ≤ r3.toInt) (hr3_0_1 : r3.toInt ≤ 1) (hr3_1_0 : r3.toInt = 0 → n4.toInt = (κ.1 3).toInt) (hr3_1_1 : ¬ r3.toInt = 0 → n4.toInt = (κ.1 3).toInt + 1 ∧ (κ.1 3).toInt < (κ.1 7).toInt) (c5 : r3.toInt = 0) : 0 + 0 + 0 + 0 ≤ (16 * ((κ.1 7).toInt - (κ.1 3).toInt)).toNat := by
  first | assumption | omega | (subst_vars; omega) | trivial
-- pre:X6_kind@84 @84
theorem vX6_first_14 (κ : KS) (r1 : Int32) (n4 : Int32) (r3 : Int32) (n7 : Int32) (r6 : Int32) (hpre_0 : 0 ≤ (κ.1 3).toInt) (hpre_1 : (κ.1 3).toInt ≤ (κ.1 7).toInt) (hpre_2 : (κ.1 7).toInt ≤ 41) (hr1 : (¬ r1.toInt = 0 → 0 ≤ (κ.1 3).toInt ∧ (κ.1 3).toInt < (κ.1 7).toInt)) (c2 : ¬ r1.toInt = 1) (hr3_0_0 : 0 ≤ r3.toInt) (hr3_0_1 : r3.toInt ≤ 1) (hr3_1_0 : r3.toInt = 0 → n4.toInt = (κ.1 3).toInt) (hr3_1_1 : ¬ r3.toInt = 0 → n4.toInt = (κ.1 3).toInt + 1 ∧ (κ.1 3).toInt < (κ.1 7).toInt) (c5 : r3.toInt = 0) (hr6_0_0 : 0 ≤ r6.toInt) (hr6_0_1 : r6.toInt ≤ 1) (hr6_1_0 : r6.toInt = 0 → n7.toInt = n4.toInt) (hr6_1_1 : ¬ r6.toInt = 0 → n7.toInt = n4.toInt + 1 ∧ n4.toInt < (κ.1 7).toInt) (c8 : r6.toInt = 0) : (κ.1 7).toInt ≤ 41 := by
  first | assumption | omega | (subst_vars; omega) | trivial
-- room @84
theorem vX6_first_15 (κ : KS) (r1 : Int32) (n4 : Int32) (r3 : Int32) (n7 : Int32) (r6 : Int32) (hpre_0 : 0 ≤ (κ.1 3).toInt) (hpre_1 : (κ.1 3).toInt ≤ (κ.1 7).toInt) (hpre_2 : (κ.1 7).toInt ≤ 41) (hr1 : (¬ r1.toInt = 0 → 0 ≤ (κ.1 3).toInt ∧ (κ.1 3).toInt < (κ.1 7).toInt)) (c2 : ¬ r1.toInt = 1) (hr3_0_0 : 0 ≤ r3.toInt) (hr3_0_1 : r3.toInt ≤ 1) (hr3_1_0 : r3.toInt = 0 → n4.toInt = (κ.1 3).toInt) (hr3_1_1 : ¬ r3.toInt = 0 → n4.toInt = (κ.1 3).toInt + 1 ∧ (κ.1 3).toInt < (κ.1 7).toInt) (c5 : r3.toInt = 0) (hr6_0_0 : 0 ≤ r6.toInt) (hr6_0_1 : r6.toInt ≤ 1) (hr6_1_0 : r6.toInt = 0 → n7.toInt = n4.toInt) (hr6_1_1 : ¬ r6.toInt = 0 → n7.toInt = n4.toInt + 1 ∧ n4.toInt < (κ.1 7).toInt) (c8 : r6.toInt = 0) : 0 + 0 + 0 + 0 + 0 ≤ (2 * ((κ.1 7).toInt - (κ.1 3).toInt)).toNat := by
  first | assumption | omega | (subst_vars; omega) | trivial
-- room @84
theorem vX6_first_16 (κ : KS) (r1 : Int32) (n4 : Int32) (r3 : Int32) (n7 : Int32) (r6 : Int32) (hpre_0 : 0 ≤ (κ.1 3).toInt) (hpre_1 : (κ.1 3).toInt ≤ (κ.1 7).toInt) (hpre_2 : (κ.1 7).toInt ≤ 41) (hr1 : (¬ r1.toInt = 0 → 0 ≤ (κ.1 3).toInt ∧ (κ.1 3).toInt < (κ.1 7).toInt)) (c2 : ¬ r1.toInt = 1) (hr3_0_0 : 0 ≤ r3.toInt) (hr3_0_1 : r3.toInt ≤ 1) (hr3_1_0 : r3.toInt = 0 → n4.toInt = (κ.1 3).toInt) (hr3_1_1 : ¬ r3.toInt = 0 → n4.toInt = (κ.1 3).toInt + 1 ∧ (κ.1 3).toInt < (κ.1 7).toInt) (c5 : r3.toInt = 0) (hr6_0_0 : 0 ≤ r6.toInt) (hr6_0_1 : r6.toInt ≤ 1) (hr6_1_0 : r6.toInt = 0 → n7.toInt = n4.toInt) (hr6_1_1 : ¬ r6.toInt = 0 → n7.toInt = n4.toInt + 1 ∧ n4.toInt < (κ.1 7).toInt) (c8 : r6.toInt = 0) : 0 + 0 + 0 + 0 + 0 ≤ (16 * ((κ.1 7).toInt - (κ.1 3).toInt)).toNat := by
  first | assumption | omega | (subst_vars; omega) | trivial
-- pre:X6_refuse@101 @101
theorem vX6_first_17 (κ : KS) (r1 : Int32) (n4 : Int32) (r3 : Int32) (n7 : Int32) (r6 : Int32) (r9 : Int32) (hpre_0 : 0 ≤ (κ.1 3).toInt) (hpre_1 : (κ.1 3).toInt ≤ (κ.1 7).toInt) (hpre_2 : (κ.1 7).toInt ≤ 41) (hr1 : (¬ r1.toInt = 0 → 0 ≤ (κ.1 3).toInt ∧ (κ.1 3).toInt < (κ.1 7).toInt)) (c2 : ¬ r1.toInt = 1) (hr3_0_0 : 0 ≤ r3.toInt) (hr3_0_1 : r3.toInt ≤ 1) (hr3_1_0 : r3.toInt = 0 → n4.toInt = (κ.1 3).toInt) (hr3_1_1 : ¬ r3.toInt = 0 → n4.toInt = (κ.1 3).toInt + 1 ∧ (κ.1 3).toInt < (κ.1 7).toInt) (c5 : r3.toInt = 0) (hr6_0_0 : 0 ≤ r6.toInt) (hr6_0_1 : r6.toInt ≤ 1) (hr6_1_0 : r6.toInt = 0 → n7.toInt = n4.toInt) (hr6_1_1 : ¬ r6.toInt = 0 → n7.toInt = n4.toInt + 1 ∧ n4.toInt < (κ.1 7).toInt) (c8 : r6.toInt = 0) (hr9 : (¬ r9.toInt = 0 → 0 ≤ n7.toInt ∧ n7.toInt < (κ.1 7).toInt)) (c10 : ¬ r9.toInt = 2) : (κ.1 7).toInt ≤ 41 := by
  first | assumption | omega | (subst_vars; omega) | trivial
-- locals @101
theorem vX6_first_18 (d : Nat)  : 8 + (2 + 11) + 21 ≤ 500 * d + 530 := by
  first | assumption | omega | (subst_vars; omega) | trivial
-- room @101
theorem vX6_first_19 (κ : KS) (r1 : Int32) (n4 : Int32) (r3 : Int32) (n7 : Int32) (r6 : Int32) (r9 : Int32) (hpre_0 : 0 ≤ (κ.1 3).toInt) (hpre_1 : (κ.1 3).toInt ≤ (κ.1 7).toInt) (hpre_2 : (κ.1 7).toInt ≤ 41) (hr1 : (¬ r1.toInt = 0 → 0 ≤ (κ.1 3).toInt ∧ (κ.1 3).toInt < (κ.1 7).toInt)) (c2 : ¬ r1.toInt = 1) (hr3_0_0 : 0 ≤ r3.toInt) (hr3_0_1 : r3.toInt ≤ 1) (hr3_1_0 : r3.toInt = 0 → n4.toInt = (κ.1 3).toInt) (hr3_1_1 : ¬ r3.toInt = 0 → n4.toInt = (κ.1 3).toInt + 1 ∧ (κ.1 3).toInt < (κ.1 7).toInt) (c5 : r3.toInt = 0) (hr6_0_0 : 0 ≤ r6.toInt) (hr6_0_1 : r6.toInt ≤ 1) (hr6_1_0 : r6.toInt = 0 → n7.toInt = n4.toInt) (hr6_1_1 : ¬ r6.toInt = 0 → n7.toInt = n4.toInt + 1 ∧ n4.toInt < (κ.1 7).toInt) (c8 : r6.toInt = 0) (hr9 : (¬ r9.toInt = 0 → 0 ≤ n7.toInt ∧ n7.toInt < (κ.1 7).toInt)) (c10 : ¬ r9.toInt = 2) : 0 + 0 + 0 + 0 + 0 + 0 ≤ (2 * ((κ.1 7).toInt - (κ.1 3).toInt)).toNat := by
  first | assumption | omega | (subst_vars; omega) | trivial
-- room @101
theorem vX6_first_20 (κ : KS) (r1 : Int32) (n4 : Int32) (r3 : Int32) (n7 : Int32) (r6 : Int32) (r9 : Int32) (hpre_0 : 0 ≤ (κ.1 3).toInt) (hpre_1 : (κ.1 3).toInt ≤ (κ.1 7).toInt) (hpre_2 : (κ.1 7).toInt ≤ 41) (hr1 : (¬ r1.toInt = 0 → 0 ≤ (κ.1 3).toInt ∧ (κ.1 3).toInt < (κ.1 7).toInt)) (c2 : ¬ r1.toInt = 1) (hr3_0_0 : 0 ≤ r3.toInt) (hr3_0_1 : r3.toInt ≤ 1) (hr3_1_0 : r3.toInt = 0 → n4.toInt = (κ.1 3).toInt) (hr3_1_1 : ¬ r3.toInt = 0 → n4.toInt = (κ.1 3).toInt + 1 ∧ (κ.1 3).toInt < (κ.1 7).toInt) (c5 : r3.toInt = 0) (hr6_0_0 : 0 ≤ r6.toInt) (hr6_0_1 : r6.toInt ≤ 1) (hr6_1_0 : r6.toInt = 0 → n7.toInt = n4.toInt) (hr6_1_1 : ¬ r6.toInt = 0 → n7.toInt = n4.toInt + 1 ∧ n4.toInt < (κ.1 7).toInt) (c8 : r6.toInt = 0) (hr9 : (¬ r9.toInt = 0 → 0 ≤ n7.toInt ∧ n7.toInt < (κ.1 7).toInt)) (c10 : ¬ r9.toInt = 2) : 0 + 0 + 0 + 0 + 0 + 0 ≤ (16 * ((κ.1 7).toInt - (κ.1 3).toInt)).toNat := by
  first | assumption | omega | (subst_vars; omega) | trivial
-- post @104
theorem vX6_first_21 (κ : KS) (r1 : Int32) (n4 : Int32) (r3 : Int32) (n7 : Int32) (r6 : Int32) (r9 : Int32) (r11 : Option Nat) (hpre_0 : 0 ≤ (κ.1 3).toInt) (hpre_1 : (κ.1 3).toInt ≤ (κ.1 7).toInt) (hpre_2 : (κ.1 7).toInt ≤ 41) (hr1 : (¬ r1.toInt = 0 → 0 ≤ (κ.1 3).toInt ∧ (κ.1 3).toInt < (κ.1 7).toInt)) (c2 : ¬ r1.toInt = 1) (hr3_0_0 : 0 ≤ r3.toInt) (hr3_0_1 : r3.toInt ≤ 1) (hr3_1_0 : r3.toInt = 0 → n4.toInt = (κ.1 3).toInt) (hr3_1_1 : ¬ r3.toInt = 0 → n4.toInt = (κ.1 3).toInt + 1 ∧ (κ.1 3).toInt < (κ.1 7).toInt) (c5 : r3.toInt = 0) (hr6_0_0 : 0 ≤ r6.toInt) (hr6_0_1 : r6.toInt ≤ 1) (hr6_1_0 : r6.toInt = 0 → n7.toInt = n4.toInt) (hr6_1_1 : ¬ r6.toInt = 0 → n7.toInt = n4.toInt + 1 ∧ n4.toInt < (κ.1 7).toInt) (c8 : r6.toInt = 0) (hr9 : (¬ r9.toInt = 0 → 0 ≤ n7.toInt ∧ n7.toInt < (κ.1 7).toInt)) (c10 : ¬ r9.toInt = 2) (hr11_1 : cto κ.2.2.2.2 r11 = 0) : (κ.1 3).toInt ≤ n7.toInt ∧ n7.toInt ≤ (κ.1 7).toInt ∧ ((cto κ.2.2.2.2 r11 : Nat) : Int) ≤ 2 * (n7.toInt - (κ.1 3).toInt) := by
  refine ⟨?_, ?_, ?_⟩ <;> first | assumption | omega | (subst_vars; omega) | trivial
-- post2 @104
theorem vX6_first_22 (κ : KS) (k0 : Int32) (d : Nat) (r1 : Int32) (n4 : Int32) (r3 : Int32) (n7 : Int32) (r6 : Int32) (r9 : Int32) (n12 : Int32) (n13 : Int32) (r11 : Option Nat) (hpre_0 : 0 ≤ (κ.1 3).toInt) (hpre_1 : (κ.1 3).toInt ≤ (κ.1 7).toInt) (hpre_2 : (κ.1 7).toInt ≤ 41) (hpre_3 : 0 ≤ k0.toInt) (hpre_4 : k0.toInt ≤ 4) (hpre_5 : 4 ≤ k0.toInt + ((d : Nat) : Int)) (hr1y : r1.toInt = (cT (κ.2.2.1 10) (κ.1 7)) (κ.1 3).toInt) (hr1 : (¬ r1.toInt = 0 → 0 ≤ (κ.1 3).toInt ∧ (κ.1 3).toInt < (κ.1 7).toInt)) (c2 : ¬ r1.toInt = 1) (hr3y_0 : r3.toInt = 0 → ¬ (cT (κ.2.2.1 10) (κ.1 7)) (κ.1 3).toInt = (35 : Int32).toInt) (hr3y_1 : ¬ r3.toInt = 0 → (cT (κ.2.2.1 10) (κ.1 7)) (κ.1 3).toInt = (35 : Int32).toInt) (hr3_0_0 : 0 ≤ r3.toInt) (hr3_0_1 : r3.toInt ≤ 1) (hr3_1_0 : r3.toInt = 0 → n4.toInt = (κ.1 3).toInt) (hr3_1_1 : ¬ r3.toInt = 0 → n4.toInt = (κ.1 3).toInt + 1 ∧ (κ.1 3).toInt < (κ.1 7).toInt) (c5 : r3.toInt = 0) (hr6y_0 : r6.toInt = 0 → ¬ (cT (κ.2.2.1 10) (κ.1 7)) n4.toInt = (40 : Int32).toInt) (hr6y_1 : ¬ r6.toInt = 0 → (cT (κ.2.2.1 10) (κ.1 7)) n4.toInt = (40 : Int32).toInt) (hr6_0_0 : 0 ≤ r6.toInt) (hr6_0_1 : r6.toInt ≤ 1) (hr6_1_0 : r6.toInt = 0 → n7.toInt = n4.toInt) (hr6_1_1 : ¬ r6.toInt = 0 → n7.toInt = n4.toInt + 1 ∧ n4.toInt < (κ.1 7).toInt) (c8 : r6.toInt = 0) (hr9y : r9.toInt = (cT (κ.2.2.1 10) (κ.1 7)) n7.toInt) (hr9 : (¬ r9.toInt = 0 → 0 ≤ n7.toInt ∧ n7.toInt < (κ.1 7).toInt)) (c10 : ¬ r9.toInt = 2) (hr11y_0 : r11 = (none : Option Nat)) (hr11y_1 : n12.toInt = (2 : Int32).toInt) (hr11y_2 : n13.toInt = (cT (κ.2.2.1 11) (κ.1 7)) n7.toInt) (hr11_1 : cto κ.2.2.2.2 r11 = 0) : LG (cT (κ.2.2.1 10) (κ.1 7)) (cT (κ.2.2.1 12) (κ.1 7)) (cT (κ.2.2.1 11) (κ.1 7)) 7 0 false k0.toInt (κ.1 3).toInt κ.2.2.2.2 r11 n7.toInt n12.toInt n13.toInt := by
  have q2 : (2 : Int32).toInt = 2 := by decide +kernel
  have q35 : (35 : Int32).toInt = 35 := by decide +kernel
  have q40 : (40 : Int32).toInt = 40 := by decide +kernel
  have tkhr3y_0 := hr3y_0 c5
  obtain rfl : n4 = (κ.1 3) := Int32.toInt_inj.mp (hr3_1_0 c5)
  have tkhr6y_0 := hr6y_0 c8
  obtain rfl : n7 = (κ.1 3) := Int32.toInt_inj.mp (hr6_1_0 c8)
  obtain rfl := hr11y_0
  first
  | exact gl_fx (by omega) (by omega) (by omega) (by omega) (by omega) (by omega)
  | exact gl_fvx (a1 := (κ.1 3).toInt) (by omega) (by omega) (by omega) (by omega) (by omega)
-- grow @104
theorem vX6_first_23 (κ : KS) (r1 : Int32) (n4 : Int32) (r3 : Int32) (n7 : Int32) (r6 : Int32) (r9 : Int32) (hpre_0 : 0 ≤ (κ.1 3).toInt) (hpre_1 : (κ.1 3).toInt ≤ (κ.1 7).toInt) (hpre_2 : (κ.1 7).toInt ≤ 41) (hr1 : (¬ r1.toInt = 0 → 0 ≤ (κ.1 3).toInt ∧ (κ.1 3).toInt < (κ.1 7).toInt)) (c2 : ¬ r1.toInt = 1) (hr3_0_0 : 0 ≤ r3.toInt) (hr3_0_1 : r3.toInt ≤ 1) (hr3_1_0 : r3.toInt = 0 → n4.toInt = (κ.1 3).toInt) (hr3_1_1 : ¬ r3.toInt = 0 → n4.toInt = (κ.1 3).toInt + 1 ∧ (κ.1 3).toInt < (κ.1 7).toInt) (c5 : r3.toInt = 0) (hr6_0_0 : 0 ≤ r6.toInt) (hr6_0_1 : r6.toInt ≤ 1) (hr6_1_0 : r6.toInt = 0 → n7.toInt = n4.toInt) (hr6_1_1 : ¬ r6.toInt = 0 → n7.toInt = n4.toInt + 1 ∧ n4.toInt < (κ.1 7).toInt) (c8 : r6.toInt = 0) (hr9 : (¬ r9.toInt = 0 → 0 ≤ n7.toInt ∧ n7.toInt < (κ.1 7).toInt)) (c10 : ¬ r9.toInt = 2) : 0 + 0 + 0 + 0 + 0 + 0 ≤ (2 * (n7.toInt - (κ.1 3).toInt)).toNat := by
  first | assumption | omega | (subst_vars; omega) | trivial
-- grow @104
theorem vX6_first_24 (κ : KS) (r1 : Int32) (n4 : Int32) (r3 : Int32) (n7 : Int32) (r6 : Int32) (r9 : Int32) (hpre_0 : 0 ≤ (κ.1 3).toInt) (hpre_1 : (κ.1 3).toInt ≤ (κ.1 7).toInt) (hpre_2 : (κ.1 7).toInt ≤ 41) (hr1 : (¬ r1.toInt = 0 → 0 ≤ (κ.1 3).toInt ∧ (κ.1 3).toInt < (κ.1 7).toInt)) (c2 : ¬ r1.toInt = 1) (hr3_0_0 : 0 ≤ r3.toInt) (hr3_0_1 : r3.toInt ≤ 1) (hr3_1_0 : r3.toInt = 0 → n4.toInt = (κ.1 3).toInt) (hr3_1_1 : ¬ r3.toInt = 0 → n4.toInt = (κ.1 3).toInt + 1 ∧ (κ.1 3).toInt < (κ.1 7).toInt) (c5 : r3.toInt = 0) (hr6_0_0 : 0 ≤ r6.toInt) (hr6_0_1 : r6.toInt ≤ 1) (hr6_1_0 : r6.toInt = 0 → n7.toInt = n4.toInt) (hr6_1_1 : ¬ r6.toInt = 0 → n7.toInt = n4.toInt + 1 ∧ n4.toInt < (κ.1 7).toInt) (c8 : r6.toInt = 0) (hr9 : (¬ r9.toInt = 0 → 0 ≤ n7.toInt ∧ n7.toInt < (κ.1 7).toInt)) (c10 : ¬ r9.toInt = 2) : 0 + 0 + 0 + 0 + 0 + 0 ≤ (16 * (n7.toInt - (κ.1 3).toInt)).toNat := by
  first | assumption | omega | (subst_vars; omega) | trivial
-- growm @104
theorem vX6_first_25 (κ : KS) (r1 : Int32) (n4 : Int32) (r3 : Int32) (n7 : Int32) (r6 : Int32) (r9 : Int32) (hpre_0 : 0 ≤ (κ.1 3).toInt) (hpre_1 : (κ.1 3).toInt ≤ (κ.1 7).toInt) (hpre_2 : (κ.1 7).toInt ≤ 41) (hr1 : (¬ r1.toInt = 0 → 0 ≤ (κ.1 3).toInt ∧ (κ.1 3).toInt < (κ.1 7).toInt)) (c2 : ¬ r1.toInt = 1) (hr3_0_0 : 0 ≤ r3.toInt) (hr3_0_1 : r3.toInt ≤ 1) (hr3_1_0 : r3.toInt = 0 → n4.toInt = (κ.1 3).toInt) (hr3_1_1 : ¬ r3.toInt = 0 → n4.toInt = (κ.1 3).toInt + 1 ∧ (κ.1 3).toInt < (κ.1 7).toInt) (c5 : r3.toInt = 0) (hr6_0_0 : 0 ≤ r6.toInt) (hr6_0_1 : r6.toInt ≤ 1) (hr6_1_0 : r6.toInt = 0 → n7.toInt = n4.toInt) (hr6_1_1 : ¬ r6.toInt = 0 → n7.toInt = n4.toInt + 1 ∧ n4.toInt < (κ.1 7).toInt) (c8 : r6.toInt = 0) (hr9 : (¬ r9.toInt = 0 → 0 ≤ n7.toInt ∧ n7.toInt < (κ.1 7).toInt)) (c10 : ¬ r9.toInt = 2) : (2 * (n7.toInt - (κ.1 3).toInt)).toNat ≤ (2 * ((κ.1 7).toInt - (κ.1 3).toInt)).toNat := by
  first | assumption | omega | (subst_vars; omega) | trivial
-- growm @104
theorem vX6_first_26 (κ : KS) (r1 : Int32) (n4 : Int32) (r3 : Int32) (n7 : Int32) (r6 : Int32) (r9 : Int32) (hpre_0 : 0 ≤ (κ.1 3).toInt) (hpre_1 : (κ.1 3).toInt ≤ (κ.1 7).toInt) (hpre_2 : (κ.1 7).toInt ≤ 41) (hr1 : (¬ r1.toInt = 0 → 0 ≤ (κ.1 3).toInt ∧ (κ.1 3).toInt < (κ.1 7).toInt)) (c2 : ¬ r1.toInt = 1) (hr3_0_0 : 0 ≤ r3.toInt) (hr3_0_1 : r3.toInt ≤ 1) (hr3_1_0 : r3.toInt = 0 → n4.toInt = (κ.1 3).toInt) (hr3_1_1 : ¬ r3.toInt = 0 → n4.toInt = (κ.1 3).toInt + 1 ∧ (κ.1 3).toInt < (κ.1 7).toInt) (c5 : r3.toInt = 0) (hr6_0_0 : 0 ≤ r6.toInt) (hr6_0_1 : r6.toInt ≤ 1) (hr6_1_0 : r6.toInt = 0 → n7.toInt = n4.toInt) (hr6_1_1 : ¬ r6.toInt = 0 → n7.toInt = n4.toInt + 1 ∧ n4.toInt < (κ.1 7).toInt) (c8 : r6.toInt = 0) (hr9 : (¬ r9.toInt = 0 → 0 ≤ n7.toInt ∧ n7.toInt < (κ.1 7).toInt)) (c10 : ¬ r9.toInt = 2) : (16 * (n7.toInt - (κ.1 3).toInt)).toNat ≤ (16 * ((κ.1 7).toInt - (κ.1 3).toInt)).toNat := by
  first | assumption | omega | (subst_vars; omega) | trivial
-- pre:X6_named@93 @93
theorem vX6_first_27 (κ : KS) (k0 : Int32) (d : Nat) (r1 : Int32) (n4 : Int32) (r3 : Int32) (n7 : Int32) (r6 : Int32) (r9 : Int32) (hpre_0 : 0 ≤ (κ.1 3).toInt) (hpre_1 : (κ.1 3).toInt ≤ (κ.1 7).toInt) (hpre_2 : (κ.1 7).toInt ≤ 41) (hpre_3 : 0 ≤ k0.toInt) (hpre_4 : k0.toInt ≤ 4) (hpre_5 : 4 ≤ k0.toInt + ((d : Nat) : Int)) (hr1 : (¬ r1.toInt = 0 → 0 ≤ (κ.1 3).toInt ∧ (κ.1 3).toInt < (κ.1 7).toInt)) (c2 : ¬ r1.toInt = 1) (hr3_0_0 : 0 ≤ r3.toInt) (hr3_0_1 : r3.toInt ≤ 1) (hr3_1_0 : r3.toInt = 0 → n4.toInt = (κ.1 3).toInt) (hr3_1_1 : ¬ r3.toInt = 0 → n4.toInt = (κ.1 3).toInt + 1 ∧ (κ.1 3).toInt < (κ.1 7).toInt) (c5 : r3.toInt = 0) (hr6_0_0 : 0 ≤ r6.toInt) (hr6_0_1 : r6.toInt ≤ 1) (hr6_1_0 : r6.toInt = 0 → n7.toInt = n4.toInt) (hr6_1_1 : ¬ r6.toInt = 0 → n7.toInt = n4.toInt + 1 ∧ n4.toInt < (κ.1 7).toInt) (c8 : r6.toInt = 0) (hr9 : (¬ r9.toInt = 0 → 0 ≤ n7.toInt ∧ n7.toInt < (κ.1 7).toInt)) (c10 : r9.toInt = 2) : 0 ≤ n7.toInt ∧ n7.toInt ≤ (κ.1 7).toInt ∧ (κ.1 7).toInt ≤ 41 ∧ 0 ≤ k0.toInt ∧ k0.toInt ≤ 4 ∧ 4 ≤ k0.toInt + ((d : Nat) : Int) ∧ n7.toInt < (κ.1 7).toInt := by
  refine ⟨?_, ?_, ?_, ?_, ?_, ?_, ?_⟩ <;> first | assumption | omega | (subst_vars; omega) | trivial
-- frames @93
theorem vX6_first_28 (d : Nat)  : 16 * d + 26 + 1 ≤ 16 * d + 27 := by
  first | assumption | omega | (subst_vars; omega) | trivial
-- locals @93
theorem vX6_first_29 (d : Nat)  : 8 + (2 + 11) + (500 * d + 500) ≤ 500 * d + 530 := by
  first | assumption | omega | (subst_vars; omega) | trivial
-- room @93
theorem vX6_first_30 (κ : KS) (r1 : Int32) (n4 : Int32) (r3 : Int32) (n7 : Int32) (r6 : Int32) (r9 : Int32) (hpre_0 : 0 ≤ (κ.1 3).toInt) (hpre_1 : (κ.1 3).toInt ≤ (κ.1 7).toInt) (hpre_2 : (κ.1 7).toInt ≤ 41) (hr1 : (¬ r1.toInt = 0 → 0 ≤ (κ.1 3).toInt ∧ (κ.1 3).toInt < (κ.1 7).toInt)) (c2 : ¬ r1.toInt = 1) (hr3_0_0 : 0 ≤ r3.toInt) (hr3_0_1 : r3.toInt ≤ 1) (hr3_1_0 : r3.toInt = 0 → n4.toInt = (κ.1 3).toInt) (hr3_1_1 : ¬ r3.toInt = 0 → n4.toInt = (κ.1 3).toInt + 1 ∧ (κ.1 3).toInt < (κ.1 7).toInt) (c5 : r3.toInt = 0) (hr6_0_0 : 0 ≤ r6.toInt) (hr6_0_1 : r6.toInt ≤ 1) (hr6_1_0 : r6.toInt = 0 → n7.toInt = n4.toInt) (hr6_1_1 : ¬ r6.toInt = 0 → n7.toInt = n4.toInt + 1 ∧ n4.toInt < (κ.1 7).toInt) (c8 : r6.toInt = 0) (hr9 : (¬ r9.toInt = 0 → 0 ≤ n7.toInt ∧ n7.toInt < (κ.1 7).toInt)) (c10 : r9.toInt = 2) : 0 + 0 + 0 + 0 + 0 + ((2 * ((κ.1 7).toInt - n7.toInt)).toNat) ≤ (2 * ((κ.1 7).toInt - (κ.1 3).toInt)).toNat := by
  first | assumption | omega | (subst_vars; omega) | trivial
-- room @93
theorem vX6_first_31 (κ : KS) (r1 : Int32) (n4 : Int32) (r3 : Int32) (n7 : Int32) (r6 : Int32) (r9 : Int32) (hpre_0 : 0 ≤ (κ.1 3).toInt) (hpre_1 : (κ.1 3).toInt ≤ (κ.1 7).toInt) (hpre_2 : (κ.1 7).toInt ≤ 41) (hr1 : (¬ r1.toInt = 0 → 0 ≤ (κ.1 3).toInt ∧ (κ.1 3).toInt < (κ.1 7).toInt)) (c2 : ¬ r1.toInt = 1) (hr3_0_0 : 0 ≤ r3.toInt) (hr3_0_1 : r3.toInt ≤ 1) (hr3_1_0 : r3.toInt = 0 → n4.toInt = (κ.1 3).toInt) (hr3_1_1 : ¬ r3.toInt = 0 → n4.toInt = (κ.1 3).toInt + 1 ∧ (κ.1 3).toInt < (κ.1 7).toInt) (c5 : r3.toInt = 0) (hr6_0_0 : 0 ≤ r6.toInt) (hr6_0_1 : r6.toInt ≤ 1) (hr6_1_0 : r6.toInt = 0 → n7.toInt = n4.toInt) (hr6_1_1 : ¬ r6.toInt = 0 → n7.toInt = n4.toInt + 1 ∧ n4.toInt < (κ.1 7).toInt) (c8 : r6.toInt = 0) (hr9 : (¬ r9.toInt = 0 → 0 ≤ n7.toInt ∧ n7.toInt < (κ.1 7).toInt)) (c10 : r9.toInt = 2) : 0 + 0 + 0 + 0 + 0 + ((16 * ((κ.1 7).toInt - n7.toInt)).toNat) ≤ (16 * ((κ.1 7).toInt - (κ.1 3).toInt)).toNat := by
  first | assumption | omega | (subst_vars; omega) | trivial
-- post @104
theorem vX6_first_32 (κ : KS) (r1 : Int32) (n4 : Int32) (r3 : Int32) (n7 : Int32) (r6 : Int32) (r9 : Int32) (n15 : Int32) (P18 : PL) (r14 : Option Nat) (hpre_0 : 0 ≤ (κ.1 3).toInt) (hpre_1 : (κ.1 3).toInt ≤ (κ.1 7).toInt) (hpre_2 : (κ.1 7).toInt ≤ 41) (hr1 : (¬ r1.toInt = 0 → 0 ≤ (κ.1 3).toInt ∧ (κ.1 3).toInt < (κ.1 7).toInt)) (c2 : ¬ r1.toInt = 1) (hr3_0_0 : 0 ≤ r3.toInt) (hr3_0_1 : r3.toInt ≤ 1) (hr3_1_0 : r3.toInt = 0 → n4.toInt = (κ.1 3).toInt) (hr3_1_1 : ¬ r3.toInt = 0 → n4.toInt = (κ.1 3).toInt + 1 ∧ (κ.1 3).toInt < (κ.1 7).toInt) (c5 : r3.toInt = 0) (hr6_0_0 : 0 ≤ r6.toInt) (hr6_0_1 : r6.toInt ≤ 1) (hr6_1_0 : r6.toInt = 0 → n7.toInt = n4.toInt) (hr6_1_1 : ¬ r6.toInt = 0 → n7.toInt = n4.toInt + 1 ∧ n4.toInt < (κ.1 7).toInt) (c8 : r6.toInt = 0) (hr9 : (¬ r9.toInt = 0 → 0 ≤ n7.toInt ∧ n7.toInt < (κ.1 7).toInt)) (c10 : r9.toInt = 2) (hr14_4_0 : n7.toInt ≤ n15.toInt) (hr14_4_1 : n15.toInt ≤ (κ.1 7).toInt) (hr14_4_2 : ((cto P18 r14 : Nat) : Int) ≤ 2 * (n15.toInt - n7.toInt)) : (κ.1 3).toInt ≤ n15.toInt ∧ n15.toInt ≤ (κ.1 7).toInt ∧ ((cto P18 r14 : Nat) : Int) ≤ 2 * (n15.toInt - (κ.1 3).toInt) := by
  refine ⟨?_, ?_, ?_⟩ <;> first | assumption | omega | (subst_vars; omega) | trivial
-- post2 @104
theorem vX6_first_33 (κ : KS) (k0 : Int32) (d : Nat) (r1 : Int32) (n4 : Int32) (r3 : Int32) (n7 : Int32) (r6 : Int32) (r9 : Int32) (n15 : Int32) (n16 : Int32) (n17 : Int32) (P18 : PL) (r14 : Option Nat) (hpre_0 : 0 ≤ (κ.1 3).toInt) (hpre_1 : (κ.1 3).toInt ≤ (κ.1 7).toInt) (hpre_2 : (κ.1 7).toInt ≤ 41) (hpre_3 : 0 ≤ k0.toInt) (hpre_4 : k0.toInt ≤ 4) (hpre_5 : 4 ≤ k0.toInt + ((d : Nat) : Int)) (hr1y : r1.toInt = (cT (κ.2.2.1 10) (κ.1 7)) (κ.1 3).toInt) (hr1 : (¬ r1.toInt = 0 → 0 ≤ (κ.1 3).toInt ∧ (κ.1 3).toInt < (κ.1 7).toInt)) (c2 : ¬ r1.toInt = 1) (hr3y_0 : r3.toInt = 0 → ¬ (cT (κ.2.2.1 10) (κ.1 7)) (κ.1 3).toInt = (35 : Int32).toInt) (hr3y_1 : ¬ r3.toInt = 0 → (cT (κ.2.2.1 10) (κ.1 7)) (κ.1 3).toInt = (35 : Int32).toInt) (hr3_0_0 : 0 ≤ r3.toInt) (hr3_0_1 : r3.toInt ≤ 1) (hr3_1_0 : r3.toInt = 0 → n4.toInt = (κ.1 3).toInt) (hr3_1_1 : ¬ r3.toInt = 0 → n4.toInt = (κ.1 3).toInt + 1 ∧ (κ.1 3).toInt < (κ.1 7).toInt) (c5 : r3.toInt = 0) (hr6y_0 : r6.toInt = 0 → ¬ (cT (κ.2.2.1 10) (κ.1 7)) n4.toInt = (40 : Int32).toInt) (hr6y_1 : ¬ r6.toInt = 0 → (cT (κ.2.2.1 10) (κ.1 7)) n4.toInt = (40 : Int32).toInt) (hr6_0_0 : 0 ≤ r6.toInt) (hr6_0_1 : r6.toInt ≤ 1) (hr6_1_0 : r6.toInt = 0 → n7.toInt = n4.toInt) (hr6_1_1 : ¬ r6.toInt = 0 → n7.toInt = n4.toInt + 1 ∧ n4.toInt < (κ.1 7).toInt) (c8 : r6.toInt = 0) (hr9y : r9.toInt = (cT (κ.2.2.1 10) (κ.1 7)) n7.toInt) (hr9 : (¬ r9.toInt = 0 → 0 ≤ n7.toInt ∧ n7.toInt < (κ.1 7).toInt)) (c10 : r9.toInt = 2) (hr14y : LG (cT (κ.2.2.1 10) (κ.1 7)) (cT (κ.2.2.1 12) (κ.1 7)) (cT (κ.2.2.1 11) (κ.1 7)) 9 0 false k0.toInt n7.toInt P18 r14 n15.toInt n16.toInt n17.toInt) (hr14_4_0 : n7.toInt ≤ n15.toInt) (hr14_4_1 : n15.toInt ≤ (κ.1 7).toInt) (hr14_4_2 : ((cto P18 r14 : Nat) : Int) ≤ 2 * (n15.toInt - n7.toInt)) : LG (cT (κ.2.2.1 10) (κ.1 7)) (cT (κ.2.2.1 12) (κ.1 7)) (cT (κ.2.2.1 11) (κ.1 7)) 7 0 false k0.toInt (κ.1 3).toInt P18 r14 n15.toInt n16.toInt n17.toInt := by
  have q35 : (35 : Int32).toInt = 35 := by decide +kernel
  have q40 : (40 : Int32).toInt = 40 := by decide +kernel
  have tkhr3y_0 := hr3y_0 c5
  obtain rfl : n4 = (κ.1 3) := Int32.toInt_inj.mp (hr3_1_0 c5)
  have tkhr6y_0 := hr6y_0 c8
  obtain rfl : n7 = (κ.1 3) := Int32.toInt_inj.mp (hr6_1_0 c8)
  first
  | exact gl_fb (by omega) (by omega) hr14y
  | exact gl_fn (by omega) hr14y
-- grow @104
theorem vX6_first_34 (κ : KS) (r1 : Int32) (n4 : Int32) (r3 : Int32) (n7 : Int32) (r6 : Int32) (r9 : Int32) (n15 : Int32) (P18 : PL) (r14 : Option Nat) (hpre_0 : 0 ≤ (κ.1 3).toInt) (hpre_1 : (κ.1 3).toInt ≤ (κ.1 7).toInt) (hpre_2 : (κ.1 7).toInt ≤ 41) (hr1 : (¬ r1.toInt = 0 → 0 ≤ (κ.1 3).toInt ∧ (κ.1 3).toInt < (κ.1 7).toInt)) (c2 : ¬ r1.toInt = 1) (hr3_0_0 : 0 ≤ r3.toInt) (hr3_0_1 : r3.toInt ≤ 1) (hr3_1_0 : r3.toInt = 0 → n4.toInt = (κ.1 3).toInt) (hr3_1_1 : ¬ r3.toInt = 0 → n4.toInt = (κ.1 3).toInt + 1 ∧ (κ.1 3).toInt < (κ.1 7).toInt) (c5 : r3.toInt = 0) (hr6_0_0 : 0 ≤ r6.toInt) (hr6_0_1 : r6.toInt ≤ 1) (hr6_1_0 : r6.toInt = 0 → n7.toInt = n4.toInt) (hr6_1_1 : ¬ r6.toInt = 0 → n7.toInt = n4.toInt + 1 ∧ n4.toInt < (κ.1 7).toInt) (c8 : r6.toInt = 0) (hr9 : (¬ r9.toInt = 0 → 0 ≤ n7.toInt ∧ n7.toInt < (κ.1 7).toInt)) (c10 : r9.toInt = 2) (hr14_4_0 : n7.toInt ≤ n15.toInt) (hr14_4_1 : n15.toInt ≤ (κ.1 7).toInt) (hr14_4_2 : ((cto P18 r14 : Nat) : Int) ≤ 2 * (n15.toInt - n7.toInt)) : 0 + 0 + 0 + 0 + 0 + ((2 * (n15.toInt - n7.toInt)).toNat) ≤ (2 * (n15.toInt - (κ.1 3).toInt)).toNat := by
  first | assumption | omega | (subst_vars; omega) | trivial
-- grow @104
theorem vX6_first_35 (κ : KS) (r1 : Int32) (n4 : Int32) (r3 : Int32) (n7 : Int32) (r6 : Int32) (r9 : Int32) (n15 : Int32) (P18 : PL) (r14 : Option Nat) (hpre_0 : 0 ≤ (κ.1 3).toInt) (hpre_1 : (κ.1 3).toInt ≤ (κ.1 7).toInt) (hpre_2 : (κ.1 7).toInt ≤ 41) (hr1 : (¬ r1.toInt = 0 → 0 ≤ (κ.1 3).toInt ∧ (κ.1 3).toInt < (κ.1 7).toInt)) (c2 : ¬ r1.toInt = 1) (hr3_0_0 : 0 ≤ r3.toInt) (hr3_0_1 : r3.toInt ≤ 1) (hr3_1_0 : r3.toInt = 0 → n4.toInt = (κ.1 3).toInt) (hr3_1_1 : ¬ r3.toInt = 0 → n4.toInt = (κ.1 3).toInt + 1 ∧ (κ.1 3).toInt < (κ.1 7).toInt) (c5 : r3.toInt = 0) (hr6_0_0 : 0 ≤ r6.toInt) (hr6_0_1 : r6.toInt ≤ 1) (hr6_1_0 : r6.toInt = 0 → n7.toInt = n4.toInt) (hr6_1_1 : ¬ r6.toInt = 0 → n7.toInt = n4.toInt + 1 ∧ n4.toInt < (κ.1 7).toInt) (c8 : r6.toInt = 0) (hr9 : (¬ r9.toInt = 0 → 0 ≤ n7.toInt ∧ n7.toInt < (κ.1 7).toInt)) (c10 : r9.toInt = 2) (hr14_4_0 : n7.toInt ≤ n15.toInt) (hr14_4_1 : n15.toInt ≤ (κ.1 7).toInt) (hr14_4_2 : ((cto P18 r14 : Nat) : Int) ≤ 2 * (n15.toInt - n7.toInt)) : 0 + 0 + 0 + 0 + 0 + ((16 * (n15.toInt - n7.toInt)).toNat) ≤ (16 * (n15.toInt - (κ.1 3).toInt)).toNat := by
  first | assumption | omega | (subst_vars; omega) | trivial
-- growm @104
theorem vX6_first_36 (κ : KS) (r1 : Int32) (n4 : Int32) (r3 : Int32) (n7 : Int32) (r6 : Int32) (r9 : Int32) (n15 : Int32) (P18 : PL) (r14 : Option Nat) (hpre_0 : 0 ≤ (κ.1 3).toInt) (hpre_1 : (κ.1 3).toInt ≤ (κ.1 7).toInt) (hpre_2 : (κ.1 7).toInt ≤ 41) (hr1 : (¬ r1.toInt = 0 → 0 ≤ (κ.1 3).toInt ∧ (κ.1 3).toInt < (κ.1 7).toInt)) (c2 : ¬ r1.toInt = 1) (hr3_0_0 : 0 ≤ r3.toInt) (hr3_0_1 : r3.toInt ≤ 1) (hr3_1_0 : r3.toInt = 0 → n4.toInt = (κ.1 3).toInt) (hr3_1_1 : ¬ r3.toInt = 0 → n4.toInt = (κ.1 3).toInt + 1 ∧ (κ.1 3).toInt < (κ.1 7).toInt) (c5 : r3.toInt = 0) (hr6_0_0 : 0 ≤ r6.toInt) (hr6_0_1 : r6.toInt ≤ 1) (hr6_1_0 : r6.toInt = 0 → n7.toInt = n4.toInt) (hr6_1_1 : ¬ r6.toInt = 0 → n7.toInt = n4.toInt + 1 ∧ n4.toInt < (κ.1 7).toInt) (c8 : r6.toInt = 0) (hr9 : (¬ r9.toInt = 0 → 0 ≤ n7.toInt ∧ n7.toInt < (κ.1 7).toInt)) (c10 : r9.toInt = 2) (hr14_4_0 : n7.toInt ≤ n15.toInt) (hr14_4_1 : n15.toInt ≤ (κ.1 7).toInt) (hr14_4_2 : ((cto P18 r14 : Nat) : Int) ≤ 2 * (n15.toInt - n7.toInt)) : (2 * (n15.toInt - (κ.1 3).toInt)).toNat ≤ (2 * ((κ.1 7).toInt - (κ.1 3).toInt)).toNat := by
  first | assumption | omega | (subst_vars; omega) | trivial
-- growm @104
theorem vX6_first_37 (κ : KS) (r1 : Int32) (n4 : Int32) (r3 : Int32) (n7 : Int32) (r6 : Int32) (r9 : Int32) (n15 : Int32) (P18 : PL) (r14 : Option Nat) (hpre_0 : 0 ≤ (κ.1 3).toInt) (hpre_1 : (κ.1 3).toInt ≤ (κ.1 7).toInt) (hpre_2 : (κ.1 7).toInt ≤ 41) (hr1 : (¬ r1.toInt = 0 → 0 ≤ (κ.1 3).toInt ∧ (κ.1 3).toInt < (κ.1 7).toInt)) (c2 : ¬ r1.toInt = 1) (hr3_0_0 : 0 ≤ r3.toInt) (hr3_0_1 : r3.toInt ≤ 1) (hr3_1_0 : r3.toInt = 0 → n4.toInt = (κ.1 3).toInt) (hr3_1_1 : ¬ r3.toInt = 0 → n4.toInt = (κ.1 3).toInt + 1 ∧ (κ.1 3).toInt < (κ.1 7).toInt) (c5 : r3.toInt = 0) (hr6_0_0 : 0 ≤ r6.toInt) (hr6_0_1 : r6.toInt ≤ 1) (hr6_1_0 : r6.toInt = 0 → n7.toInt = n4.toInt) (hr6_1_1 : ¬ r6.toInt = 0 → n7.toInt = n4.toInt + 1 ∧ n4.toInt < (κ.1 7).toInt) (c8 : r6.toInt = 0) (hr9 : (¬ r9.toInt = 0 → 0 ≤ n7.toInt ∧ n7.toInt < (κ.1 7).toInt)) (c10 : r9.toInt = 2) (hr14_4_0 : n7.toInt ≤ n15.toInt) (hr14_4_1 : n15.toInt ≤ (κ.1 7).toInt) (hr14_4_2 : ((cto P18 r14 : Nat) : Int) ≤ 2 * (n15.toInt - n7.toInt)) : (16 * (n15.toInt - (κ.1 3).toInt)).toNat ≤ (16 * ((κ.1 7).toInt - (κ.1 3).toInt)).toNat := by
  first | assumption | omega | (subst_vars; omega) | trivial
-- pre:X6_bracketed@79 @79
theorem vX6_first_38 (κ : KS) (k0 : Int32) (d : Nat) (r1 : Int32) (n4 : Int32) (r3 : Int32) (n7 : Int32) (r6 : Int32) (hpre_0 : 0 ≤ (κ.1 3).toInt) (hpre_1 : (κ.1 3).toInt ≤ (κ.1 7).toInt) (hpre_2 : (κ.1 7).toInt ≤ 41) (hpre_3 : 0 ≤ k0.toInt) (hpre_4 : k0.toInt ≤ 4) (hpre_5 : 4 ≤ k0.toInt + ((d : Nat) : Int)) (hr1 : (¬ r1.toInt = 0 → 0 ≤ (κ.1 3).toInt ∧ (κ.1 3).toInt < (κ.1 7).toInt)) (c2 : ¬ r1.toInt = 1) (hr3_0_0 : 0 ≤ r3.toInt) (hr3_0_1 : r3.toInt ≤ 1) (hr3_1_0 : r3.toInt = 0 → n4.toInt = (κ.1 3).toInt) (hr3_1_1 : ¬ r3.toInt = 0 → n4.toInt = (κ.1 3).toInt + 1 ∧ (κ.1 3).toInt < (κ.1 7).toInt) (c5 : r3.toInt = 0) (hr6_0_0 : 0 ≤ r6.toInt) (hr6_0_1 : r6.toInt ≤ 1) (hr6_1_0 : r6.toInt = 0 → n7.toInt = n4.toInt) (hr6_1_1 : ¬ r6.toInt = 0 → n7.toInt = n4.toInt + 1 ∧ n4.toInt < (κ.1 7).toInt) (c8 : ¬ r6.toInt = 0) : 0 ≤ n7.toInt ∧ n7.toInt ≤ (κ.1 7).toInt ∧ (κ.1 7).toInt ≤ 41 ∧ 0 ≤ k0.toInt ∧ k0.toInt ≤ 4 ∧ 4 ≤ k0.toInt + ((d : Nat) : Int) := by
  refine ⟨?_, ?_, ?_, ?_, ?_, ?_⟩ <;> first | assumption | omega | (subst_vars; omega) | trivial
-- locals @79
theorem vX6_first_39 (d : Nat)  : 8 + (3 + 11) + (500 * d + 500) ≤ 500 * d + 530 := by
  first | assumption | omega | (subst_vars; omega) | trivial
-- room @79
theorem vX6_first_40 (κ : KS) (r1 : Int32) (n4 : Int32) (r3 : Int32) (n7 : Int32) (r6 : Int32) (hpre_0 : 0 ≤ (κ.1 3).toInt) (hpre_1 : (κ.1 3).toInt ≤ (κ.1 7).toInt) (hpre_2 : (κ.1 7).toInt ≤ 41) (hr1 : (¬ r1.toInt = 0 → 0 ≤ (κ.1 3).toInt ∧ (κ.1 3).toInt < (κ.1 7).toInt)) (c2 : ¬ r1.toInt = 1) (hr3_0_0 : 0 ≤ r3.toInt) (hr3_0_1 : r3.toInt ≤ 1) (hr3_1_0 : r3.toInt = 0 → n4.toInt = (κ.1 3).toInt) (hr3_1_1 : ¬ r3.toInt = 0 → n4.toInt = (κ.1 3).toInt + 1 ∧ (κ.1 3).toInt < (κ.1 7).toInt) (c5 : r3.toInt = 0) (hr6_0_0 : 0 ≤ r6.toInt) (hr6_0_1 : r6.toInt ≤ 1) (hr6_1_0 : r6.toInt = 0 → n7.toInt = n4.toInt) (hr6_1_1 : ¬ r6.toInt = 0 → n7.toInt = n4.toInt + 1 ∧ n4.toInt < (κ.1 7).toInt) (c8 : ¬ r6.toInt = 0) : 0 + 0 + 0 + 0 + ((2 * ((κ.1 7).toInt - n7.toInt)).toNat) ≤ (2 * ((κ.1 7).toInt - (κ.1 3).toInt)).toNat := by
  first | assumption | omega | (subst_vars; omega) | trivial
-- room @79
theorem vX6_first_41 (κ : KS) (r1 : Int32) (n4 : Int32) (r3 : Int32) (n7 : Int32) (r6 : Int32) (hpre_0 : 0 ≤ (κ.1 3).toInt) (hpre_1 : (κ.1 3).toInt ≤ (κ.1 7).toInt) (hpre_2 : (κ.1 7).toInt ≤ 41) (hr1 : (¬ r1.toInt = 0 → 0 ≤ (κ.1 3).toInt ∧ (κ.1 3).toInt < (κ.1 7).toInt)) (c2 : ¬ r1.toInt = 1) (hr3_0_0 : 0 ≤ r3.toInt) (hr3_0_1 : r3.toInt ≤ 1) (hr3_1_0 : r3.toInt = 0 → n4.toInt = (κ.1 3).toInt) (hr3_1_1 : ¬ r3.toInt = 0 → n4.toInt = (κ.1 3).toInt + 1 ∧ (κ.1 3).toInt < (κ.1 7).toInt) (c5 : r3.toInt = 0) (hr6_0_0 : 0 ≤ r6.toInt) (hr6_0_1 : r6.toInt ≤ 1) (hr6_1_0 : r6.toInt = 0 → n7.toInt = n4.toInt) (hr6_1_1 : ¬ r6.toInt = 0 → n7.toInt = n4.toInt + 1 ∧ n4.toInt < (κ.1 7).toInt) (c8 : ¬ r6.toInt = 0) : 0 + 0 + 0 + 0 + ((16 * ((κ.1 7).toInt - n7.toInt)).toNat) ≤ (16 * ((κ.1 7).toInt - (κ.1 3).toInt)).toNat := by
  first | assumption | omega | (subst_vars; omega) | trivial
-- post @82
theorem vX6_first_42 (κ : KS) (r1 : Int32) (n4 : Int32) (r3 : Int32) (n7 : Int32) (r6 : Int32) (n20 : Int32) (P23 : PL) (r19 : Option Nat) (hpre_0 : 0 ≤ (κ.1 3).toInt) (hpre_1 : (κ.1 3).toInt ≤ (κ.1 7).toInt) (hpre_2 : (κ.1 7).toInt ≤ 41) (hr1 : (¬ r1.toInt = 0 → 0 ≤ (κ.1 3).toInt ∧ (κ.1 3).toInt < (κ.1 7).toInt)) (c2 : ¬ r1.toInt = 1) (hr3_0_0 : 0 ≤ r3.toInt) (hr3_0_1 : r3.toInt ≤ 1) (hr3_1_0 : r3.toInt = 0 → n4.toInt = (κ.1 3).toInt) (hr3_1_1 : ¬ r3.toInt = 0 → n4.toInt = (κ.1 3).toInt + 1 ∧ (κ.1 3).toInt < (κ.1 7).toInt) (c5 : r3.toInt = 0) (hr6_0_0 : 0 ≤ r6.toInt) (hr6_0_1 : r6.toInt ≤ 1) (hr6_1_0 : r6.toInt = 0 → n7.toInt = n4.toInt) (hr6_1_1 : ¬ r6.toInt = 0 → n7.toInt = n4.toInt + 1 ∧ n4.toInt < (κ.1 7).toInt) (c8 : ¬ r6.toInt = 0) (hr19_4_0 : n7.toInt ≤ n20.toInt) (hr19_4_1 : n20.toInt ≤ (κ.1 7).toInt) (hr19_4_2 : ((cto P23 r19 : Nat) : Int) ≤ 2 * (n20.toInt - n7.toInt)) : (κ.1 3).toInt ≤ n20.toInt ∧ n20.toInt ≤ (κ.1 7).toInt ∧ ((cto P23 r19 : Nat) : Int) ≤ 2 * (n20.toInt - (κ.1 3).toInt) := by
  refine ⟨?_, ?_, ?_⟩ <;> first | assumption | omega | (subst_vars; omega) | trivial
-- post2 @82
theorem vX6_first_43 (κ : KS) (k0 : Int32) (d : Nat) (r1 : Int32) (n4 : Int32) (r3 : Int32) (n7 : Int32) (r6 : Int32) (n20 : Int32) (n21 : Int32) (n22 : Int32) (P23 : PL) (r19 : Option Nat) (hpre_0 : 0 ≤ (κ.1 3).toInt) (hpre_1 : (κ.1 3).toInt ≤ (κ.1 7).toInt) (hpre_2 : (κ.1 7).toInt ≤ 41) (hpre_3 : 0 ≤ k0.toInt) (hpre_4 : k0.toInt ≤ 4) (hpre_5 : 4 ≤ k0.toInt + ((d : Nat) : Int)) (hr1y : r1.toInt = (cT (κ.2.2.1 10) (κ.1 7)) (κ.1 3).toInt) (hr1 : (¬ r1.toInt = 0 → 0 ≤ (κ.1 3).toInt ∧ (κ.1 3).toInt < (κ.1 7).toInt)) (c2 : ¬ r1.toInt = 1) (hr3y_0 : r3.toInt = 0 → ¬ (cT (κ.2.2.1 10) (κ.1 7)) (κ.1 3).toInt = (35 : Int32).toInt) (hr3y_1 : ¬ r3.toInt = 0 → (cT (κ.2.2.1 10) (κ.1 7)) (κ.1 3).toInt = (35 : Int32).toInt) (hr3_0_0 : 0 ≤ r3.toInt) (hr3_0_1 : r3.toInt ≤ 1) (hr3_1_0 : r3.toInt = 0 → n4.toInt = (κ.1 3).toInt) (hr3_1_1 : ¬ r3.toInt = 0 → n4.toInt = (κ.1 3).toInt + 1 ∧ (κ.1 3).toInt < (κ.1 7).toInt) (c5 : r3.toInt = 0) (hr6y_0 : r6.toInt = 0 → ¬ (cT (κ.2.2.1 10) (κ.1 7)) n4.toInt = (40 : Int32).toInt) (hr6y_1 : ¬ r6.toInt = 0 → (cT (κ.2.2.1 10) (κ.1 7)) n4.toInt = (40 : Int32).toInt) (hr6_0_0 : 0 ≤ r6.toInt) (hr6_0_1 : r6.toInt ≤ 1) (hr6_1_0 : r6.toInt = 0 → n7.toInt = n4.toInt) (hr6_1_1 : ¬ r6.toInt = 0 → n7.toInt = n4.toInt + 1 ∧ n4.toInt < (κ.1 7).toInt) (c8 : ¬ r6.toInt = 0) (hr19y : LG (cT (κ.2.2.1 10) (κ.1 7)) (cT (κ.2.2.1 12) (κ.1 7)) (cT (κ.2.2.1 11) (κ.1 7)) 8 0 false k0.toInt n7.toInt P23 r19 n20.toInt n21.toInt n22.toInt) (hr19_4_0 : n7.toInt ≤ n20.toInt) (hr19_4_1 : n20.toInt ≤ (κ.1 7).toInt) (hr19_4_2 : ((cto P23 r19 : Nat) : Int) ≤ 2 * (n20.toInt - n7.toInt)) : LG (cT (κ.2.2.1 10) (κ.1 7)) (cT (κ.2.2.1 12) (κ.1 7)) (cT (κ.2.2.1 11) (κ.1 7)) 7 0 false k0.toInt (κ.1 3).toInt P23 r19 n20.toInt n21.toInt n22.toInt := by
  have q35 : (35 : Int32).toInt = 35 := by decide +kernel
  have q40 : (40 : Int32).toInt = 40 := by decide +kernel
  have tkhr3y_0 := hr3y_0 c5
  obtain rfl : n4 = (κ.1 3) := Int32.toInt_inj.mp (hr3_1_0 c5)
  have tkhr6y_1 := hr6y_1 c8
  first
  | exact gl_fb (by omega) (by omega) hr19y
  | exact gl_fn (by omega) hr19y
-- grow @82
theorem vX6_first_44 (κ : KS) (r1 : Int32) (n4 : Int32) (r3 : Int32) (n7 : Int32) (r6 : Int32) (n20 : Int32) (P23 : PL) (r19 : Option Nat) (hpre_0 : 0 ≤ (κ.1 3).toInt) (hpre_1 : (κ.1 3).toInt ≤ (κ.1 7).toInt) (hpre_2 : (κ.1 7).toInt ≤ 41) (hr1 : (¬ r1.toInt = 0 → 0 ≤ (κ.1 3).toInt ∧ (κ.1 3).toInt < (κ.1 7).toInt)) (c2 : ¬ r1.toInt = 1) (hr3_0_0 : 0 ≤ r3.toInt) (hr3_0_1 : r3.toInt ≤ 1) (hr3_1_0 : r3.toInt = 0 → n4.toInt = (κ.1 3).toInt) (hr3_1_1 : ¬ r3.toInt = 0 → n4.toInt = (κ.1 3).toInt + 1 ∧ (κ.1 3).toInt < (κ.1 7).toInt) (c5 : r3.toInt = 0) (hr6_0_0 : 0 ≤ r6.toInt) (hr6_0_1 : r6.toInt ≤ 1) (hr6_1_0 : r6.toInt = 0 → n7.toInt = n4.toInt) (hr6_1_1 : ¬ r6.toInt = 0 → n7.toInt = n4.toInt + 1 ∧ n4.toInt < (κ.1 7).toInt) (c8 : ¬ r6.toInt = 0) (hr19_4_0 : n7.toInt ≤ n20.toInt) (hr19_4_1 : n20.toInt ≤ (κ.1 7).toInt) (hr19_4_2 : ((cto P23 r19 : Nat) : Int) ≤ 2 * (n20.toInt - n7.toInt)) : 0 + 0 + 0 + 0 + ((2 * (n20.toInt - n7.toInt)).toNat) ≤ (2 * (n20.toInt - (κ.1 3).toInt)).toNat := by
  first | assumption | omega | (subst_vars; omega) | trivial
-- grow @82
theorem vX6_first_45 (κ : KS) (r1 : Int32) (n4 : Int32) (r3 : Int32) (n7 : Int32) (r6 : Int32) (n20 : Int32) (P23 : PL) (r19 : Option Nat) (hpre_0 : 0 ≤ (κ.1 3).toInt) (hpre_1 : (κ.1 3).toInt ≤ (κ.1 7).toInt) (hpre_2 : (κ.1 7).toInt ≤ 41) (hr1 : (¬ r1.toInt = 0 → 0 ≤ (κ.1 3).toInt ∧ (κ.1 3).toInt < (κ.1 7).toInt)) (c2 : ¬ r1.toInt = 1) (hr3_0_0 : 0 ≤ r3.toInt) (hr3_0_1 : r3.toInt ≤ 1) (hr3_1_0 : r3.toInt = 0 → n4.toInt = (κ.1 3).toInt) (hr3_1_1 : ¬ r3.toInt = 0 → n4.toInt = (κ.1 3).toInt + 1 ∧ (κ.1 3).toInt < (κ.1 7).toInt) (c5 : r3.toInt = 0) (hr6_0_0 : 0 ≤ r6.toInt) (hr6_0_1 : r6.toInt ≤ 1) (hr6_1_0 : r6.toInt = 0 → n7.toInt = n4.toInt) (hr6_1_1 : ¬ r6.toInt = 0 → n7.toInt = n4.toInt + 1 ∧ n4.toInt < (κ.1 7).toInt) (c8 : ¬ r6.toInt = 0) (hr19_4_0 : n7.toInt ≤ n20.toInt) (hr19_4_1 : n20.toInt ≤ (κ.1 7).toInt) (hr19_4_2 : ((cto P23 r19 : Nat) : Int) ≤ 2 * (n20.toInt - n7.toInt)) : 0 + 0 + 0 + 0 + ((16 * (n20.toInt - n7.toInt)).toNat) ≤ (16 * (n20.toInt - (κ.1 3).toInt)).toNat := by
  first | assumption | omega | (subst_vars; omega) | trivial
-- growm @82
theorem vX6_first_46 (κ : KS) (r1 : Int32) (n4 : Int32) (r3 : Int32) (n7 : Int32) (r6 : Int32) (n20 : Int32) (P23 : PL) (r19 : Option Nat) (hpre_0 : 0 ≤ (κ.1 3).toInt) (hpre_1 : (κ.1 3).toInt ≤ (κ.1 7).toInt) (hpre_2 : (κ.1 7).toInt ≤ 41) (hr1 : (¬ r1.toInt = 0 → 0 ≤ (κ.1 3).toInt ∧ (κ.1 3).toInt < (κ.1 7).toInt)) (c2 : ¬ r1.toInt = 1) (hr3_0_0 : 0 ≤ r3.toInt) (hr3_0_1 : r3.toInt ≤ 1) (hr3_1_0 : r3.toInt = 0 → n4.toInt = (κ.1 3).toInt) (hr3_1_1 : ¬ r3.toInt = 0 → n4.toInt = (κ.1 3).toInt + 1 ∧ (κ.1 3).toInt < (κ.1 7).toInt) (c5 : r3.toInt = 0) (hr6_0_0 : 0 ≤ r6.toInt) (hr6_0_1 : r6.toInt ≤ 1) (hr6_1_0 : r6.toInt = 0 → n7.toInt = n4.toInt) (hr6_1_1 : ¬ r6.toInt = 0 → n7.toInt = n4.toInt + 1 ∧ n4.toInt < (κ.1 7).toInt) (c8 : ¬ r6.toInt = 0) (hr19_4_0 : n7.toInt ≤ n20.toInt) (hr19_4_1 : n20.toInt ≤ (κ.1 7).toInt) (hr19_4_2 : ((cto P23 r19 : Nat) : Int) ≤ 2 * (n20.toInt - n7.toInt)) : (2 * (n20.toInt - (κ.1 3).toInt)).toNat ≤ (2 * ((κ.1 7).toInt - (κ.1 3).toInt)).toNat := by
  first | assumption | omega | (subst_vars; omega) | trivial
-- growm @82
theorem vX6_first_47 (κ : KS) (r1 : Int32) (n4 : Int32) (r3 : Int32) (n7 : Int32) (r6 : Int32) (n20 : Int32) (P23 : PL) (r19 : Option Nat) (hpre_0 : 0 ≤ (κ.1 3).toInt) (hpre_1 : (κ.1 3).toInt ≤ (κ.1 7).toInt) (hpre_2 : (κ.1 7).toInt ≤ 41) (hr1 : (¬ r1.toInt = 0 → 0 ≤ (κ.1 3).toInt ∧ (κ.1 3).toInt < (κ.1 7).toInt)) (c2 : ¬ r1.toInt = 1) (hr3_0_0 : 0 ≤ r3.toInt) (hr3_0_1 : r3.toInt ≤ 1) (hr3_1_0 : r3.toInt = 0 → n4.toInt = (κ.1 3).toInt) (hr3_1_1 : ¬ r3.toInt = 0 → n4.toInt = (κ.1 3).toInt + 1 ∧ (κ.1 3).toInt < (κ.1 7).toInt) (c5 : r3.toInt = 0) (hr6_0_0 : 0 ≤ r6.toInt) (hr6_0_1 : r6.toInt ≤ 1) (hr6_1_0 : r6.toInt = 0 → n7.toInt = n4.toInt) (hr6_1_1 : ¬ r6.toInt = 0 → n7.toInt = n4.toInt + 1 ∧ n4.toInt < (κ.1 7).toInt) (c8 : ¬ r6.toInt = 0) (hr19_4_0 : n7.toInt ≤ n20.toInt) (hr19_4_1 : n20.toInt ≤ (κ.1 7).toInt) (hr19_4_2 : ((cto P23 r19 : Nat) : Int) ≤ 2 * (n20.toInt - n7.toInt)) : (16 * (n20.toInt - (κ.1 3).toInt)).toNat ≤ (16 * ((κ.1 7).toInt - (κ.1 3).toInt)).toNat := by
  first | assumption | omega | (subst_vars; omega) | trivial
-- pre:X6_kind@45 @45
theorem vX6_first_48 (κ : KS) (r1 : Int32) (n4 : Int32) (r3 : Int32) (hpre_0 : 0 ≤ (κ.1 3).toInt) (hpre_1 : (κ.1 3).toInt ≤ (κ.1 7).toInt) (hpre_2 : (κ.1 7).toInt ≤ 41) (hr1 : (¬ r1.toInt = 0 → 0 ≤ (κ.1 3).toInt ∧ (κ.1 3).toInt < (κ.1 7).toInt)) (c2 : ¬ r1.toInt = 1) (hr3_0_0 : 0 ≤ r3.toInt) (hr3_0_1 : r3.toInt ≤ 1) (hr3_1_0 : r3.toInt = 0 → n4.toInt = (κ.1 3).toInt) (hr3_1_1 : ¬ r3.toInt = 0 → n4.toInt = (κ.1 3).toInt + 1 ∧ (κ.1 3).toInt < (κ.1 7).toInt) (c5 : ¬ r3.toInt = 0) : (κ.1 7).toInt ≤ 41 := by
  first | assumption | omega | (subst_vars; omega) | trivial
-- room @45
theorem vX6_first_49 (κ : KS) (r1 : Int32) (n4 : Int32) (r3 : Int32) (hpre_0 : 0 ≤ (κ.1 3).toInt) (hpre_1 : (κ.1 3).toInt ≤ (κ.1 7).toInt) (hpre_2 : (κ.1 7).toInt ≤ 41) (hr1 : (¬ r1.toInt = 0 → 0 ≤ (κ.1 3).toInt ∧ (κ.1 3).toInt < (κ.1 7).toInt)) (c2 : ¬ r1.toInt = 1) (hr3_0_0 : 0 ≤ r3.toInt) (hr3_0_1 : r3.toInt ≤ 1) (hr3_1_0 : r3.toInt = 0 → n4.toInt = (κ.1 3).toInt) (hr3_1_1 : ¬ r3.toInt = 0 → n4.toInt = (κ.1 3).toInt + 1 ∧ (κ.1 3).toInt < (κ.1 7).toInt) (c5 : ¬ r3.toInt = 0) : 0 + 0 + 0 + 0 ≤ (2 * ((κ.1 7).toInt - (κ.1 3).toInt)).toNat := by
  first | assumption | omega | (subst_vars; omega) | trivial
-- room @45
theorem vX6_first_50 (κ : KS) (r1 : Int32) (n4 : Int32) (r3 : Int32) (hpre_0 : 0 ≤ (κ.1 3).toInt) (hpre_1 : (κ.1 3).toInt ≤ (κ.1 7).toInt) (hpre_2 : (κ.1 7).toInt ≤ 41) (hr1 : (¬ r1.toInt = 0 → 0 ≤ (κ.1 3).toInt ∧ (κ.1 3).toInt < (κ.1 7).toInt)) (c2 : ¬ r1.toInt = 1) (hr3_0_0 : 0 ≤ r3.toInt) (hr3_0_1 : r3.toInt ≤ 1) (hr3_1_0 : r3.toInt = 0 → n4.toInt = (κ.1 3).toInt) (hr3_1_1 : ¬ r3.toInt = 0 → n4.toInt = (κ.1 3).toInt + 1 ∧ (κ.1 3).toInt < (κ.1 7).toInt) (c5 : ¬ r3.toInt = 0) : 0 + 0 + 0 + 0 ≤ (16 * ((κ.1 7).toInt - (κ.1 3).toInt)).toNat := by
  first | assumption | omega | (subst_vars; omega) | trivial
-- pre:X6_refuse@64 @64
theorem vX6_first_51 (κ : KS) (r1 : Int32) (n4 : Int32) (r3 : Int32) (r24 : Int32) (hpre_0 : 0 ≤ (κ.1 3).toInt) (hpre_1 : (κ.1 3).toInt ≤ (κ.1 7).toInt) (hpre_2 : (κ.1 7).toInt ≤ 41) (hr1 : (¬ r1.toInt = 0 → 0 ≤ (κ.1 3).toInt ∧ (κ.1 3).toInt < (κ.1 7).toInt)) (c2 : ¬ r1.toInt = 1) (hr3_0_0 : 0 ≤ r3.toInt) (hr3_0_1 : r3.toInt ≤ 1) (hr3_1_0 : r3.toInt = 0 → n4.toInt = (κ.1 3).toInt) (hr3_1_1 : ¬ r3.toInt = 0 → n4.toInt = (κ.1 3).toInt + 1 ∧ (κ.1 3).toInt < (κ.1 7).toInt) (c5 : ¬ r3.toInt = 0) (hr24 : (¬ r24.toInt = 0 → 0 ≤ n4.toInt ∧ n4.toInt < (κ.1 7).toInt)) (c25 : ¬ r24.toInt = 2) : (κ.1 7).toInt ≤ 41 := by
  first | assumption | omega | (subst_vars; omega) | trivial
-- room @64
theorem vX6_first_52 (κ : KS) (r1 : Int32) (n4 : Int32) (r3 : Int32) (r24 : Int32) (hpre_0 : 0 ≤ (κ.1 3).toInt) (hpre_1 : (κ.1 3).toInt ≤ (κ.1 7).toInt) (hpre_2 : (κ.1 7).toInt ≤ 41) (hr1 : (¬ r1.toInt = 0 → 0 ≤ (κ.1 3).toInt ∧ (κ.1 3).toInt < (κ.1 7).toInt)) (c2 : ¬ r1.toInt = 1) (hr3_0_0 : 0 ≤ r3.toInt) (hr3_0_1 : r3.toInt ≤ 1) (hr3_1_0 : r3.toInt = 0 → n4.toInt = (κ.1 3).toInt) (hr3_1_1 : ¬ r3.toInt = 0 → n4.toInt = (κ.1 3).toInt + 1 ∧ (κ.1 3).toInt < (κ.1 7).toInt) (c5 : ¬ r3.toInt = 0) (hr24 : (¬ r24.toInt = 0 → 0 ≤ n4.toInt ∧ n4.toInt < (κ.1 7).toInt)) (c25 : ¬ r24.toInt = 2) : 0 + 0 + 0 + 0 + 0 ≤ (2 * ((κ.1 7).toInt - (κ.1 3).toInt)).toNat := by
  first | assumption | omega | (subst_vars; omega) | trivial
-- room @64
theorem vX6_first_53 (κ : KS) (r1 : Int32) (n4 : Int32) (r3 : Int32) (r24 : Int32) (hpre_0 : 0 ≤ (κ.1 3).toInt) (hpre_1 : (κ.1 3).toInt ≤ (κ.1 7).toInt) (hpre_2 : (κ.1 7).toInt ≤ 41) (hr1 : (¬ r1.toInt = 0 → 0 ≤ (κ.1 3).toInt ∧ (κ.1 3).toInt < (κ.1 7).toInt)) (c2 : ¬ r1.toInt = 1) (hr3_0_0 : 0 ≤ r3.toInt) (hr3_0_1 : r3.toInt ≤ 1) (hr3_1_0 : r3.toInt = 0 → n4.toInt = (κ.1 3).toInt) (hr3_1_1 : ¬ r3.toInt = 0 → n4.toInt = (κ.1 3).toInt + 1 ∧ (κ.1 3).toInt < (κ.1 7).toInt) (c5 : ¬ r3.toInt = 0) (hr24 : (¬ r24.toInt = 0 → 0 ≤ n4.toInt ∧ n4.toInt < (κ.1 7).toInt)) (c25 : ¬ r24.toInt = 2) : 0 + 0 + 0 + 0 + 0 ≤ (16 * ((κ.1 7).toInt - (κ.1 3).toInt)).toNat := by
  first | assumption | omega | (subst_vars; omega) | trivial
-- post @67
theorem vX6_first_54 (κ : KS) (r1 : Int32) (n4 : Int32) (r3 : Int32) (r24 : Int32) (r26 : Option Nat) (hpre_0 : 0 ≤ (κ.1 3).toInt) (hpre_1 : (κ.1 3).toInt ≤ (κ.1 7).toInt) (hpre_2 : (κ.1 7).toInt ≤ 41) (hr1 : (¬ r1.toInt = 0 → 0 ≤ (κ.1 3).toInt ∧ (κ.1 3).toInt < (κ.1 7).toInt)) (c2 : ¬ r1.toInt = 1) (hr3_0_0 : 0 ≤ r3.toInt) (hr3_0_1 : r3.toInt ≤ 1) (hr3_1_0 : r3.toInt = 0 → n4.toInt = (κ.1 3).toInt) (hr3_1_1 : ¬ r3.toInt = 0 → n4.toInt = (κ.1 3).toInt + 1 ∧ (κ.1 3).toInt < (κ.1 7).toInt) (c5 : ¬ r3.toInt = 0) (hr24 : (¬ r24.toInt = 0 → 0 ≤ n4.toInt ∧ n4.toInt < (κ.1 7).toInt)) (c25 : ¬ r24.toInt = 2) (hr26_1 : cto κ.2.2.2.2 r26 = 0) : (κ.1 3).toInt ≤ n4.toInt ∧ n4.toInt ≤ (κ.1 7).toInt ∧ ((cto κ.2.2.2.2 r26 : Nat) : Int) ≤ 2 * (n4.toInt - (κ.1 3).toInt) := by
  refine ⟨?_, ?_, ?_⟩ <;> first | assumption | omega | (subst_vars; omega) | trivial
-- post2 @67
theorem vX6_first_55 (κ : KS) (k0 : Int32) (d : Nat) (r1 : Int32) (n4 : Int32) (r3 : Int32) (r24 : Int32) (n27 : Int32) (n28 : Int32) (r26 : Option Nat) (hpre_0 : 0 ≤ (κ.1 3).toInt) (hpre_1 : (κ.1 3).toInt ≤ (κ.1 7).toInt) (hpre_2 : (κ.1 7).toInt ≤ 41) (hpre_3 : 0 ≤ k0.toInt) (hpre_4 : k0.toInt ≤ 4) (hpre_5 : 4 ≤ k0.toInt + ((d : Nat) : Int)) (hr1y : r1.toInt = (cT (κ.2.2.1 10) (κ.1 7)) (κ.1 3).toInt) (hr1 : (¬ r1.toInt = 0 → 0 ≤ (κ.1 3).toInt ∧ (κ.1 3).toInt < (κ.1 7).toInt)) (c2 : ¬ r1.toInt = 1) (hr3y_0 : r3.toInt = 0 → ¬ (cT (κ.2.2.1 10) (κ.1 7)) (κ.1 3).toInt = (35 : Int32).toInt) (hr3y_1 : ¬ r3.toInt = 0 → (cT (κ.2.2.1 10) (κ.1 7)) (κ.1 3).toInt = (35 : Int32).toInt) (hr3_0_0 : 0 ≤ r3.toInt) (hr3_0_1 : r3.toInt ≤ 1) (hr3_1_0 : r3.toInt = 0 → n4.toInt = (κ.1 3).toInt) (hr3_1_1 : ¬ r3.toInt = 0 → n4.toInt = (κ.1 3).toInt + 1 ∧ (κ.1 3).toInt < (κ.1 7).toInt) (c5 : ¬ r3.toInt = 0) (hr24y : r24.toInt = (cT (κ.2.2.1 10) (κ.1 7)) n4.toInt) (hr24 : (¬ r24.toInt = 0 → 0 ≤ n4.toInt ∧ n4.toInt < (κ.1 7).toInt)) (c25 : ¬ r24.toInt = 2) (hr26y_0 : r26 = (none : Option Nat)) (hr26y_1 : n27.toInt = (2 : Int32).toInt) (hr26y_2 : n28.toInt = (cT (κ.2.2.1 11) (κ.1 7)) n4.toInt) (hr26_1 : cto κ.2.2.2.2 r26 = 0) : LG (cT (κ.2.2.1 10) (κ.1 7)) (cT (κ.2.2.1 12) (κ.1 7)) (cT (κ.2.2.1 11) (κ.1 7)) 7 0 false k0.toInt (κ.1 3).toInt κ.2.2.2.2 r26 n4.toInt n27.toInt n28.toInt := by
  have q2 : (2 : Int32).toInt = 2 := by decide +kernel
  have q35 : (35 : Int32).toInt = 35 := by decide +kernel
  have tkhr3y_1 := hr3y_1 c5
  obtain rfl := hr26y_0
  first
  | exact gl_fx (by omega) (by omega) (by omega) (by omega) (by omega) (by omega)
  | exact gl_fvx (a1 := n4.toInt) (by omega) (by omega) (by omega) (by omega) (by omega)
-- grow @67
theorem vX6_first_56 (κ : KS) (r1 : Int32) (n4 : Int32) (r3 : Int32) (r24 : Int32) (hpre_0 : 0 ≤ (κ.1 3).toInt) (hpre_1 : (κ.1 3).toInt ≤ (κ.1 7).toInt) (hpre_2 : (κ.1 7).toInt ≤ 41) (hr1 : (¬ r1.toInt = 0 → 0 ≤ (κ.1 3).toInt ∧ (κ.1 3).toInt < (κ.1 7).toInt)) (c2 : ¬ r1.toInt = 1) (hr3_0_0 : 0 ≤ r3.toInt) (hr3_0_1 : r3.toInt ≤ 1) (hr3_1_0 : r3.toInt = 0 → n4.toInt = (κ.1 3).toInt) (hr3_1_1 : ¬ r3.toInt = 0 → n4.toInt = (κ.1 3).toInt + 1 ∧ (κ.1 3).toInt < (κ.1 7).toInt) (c5 : ¬ r3.toInt = 0) (hr24 : (¬ r24.toInt = 0 → 0 ≤ n4.toInt ∧ n4.toInt < (κ.1 7).toInt)) (c25 : ¬ r24.toInt = 2) : 0 + 0 + 0 + 0 + 0 ≤ (2 * (n4.toInt - (κ.1 3).toInt)).toNat := by
  first | assumption | omega | (subst_vars; omega) | trivial
-- grow @67
theorem vX6_first_57 (κ : KS) (r1 : Int32) (n4 : Int32) (r3 : Int32) (r24 : Int32) (hpre_0 : 0 ≤ (κ.1 3).toInt) (hpre_1 : (κ.1 3).toInt ≤ (κ.1 7).toInt) (hpre_2 : (κ.1 7).toInt ≤ 41) (hr1 : (¬ r1.toInt = 0 → 0 ≤ (κ.1 3).toInt ∧ (κ.1 3).toInt < (κ.1 7).toInt)) (c2 : ¬ r1.toInt = 1) (hr3_0_0 : 0 ≤ r3.toInt) (hr3_0_1 : r3.toInt ≤ 1) (hr3_1_0 : r3.toInt = 0 → n4.toInt = (κ.1 3).toInt) (hr3_1_1 : ¬ r3.toInt = 0 → n4.toInt = (κ.1 3).toInt + 1 ∧ (κ.1 3).toInt < (κ.1 7).toInt) (c5 : ¬ r3.toInt = 0) (hr24 : (¬ r24.toInt = 0 → 0 ≤ n4.toInt ∧ n4.toInt < (κ.1 7).toInt)) (c25 : ¬ r24.toInt = 2) : 0 + 0 + 0 + 0 + 0 ≤ (16 * (n4.toInt - (κ.1 3).toInt)).toNat := by
  first | assumption | omega | (subst_vars; omega) | trivial
-- growm @67
theorem vX6_first_58 (κ : KS) (r1 : Int32) (n4 : Int32) (r3 : Int32) (r24 : Int32) (hpre_0 : 0 ≤ (κ.1 3).toInt) (hpre_1 : (κ.1 3).toInt ≤ (κ.1 7).toInt) (hpre_2 : (κ.1 7).toInt ≤ 41) (hr1 : (¬ r1.toInt = 0 → 0 ≤ (κ.1 3).toInt ∧ (κ.1 3).toInt < (κ.1 7).toInt)) (c2 : ¬ r1.toInt = 1) (hr3_0_0 : 0 ≤ r3.toInt) (hr3_0_1 : r3.toInt ≤ 1) (hr3_1_0 : r3.toInt = 0 → n4.toInt = (κ.1 3).toInt) (hr3_1_1 : ¬ r3.toInt = 0 → n4.toInt = (κ.1 3).toInt + 1 ∧ (κ.1 3).toInt < (κ.1 7).toInt) (c5 : ¬ r3.toInt = 0) (hr24 : (¬ r24.toInt = 0 → 0 ≤ n4.toInt ∧ n4.toInt < (κ.1 7).toInt)) (c25 : ¬ r24.toInt = 2) : (2 * (n4.toInt - (κ.1 3).toInt)).toNat ≤ (2 * ((κ.1 7).toInt - (κ.1 3).toInt)).toNat := by
  first | assumption | omega | (subst_vars; omega) | trivial
-- growm @67
theorem vX6_first_59 (κ : KS) (r1 : Int32) (n4 : Int32) (r3 : Int32) (r24 : Int32) (hpre_0 : 0 ≤ (κ.1 3).toInt) (hpre_1 : (κ.1 3).toInt ≤ (κ.1 7).toInt) (hpre_2 : (κ.1 7).toInt ≤ 41) (hr1 : (¬ r1.toInt = 0 → 0 ≤ (κ.1 3).toInt ∧ (κ.1 3).toInt < (κ.1 7).toInt)) (c2 : ¬ r1.toInt = 1) (hr3_0_0 : 0 ≤ r3.toInt) (hr3_0_1 : r3.toInt ≤ 1) (hr3_1_0 : r3.toInt = 0 → n4.toInt = (κ.1 3).toInt) (hr3_1_1 : ¬ r3.toInt = 0 → n4.toInt = (κ.1 3).toInt + 1 ∧ (κ.1 3).toInt < (κ.1 7).toInt) (c5 : ¬ r3.toInt = 0) (hr24 : (¬ r24.toInt = 0 → 0 ≤ n4.toInt ∧ n4.toInt < (κ.1 7).toInt)) (c25 : ¬ r24.toInt = 2) : (16 * (n4.toInt - (κ.1 3).toInt)).toNat ≤ (16 * ((κ.1 7).toInt - (κ.1 3).toInt)).toNat := by
  first | assumption | omega | (subst_vars; omega) | trivial
-- pre:X6_takeName@53 @53
theorem vX6_first_60 (κ : KS) (r1 : Int32) (n4 : Int32) (r3 : Int32) (r24 : Int32) (hpre_0 : 0 ≤ (κ.1 3).toInt) (hpre_1 : (κ.1 3).toInt ≤ (κ.1 7).toInt) (hpre_2 : (κ.1 7).toInt ≤ 41) (hr1 : (¬ r1.toInt = 0 → 0 ≤ (κ.1 3).toInt ∧ (κ.1 3).toInt < (κ.1 7).toInt)) (c2 : ¬ r1.toInt = 1) (hr3_0_0 : 0 ≤ r3.toInt) (hr3_0_1 : r3.toInt ≤ 1) (hr3_1_0 : r3.toInt = 0 → n4.toInt = (κ.1 3).toInt) (hr3_1_1 : ¬ r3.toInt = 0 → n4.toInt = (κ.1 3).toInt + 1 ∧ (κ.1 3).toInt < (κ.1 7).toInt) (c5 : ¬ r3.toInt = 0) (hr24 : (¬ r24.toInt = 0 → 0 ≤ n4.toInt ∧ n4.toInt < (κ.1 7).toInt)) (c25 : r24.toInt = 2) : 0 ≤ n4.toInt ∧ n4.toInt ≤ (κ.1 7).toInt ∧ (κ.1 7).toInt ≤ 41 ∧ n4.toInt < (κ.1 7).toInt := by
  refine ⟨?_, ?_, ?_, ?_⟩ <;> first | assumption | omega | (subst_vars; omega) | trivial
-- room @53
theorem vX6_first_61 (κ : KS) (r1 : Int32) (n4 : Int32) (r3 : Int32) (r24 : Int32) (hpre_0 : 0 ≤ (κ.1 3).toInt) (hpre_1 : (κ.1 3).toInt ≤ (κ.1 7).toInt) (hpre_2 : (κ.1 7).toInt ≤ 41) (hr1 : (¬ r1.toInt = 0 → 0 ≤ (κ.1 3).toInt ∧ (κ.1 3).toInt < (κ.1 7).toInt)) (c2 : ¬ r1.toInt = 1) (hr3_0_0 : 0 ≤ r3.toInt) (hr3_0_1 : r3.toInt ≤ 1) (hr3_1_0 : r3.toInt = 0 → n4.toInt = (κ.1 3).toInt) (hr3_1_1 : ¬ r3.toInt = 0 → n4.toInt = (κ.1 3).toInt + 1 ∧ (κ.1 3).toInt < (κ.1 7).toInt) (c5 : ¬ r3.toInt = 0) (hr24 : (¬ r24.toInt = 0 → 0 ≤ n4.toInt ∧ n4.toInt < (κ.1 7).toInt)) (c25 : r24.toInt = 2) : 0 + 0 + 0 + 0 + 0 ≤ (2 * ((κ.1 7).toInt - (κ.1 3).toInt)).toNat := by
  first | assumption | omega | (subst_vars; omega) | trivial
-- room @53
theorem vX6_first_62 (κ : KS) (r1 : Int32) (n4 : Int32) (r3 : Int32) (r24 : Int32) (hpre_0 : 0 ≤ (κ.1 3).toInt) (hpre_1 : (κ.1 3).toInt ≤ (κ.1 7).toInt) (hpre_2 : (κ.1 7).toInt ≤ 41) (hr1 : (¬ r1.toInt = 0 → 0 ≤ (κ.1 3).toInt ∧ (κ.1 3).toInt < (κ.1 7).toInt)) (c2 : ¬ r1.toInt = 1) (hr3_0_0 : 0 ≤ r3.toInt) (hr3_0_1 : r3.toInt ≤ 1) (hr3_1_0 : r3.toInt = 0 → n4.toInt = (κ.1 3).toInt) (hr3_1_1 : ¬ r3.toInt = 0 → n4.toInt = (κ.1 3).toInt + 1 ∧ (κ.1 3).toInt < (κ.1 7).toInt) (c5 : ¬ r3.toInt = 0) (hr24 : (¬ r24.toInt = 0 → 0 ≤ n4.toInt ∧ n4.toInt < (κ.1 7).toInt)) (c25 : r24.toInt = 2) : 0 + 0 + 0 + 0 + 0 ≤ (16 * ((κ.1 7).toInt - (κ.1 3).toInt)).toNat := by
  first | assumption | omega | (subst_vars; omega) | trivial
-- locals @56
theorem vX6_first_63 (d : Nat)  : 8 + (1 + 11) + 46 ≤ 500 * d + 530 := by
  first | assumption | omega | (subst_vars; omega) | trivial
-- room @56
theorem vX6_first_64 (κ : KS) (r1 : Int32) (n4 : Int32) (r3 : Int32) (r24 : Int32) (n30 : Int32) (hpre_0 : 0 ≤ (κ.1 3).toInt) (hpre_1 : (κ.1 3).toInt ≤ (κ.1 7).toInt) (hpre_2 : (κ.1 7).toInt ≤ 41) (hr1 : (¬ r1.toInt = 0 → 0 ≤ (κ.1 3).toInt ∧ (κ.1 3).toInt < (κ.1 7).toInt)) (c2 : ¬ r1.toInt = 1) (hr3_0_0 : 0 ≤ r3.toInt) (hr3_0_1 : r3.toInt ≤ 1) (hr3_1_0 : r3.toInt = 0 → n4.toInt = (κ.1 3).toInt) (hr3_1_1 : ¬ r3.toInt = 0 → n4.toInt = (κ.1 3).toInt + 1 ∧ (κ.1 3).toInt < (κ.1 7).toInt) (c5 : ¬ r3.toInt = 0) (hr24 : (¬ r24.toInt = 0 → 0 ≤ n4.toInt ∧ n4.toInt < (κ.1 7).toInt)) (c25 : r24.toInt = 2) (hr29 : n30.toInt = n4.toInt + 1) : 0 + 0 + 0 + 0 + 0 + 1 ≤ (2 * ((κ.1 7).toInt - (κ.1 3).toInt)).toNat := by
  first | assumption | omega | (subst_vars; omega) | trivial
-- room @56
theorem vX6_first_65 (κ : KS) (r1 : Int32) (n4 : Int32) (r3 : Int32) (r24 : Int32) (n30 : Int32) (hpre_0 : 0 ≤ (κ.1 3).toInt) (hpre_1 : (κ.1 3).toInt ≤ (κ.1 7).toInt) (hpre_2 : (κ.1 7).toInt ≤ 41) (hr1 : (¬ r1.toInt = 0 → 0 ≤ (κ.1 3).toInt ∧ (κ.1 3).toInt < (κ.1 7).toInt)) (c2 : ¬ r1.toInt = 1) (hr3_0_0 : 0 ≤ r3.toInt) (hr3_0_1 : r3.toInt ≤ 1) (hr3_1_0 : r3.toInt = 0 → n4.toInt = (κ.1 3).toInt) (hr3_1_1 : ¬ r3.toInt = 0 → n4.toInt = (κ.1 3).toInt + 1 ∧ (κ.1 3).toInt < (κ.1 7).toInt) (c5 : ¬ r3.toInt = 0) (hr24 : (¬ r24.toInt = 0 → 0 ≤ n4.toInt ∧ n4.toInt < (κ.1 7).toInt)) (c25 : r24.toInt = 2) (hr29 : n30.toInt = n4.toInt + 1) : 0 + 0 + 0 + 0 + 0 + 8 ≤ (16 * ((κ.1 7).toInt - (κ.1 3).toInt)).toNat := by
  first | assumption | omega | (subst_vars; omega) | trivial
-- post @67
theorem vX6_first_66 (κ : KS) (r1 : Int32) (n4 : Int32) (r3 : Int32) (r24 : Int32) (n30 : Int32) (P32 : PL) (b33 : Nat) (hpre_0 : 0 ≤ (κ.1 3).toInt) (hpre_1 : (κ.1 3).toInt ≤ (κ.1 7).toInt) (hpre_2 : (κ.1 7).toInt ≤ 41) (hr1 : (¬ r1.toInt = 0 → 0 ≤ (κ.1 3).toInt ∧ (κ.1 3).toInt < (κ.1 7).toInt)) (c2 : ¬ r1.toInt = 1) (hr3_0_0 : 0 ≤ r3.toInt) (hr3_0_1 : r3.toInt ≤ 1) (hr3_1_0 : r3.toInt = 0 → n4.toInt = (κ.1 3).toInt) (hr3_1_1 : ¬ r3.toInt = 0 → n4.toInt = (κ.1 3).toInt + 1 ∧ (κ.1 3).toInt < (κ.1 7).toInt) (c5 : ¬ r3.toInt = 0) (hr24 : (¬ r24.toInt = 0 → 0 ≤ n4.toInt ∧ n4.toInt < (κ.1 7).toInt)) (c25 : r24.toInt = 2) (hr29 : n30.toInt = n4.toInt + 1) (hr31_3 : cto P32 (some b33) = 1) : (κ.1 3).toInt ≤ n30.toInt ∧ n30.toInt ≤ (κ.1 7).toInt ∧ ((cto P32 (some b33) : Nat) : Int) ≤ 2 * (n30.toInt - (κ.1 3).toInt) := by
  refine ⟨?_, ?_, ?_⟩ <;> first | assumption | omega | (subst_vars; omega) | trivial
-- post2 @67
theorem vX6_first_67 (κ : KS) (k0 : Int32) (d : Nat) (r1 : Int32) (n4 : Int32) (r3 : Int32) (r24 : Int32) (n30 : Int32) (r29 : Int32) (P32 : PL) (b33 : Nat) (hpre_0 : 0 ≤ (κ.1 3).toInt) (hpre_1 : (κ.1 3).toInt ≤ (κ.1 7).toInt) (hpre_2 : (κ.1 7).toInt ≤ 41) (hpre_3 : 0 ≤ k0.toInt) (hpre_4 : k0.toInt ≤ 4) (hpre_5 : 4 ≤ k0.toInt + ((d : Nat) : Int)) (hr1y : r1.toInt = (cT (κ.2.2.1 10) (κ.1 7)) (κ.1 3).toInt) (hr1 : (¬ r1.toInt = 0 → 0 ≤ (κ.1 3).toInt ∧ (κ.1 3).toInt < (κ.1 7).toInt)) (c2 : ¬ r1.toInt = 1) (hr3y_0 : r3.toInt = 0 → ¬ (cT (κ.2.2.1 10) (κ.1 7)) (κ.1 3).toInt = (35 : Int32).toInt) (hr3y_1 : ¬ r3.toInt = 0 → (cT (κ.2.2.1 10) (κ.1 7)) (κ.1 3).toInt = (35 : Int32).toInt) (hr3_0_0 : 0 ≤ r3.toInt) (hr3_0_1 : r3.toInt ≤ 1) (hr3_1_0 : r3.toInt = 0 → n4.toInt = (κ.1 3).toInt) (hr3_1_1 : ¬ r3.toInt = 0 → n4.toInt = (κ.1 3).toInt + 1 ∧ (κ.1 3).toInt < (κ.1 7).toInt) (c5 : ¬ r3.toInt = 0) (hr24y : r24.toInt = (cT (κ.2.2.1 10) (κ.1 7)) n4.toInt) (hr24 : (¬ r24.toInt = 0 → 0 ≤ n4.toInt ∧ n4.toInt < (κ.1 7).toInt)) (c25 : r24.toInt = 2) (hr29y : r29.toInt = (cT (κ.2.2.1 12) (κ.1 7)) n4.toInt) (hr29 : n30.toInt = n4.toInt + 1) (hr31y_0 : oI P32 2 b33 = (3 : Int32)) (hr31y_1 : oI P32 5 b33 = 0) (hr31_3 : cto P32 (some b33) = 1) : LG (cT (κ.2.2.1 10) (κ.1 7)) (cT (κ.2.2.1 12) (κ.1 7)) (cT (κ.2.2.1 11) (κ.1 7)) 7 0 false k0.toInt (κ.1 3).toInt P32 (some b33) n30.toInt (κ.1 4).toInt (κ.1 5).toInt := by
  have q3 : (3 : Int32).toInt = 3 := by decide +kernel
  have q35 : (35 : Int32).toInt = 35 := by decide +kernel
  have tkhr3y_1 := hr3y_1 c5
  first
  | exact gl_fl (by omega) (by omega) (CBS_op hr31y_0 (by omega) (by omega))
  | exact gl_fv (a1 := n4.toInt) (by omega) (by omega) (by omega) (by omega) (CBS_st hr31y_0 hr31y_1 (by omega))
-- grow @67
theorem vX6_first_68 (κ : KS) (r1 : Int32) (n4 : Int32) (r3 : Int32) (r24 : Int32) (n30 : Int32) (hpre_0 : 0 ≤ (κ.1 3).toInt) (hpre_1 : (κ.1 3).toInt ≤ (κ.1 7).toInt) (hpre_2 : (κ.1 7).toInt ≤ 41) (hr1 : (¬ r1.toInt = 0 → 0 ≤ (κ.1 3).toInt ∧ (κ.1 3).toInt < (κ.1 7).toInt)) (c2 : ¬ r1.toInt = 1) (hr3_0_0 : 0 ≤ r3.toInt) (hr3_0_1 : r3.toInt ≤ 1) (hr3_1_0 : r3.toInt = 0 → n4.toInt = (κ.1 3).toInt) (hr3_1_1 : ¬ r3.toInt = 0 → n4.toInt = (κ.1 3).toInt + 1 ∧ (κ.1 3).toInt < (κ.1 7).toInt) (c5 : ¬ r3.toInt = 0) (hr24 : (¬ r24.toInt = 0 → 0 ≤ n4.toInt ∧ n4.toInt < (κ.1 7).toInt)) (c25 : r24.toInt = 2) (hr29 : n30.toInt = n4.toInt + 1) : 0 + 0 + 0 + 0 + 0 + 1 ≤ (2 * (n30.toInt - (κ.1 3).toInt)).toNat := by
  first | assumption | omega | (subst_vars; omega) | trivial
-- grow @67
theorem vX6_first_69 (κ : KS) (r1 : Int32) (n4 : Int32) (r3 : Int32) (r24 : Int32) (n30 : Int32) (hpre_0 : 0 ≤ (κ.1 3).toInt) (hpre_1 : (κ.1 3).toInt ≤ (κ.1 7).toInt) (hpre_2 : (κ.1 7).toInt ≤ 41) (hr1 : (¬ r1.toInt = 0 → 0 ≤ (κ.1 3).toInt ∧ (κ.1 3).toInt < (κ.1 7).toInt)) (c2 : ¬ r1.toInt = 1) (hr3_0_0 : 0 ≤ r3.toInt) (hr3_0_1 : r3.toInt ≤ 1) (hr3_1_0 : r3.toInt = 0 → n4.toInt = (κ.1 3).toInt) (hr3_1_1 : ¬ r3.toInt = 0 → n4.toInt = (κ.1 3).toInt + 1 ∧ (κ.1 3).toInt < (κ.1 7).toInt) (c5 : ¬ r3.toInt = 0) (hr24 : (¬ r24.toInt = 0 → 0 ≤ n4.toInt ∧ n4.toInt < (κ.1 7).toInt)) (c25 : r24.toInt = 2) (hr29 : n30.toInt = n4.toInt + 1) : 0 + 0 + 0 + 0 + 0 + 8 ≤ (16 * (n30.toInt - (κ.1 3).toInt)).toNat := by
  first | assumption | omega | (subst_vars; omega) | trivial
-- growm @67
theorem vX6_first_70 (κ : KS) (r1 : Int32) (n4 : Int32) (r3 : Int32) (r24 : Int32) (n30 : Int32) (hpre_0 : 0 ≤ (κ.1 3).toInt) (hpre_1 : (κ.1 3).toInt ≤ (κ.1 7).toInt) (hpre_2 : (κ.1 7).toInt ≤ 41) (hr1 : (¬ r1.toInt = 0 → 0 ≤ (κ.1 3).toInt ∧ (κ.1 3).toInt < (κ.1 7).toInt)) (c2 : ¬ r1.toInt = 1) (hr3_0_0 : 0 ≤ r3.toInt) (hr3_0_1 : r3.toInt ≤ 1) (hr3_1_0 : r3.toInt = 0 → n4.toInt = (κ.1 3).toInt) (hr3_1_1 : ¬ r3.toInt = 0 → n4.toInt = (κ.1 3).toInt + 1 ∧ (κ.1 3).toInt < (κ.1 7).toInt) (c5 : ¬ r3.toInt = 0) (hr24 : (¬ r24.toInt = 0 → 0 ≤ n4.toInt ∧ n4.toInt < (κ.1 7).toInt)) (c25 : r24.toInt = 2) (hr29 : n30.toInt = n4.toInt + 1) : (2 * (n30.toInt - (κ.1 3).toInt)).toNat ≤ (2 * ((κ.1 7).toInt - (κ.1 3).toInt)).toNat := by
  first | assumption | omega | (subst_vars; omega) | trivial
-- growm @67
theorem vX6_first_71 (κ : KS) (r1 : Int32) (n4 : Int32) (r3 : Int32) (r24 : Int32) (n30 : Int32) (hpre_0 : 0 ≤ (κ.1 3).toInt) (hpre_1 : (κ.1 3).toInt ≤ (κ.1 7).toInt) (hpre_2 : (κ.1 7).toInt ≤ 41) (hr1 : (¬ r1.toInt = 0 → 0 ≤ (κ.1 3).toInt ∧ (κ.1 3).toInt < (κ.1 7).toInt)) (c2 : ¬ r1.toInt = 1) (hr3_0_0 : 0 ≤ r3.toInt) (hr3_0_1 : r3.toInt ≤ 1) (hr3_1_0 : r3.toInt = 0 → n4.toInt = (κ.1 3).toInt) (hr3_1_1 : ¬ r3.toInt = 0 → n4.toInt = (κ.1 3).toInt + 1 ∧ (κ.1 3).toInt < (κ.1 7).toInt) (c5 : ¬ r3.toInt = 0) (hr24 : (¬ r24.toInt = 0 → 0 ≤ n4.toInt ∧ n4.toInt < (κ.1 7).toInt)) (c25 : r24.toInt = 2) (hr29 : n30.toInt = n4.toInt + 1) : (16 * (n30.toInt - (κ.1 3).toInt)).toNat ≤ (16 * ((κ.1 7).toInt - (κ.1 3).toInt)).toNat := by
  first | assumption | omega | (subst_vars; omega) | trivial
-- nw@14 @14
theorem vX6_first_72 (κ : KS) (r1 : Int32) (x35 : Int32) (hpre_0 : 0 ≤ (κ.1 3).toInt) (hpre_1 : (κ.1 3).toInt ≤ (κ.1 7).toInt) (hpre_2 : (κ.1 7).toInt ≤ 41) (hr1 : (¬ r1.toInt = 0 → 0 ≤ (κ.1 3).toInt ∧ (κ.1 3).toInt < (κ.1 7).toInt)) (c2 : r1.toInt = 1) (ex35 : x35 = (κ.1 3) + (1 : Int32)) : x35.toInt = (κ.1 3).toInt + 1 := by
  have q1 : (1 : Int32).toInt = 1 := by decide +kernel
  have w1 : (1 : Int32).toInt = 1 := by decide +kernel
  rw [ex35, z_add (by omega) (by omega)]; first | done | omega
-- nw@27 @27
theorem vX6_first_73 (κ : KS) (r1 : Int32) (x35 : Int32) (x36 : Int32) (hpre_0 : 0 ≤ (κ.1 3).toInt) (hpre_1 : (κ.1 3).toInt ≤ (κ.1 7).toInt) (hpre_2 : (κ.1 7).toInt ≤ 41) (hr1 : (¬ r1.toInt = 0 → 0 ≤ (κ.1 3).toInt ∧ (κ.1 3).toInt < (κ.1 7).toInt)) (c2 : r1.toInt = 1) (ex35 : x35 = (κ.1 3) + (1 : Int32)) (tx35 : x35.toInt = (κ.1 3).toInt + 1) (ex36 : x36 = x35 - (1 : Int32)) : x36.toInt = x35.toInt - 1 := by
  have q1 : (1 : Int32).toInt = 1 := by decide +kernel
  have w1 : (1 : Int32).toInt = 1 := by decide +kernel
  rw [ex36, z_sub (by omega) (by omega)]; first | done | omega
-- frames @28
theorem vX6_first_74 (d : Nat)  : 0 + 1 ≤ 16 * d + 27 := by
  first | assumption | omega | (subst_vars; omega) | trivial
-- locals @28
theorem vX6_first_75 (d : Nat)  : 8 + (2 + 11) + 0 ≤ 500 * d + 530 := by
  first | assumption | omega | (subst_vars; omega) | trivial
-- room @28
theorem vX6_first_76 (κ : KS) (r1 : Int32) (x35 : Int32) (x36 : Int32) (hpre_0 : 0 ≤ (κ.1 3).toInt) (hpre_1 : (κ.1 3).toInt ≤ (κ.1 7).toInt) (hpre_2 : (κ.1 7).toInt ≤ 41) (hr1 : (¬ r1.toInt = 0 → 0 ≤ (κ.1 3).toInt ∧ (κ.1 3).toInt < (κ.1 7).toInt)) (c2 : r1.toInt = 1) (ex35 : x35 = (κ.1 3) + (1 : Int32)) (tx35 : x35.toInt = (κ.1 3).toInt + 1) (ex36 : x36 = x35 - (1 : Int32)) (tx36 : x36.toInt = x35.toInt - 1) : 0 + 0 + 0 ≤ (2 * ((κ.1 7).toInt - (κ.1 3).toInt)).toNat := by
  have q1 : (1 : Int32).toInt = 1 := by decide +kernel
  first | assumption | omega | (subst_vars; omega) | trivial
-- room @28
theorem vX6_first_77 (κ : KS) (r1 : Int32) (x35 : Int32) (x36 : Int32) (hpre_0 : 0 ≤ (κ.1 3).toInt) (hpre_1 : (κ.1 3).toInt ≤ (κ.1 7).toInt) (hpre_2 : (κ.1 7).toInt ≤ 41) (hr1 : (¬ r1.toInt = 0 → 0 ≤ (κ.1 3).toInt ∧ (κ.1 3).toInt < (κ.1 7).toInt)) (c2 : r1.toInt = 1) (ex35 : x35 = (κ.1 3) + (1 : Int32)) (tx35 : x35.toInt = (κ.1 3).toInt + 1) (ex36 : x36 = x35 - (1 : Int32)) (tx36 : x36.toInt = x35.toInt - 1) : 0 + 0 + 0 ≤ (16 * ((κ.1 7).toInt - (κ.1 3).toInt)).toNat := by
  have q1 : (1 : Int32).toInt = 1 := by decide +kernel
  first | assumption | omega | (subst_vars; omega) | trivial
-- room @31
theorem vX6_first_78 (κ : KS) (r1 : Int32) (x35 : Int32) (x36 : Int32) (hpre_0 : 0 ≤ (κ.1 3).toInt) (hpre_1 : (κ.1 3).toInt ≤ (κ.1 7).toInt) (hpre_2 : (κ.1 7).toInt ≤ 41) (hr1 : (¬ r1.toInt = 0 → 0 ≤ (κ.1 3).toInt ∧ (κ.1 3).toInt < (κ.1 7).toInt)) (c2 : r1.toInt = 1) (ex35 : x35 = (κ.1 3) + (1 : Int32)) (tx35 : x35.toInt = (κ.1 3).toInt + 1) (ex36 : x36 = x35 - (1 : Int32)) (tx36 : x36.toInt = x35.toInt - 1) : 0 + 0 + 0 + 1 ≤ (2 * ((κ.1 7).toInt - (κ.1 3).toInt)).toNat := by
  have q1 : (1 : Int32).toInt = 1 := by decide +kernel
  first | assumption | omega | (subst_vars; omega) | trivial
-- room @31
theorem vX6_first_79 (κ : KS) (r1 : Int32) (x35 : Int32) (x36 : Int32) (hpre_0 : 0 ≤ (κ.1 3).toInt) (hpre_1 : (κ.1 3).toInt ≤ (κ.1 7).toInt) (hpre_2 : (κ.1 7).toInt ≤ 41) (hr1 : (¬ r1.toInt = 0 → 0 ≤ (κ.1 3).toInt ∧ (κ.1 3).toInt < (κ.1 7).toInt)) (c2 : r1.toInt = 1) (ex35 : x35 = (κ.1 3) + (1 : Int32)) (tx35 : x35.toInt = (κ.1 3).toInt + 1) (ex36 : x36 = x35 - (1 : Int32)) (tx36 : x36.toInt = x35.toInt - 1) : 0 + 0 + 0 + 8 ≤ (16 * ((κ.1 7).toInt - (κ.1 3).toInt)).toNat := by
  have q1 : (1 : Int32).toInt = 1 := by decide +kernel
  first | assumption | omega | (subst_vars; omega) | trivial
-- post @34
theorem vX6_first_80 (κ : KS) (r1 : Int32) (x35 : Int32) (x36 : Int32) (P39 : PL) (b40 : Nat) (hpre_0 : 0 ≤ (κ.1 3).toInt) (hpre_1 : (κ.1 3).toInt ≤ (κ.1 7).toInt) (hpre_2 : (κ.1 7).toInt ≤ 41) (hr1 : (¬ r1.toInt = 0 → 0 ≤ (κ.1 3).toInt ∧ (κ.1 3).toInt < (κ.1 7).toInt)) (c2 : r1.toInt = 1) (ex35 : x35 = (κ.1 3) + (1 : Int32)) (tx35 : x35.toInt = (κ.1 3).toInt + 1) (ex36 : x36 = x35 - (1 : Int32)) (tx36 : x36.toInt = x35.toInt - 1) (hr38_3 : cto P39 (some b40) = 1) : (κ.1 3).toInt ≤ x35.toInt ∧ x35.toInt ≤ (κ.1 7).toInt ∧ ((cto P39 (some b40) : Nat) : Int) ≤ 2 * (x35.toInt - (κ.1 3).toInt) := by
  have q1 : (1 : Int32).toInt = 1 := by decide +kernel
  refine ⟨?_, ?_, ?_⟩ <;> first | assumption | omega | (subst_vars; omega) | trivial
-- post2 @34
theorem vX6_first_81 (κ : KS) (k0 : Int32) (d : Nat) (r1 : Int32) (x35 : Int32) (x36 : Int32) (P39 : PL) (b40 : Nat) (hpre_0 : 0 ≤ (κ.1 3).toInt) (hpre_1 : (κ.1 3).toInt ≤ (κ.1 7).toInt) (hpre_2 : (κ.1 7).toInt ≤ 41) (hpre_3 : 0 ≤ k0.toInt) (hpre_4 : k0.toInt ≤ 4) (hpre_5 : 4 ≤ k0.toInt + ((d : Nat) : Int)) (hr1y : r1.toInt = (cT (κ.2.2.1 10) (κ.1 7)) (κ.1 3).toInt) (hr1 : (¬ r1.toInt = 0 → 0 ≤ (κ.1 3).toInt ∧ (κ.1 3).toInt < (κ.1 7).toInt)) (c2 : r1.toInt = 1) (ex35 : x35 = (κ.1 3) + (1 : Int32)) (tx35 : x35.toInt = (κ.1 3).toInt + 1) (ex36 : x36 = x35 - (1 : Int32)) (tx36 : x36.toInt = x35.toInt - 1) (hr38y_0 : oI P39 2 b40 = (1 : Int32)) (hr38y_1 : oI P39 5 b40 = 0) (hr38_3 : cto P39 (some b40) = 1) : LG (cT (κ.2.2.1 10) (κ.1 7)) (cT (κ.2.2.1 12) (κ.1 7)) (cT (κ.2.2.1 11) (κ.1 7)) 7 0 false k0.toInt (κ.1 3).toInt P39 (some b40) x35.toInt (κ.1 4).toInt (κ.1 5).toInt := by
  have q1 : (1 : Int32).toInt = 1 := by decide +kernel
  first
  | exact gl_fl (by omega) (by omega) (CBS_op hr38y_0 (by omega) (by omega))
  | exact gl_fv (a1 := (κ.1 3).toInt) (by omega) (by omega) (by omega) (by omega) (CBS_st hr38y_0 hr38y_1 (by omega))
-- grow @34
theorem vX6_first_82 (κ : KS) (r1 : Int32) (x35 : Int32) (x36 : Int32) (hpre_0 : 0 ≤ (κ.1 3).toInt) (hpre_1 : (κ.1 3).toInt ≤ (κ.1 7).toInt) (hpre_2 : (κ.1 7).toInt ≤ 41) (hr1 : (¬ r1.toInt = 0 → 0 ≤ (κ.1 3).toInt ∧ (κ.1 3).toInt < (κ.1 7).toInt)) (c2 : r1.toInt = 1) (ex35 : x35 = (κ.1 3) + (1 : Int32)) (tx35 : x35.toInt = (κ.1 3).toInt + 1) (ex36 : x36 = x35 - (1 : Int32)) (tx36 : x36.toInt = x35.toInt - 1) : 0 + 0 + 0 + 1 ≤ (2 * (x35.toInt - (κ.1 3).toInt)).toNat := by
  have q1 : (1 : Int32).toInt = 1 := by decide +kernel
  first | assumption | omega | (subst_vars; omega) | trivial
-- grow @34
theorem vX6_first_83 (κ : KS) (r1 : Int32) (x35 : Int32) (x36 : Int32) (hpre_0 : 0 ≤ (κ.1 3).toInt) (hpre_1 : (κ.1 3).toInt ≤ (κ.1 7).toInt) (hpre_2 : (κ.1 7).toInt ≤ 41) (hr1 : (¬ r1.toInt = 0 → 0 ≤ (κ.1 3).toInt ∧ (κ.1 3).toInt < (κ.1 7).toInt)) (c2 : r1.toInt = 1) (ex35 : x35 = (κ.1 3) + (1 : Int32)) (tx35 : x35.toInt = (κ.1 3).toInt + 1) (ex36 : x36 = x35 - (1 : Int32)) (tx36 : x36.toInt = x35.toInt - 1) : 0 + 0 + 0 + 8 ≤ (16 * (x35.toInt - (κ.1 3).toInt)).toNat := by
  have q1 : (1 : Int32).toInt = 1 := by decide +kernel
  first | assumption | omega | (subst_vars; omega) | trivial
-- growm @34
theorem vX6_first_84 (κ : KS) (r1 : Int32) (x35 : Int32) (x36 : Int32) (hpre_0 : 0 ≤ (κ.1 3).toInt) (hpre_1 : (κ.1 3).toInt ≤ (κ.1 7).toInt) (hpre_2 : (κ.1 7).toInt ≤ 41) (hr1 : (¬ r1.toInt = 0 → 0 ≤ (κ.1 3).toInt ∧ (κ.1 3).toInt < (κ.1 7).toInt)) (c2 : r1.toInt = 1) (ex35 : x35 = (κ.1 3) + (1 : Int32)) (tx35 : x35.toInt = (κ.1 3).toInt + 1) (ex36 : x36 = x35 - (1 : Int32)) (tx36 : x36.toInt = x35.toInt - 1) : (2 * (x35.toInt - (κ.1 3).toInt)).toNat ≤ (2 * ((κ.1 7).toInt - (κ.1 3).toInt)).toNat := by
  have q1 : (1 : Int32).toInt = 1 := by decide +kernel
  first | assumption | omega | (subst_vars; omega) | trivial
-- growm @34
theorem vX6_first_85 (κ : KS) (r1 : Int32) (x35 : Int32) (x36 : Int32) (hpre_0 : 0 ≤ (κ.1 3).toInt) (hpre_1 : (κ.1 3).toInt ≤ (κ.1 7).toInt) (hpre_2 : (κ.1 7).toInt ≤ 41) (hr1 : (¬ r1.toInt = 0 → 0 ≤ (κ.1 3).toInt ∧ (κ.1 3).toInt < (κ.1 7).toInt)) (c2 : r1.toInt = 1) (ex35 : x35 = (κ.1 3) + (1 : Int32)) (tx35 : x35.toInt = (κ.1 3).toInt + 1) (ex36 : x36 = x35 - (1 : Int32)) (tx36 : x36.toInt = x35.toInt - 1) : (16 * (x35.toInt - (κ.1 3).toInt)).toNat ≤ (16 * ((κ.1 7).toInt - (κ.1 3).toInt)).toNat := by
  have q1 : (1 : Int32).toInt = 1 := by decide +kernel
  first | assumption | omega | (subst_vars; omega) | trivial
set_option maxHeartbeats 4000000 in
set_option maxRecDepth 100000 in
theorem NX6_first (l : Launch) (D : va_G) (cy : Nat → ClassId) (ad : Nat → Nat) (A : Nat → Prop) (sz0 : Nat) (sa : Nat → Nat) (d : Nat) (IH : KX6_choice l D cy ad A sz0 sa d) (κ : KS) (sz sl : Nat) (hAF : ∀ q, A q → Fr sz0 q) (hAn : ∀ q : Nat, sz ≤ q → A q) (k0 : Int32) (hPV : PV sa κ.2.2.2.2) (hSV : SV ad κ.2.2.2.2 (κ.2.1 0) (κ.2.1 1) (κ.2.2.2.1 6) (κ.2.2.2.1 7) (κ.2.2.2.1 8) (κ.2.2.2.1 13) (κ.2.2.2.1 15) (κ.2.2.2.1 17) (κ.1 1).toInt) (hpre : 0 ≤ (κ.1 3).toInt ∧ (κ.1 3).toInt ≤ (κ.1 7).toInt ∧ (κ.1 7).toInt ≤ 41 ∧ 0 ≤ k0.toInt ∧ k0.toInt ≤ 4 ∧ 4 ≤ k0.toInt + ((d : Nat) : Int)) : Met l yX6_first (Cond.code yX6_first cX6_first 2 (some (.object "PhraseDesk$Node")) :: GWc) ({ frames := 16 * d + 27, cells := (2 * ((κ.1 7).toInt - (κ.1 3).toInt)).toNat, slots := (16 * ((κ.1 7).toInt - (κ.1 3).toInt)).toNat, locals := 500 * d + 530 }) (PcC D cy ad A sz0 sa [.ref (ad 1), .int k0] κ sz sl) (va_Qq (fun (r : Option Nat) (u : Int32 × Int32 × Int32 × PL) => ((EX κ.2.2.2.2 u.2.2.2) ∧ (PV sa u.2.2.2) ∧ (SV ad u.2.2.2 (κ.2.1 0) (κ.2.1 1) (κ.2.2.2.1 6) (κ.2.2.2.1 7) (κ.2.2.2.1 8) (κ.2.2.2.1 13) (κ.2.2.2.1 15) (κ.2.2.2.1 17) (κ.1 1).toInt) ∧ (NT u.2.2.2 2 r) ∧ ((κ.1 3).toInt ≤ u.1.toInt ∧ u.1.toInt ≤ (κ.1 7).toInt ∧ ((cto u.2.2.2 r : Nat) : Int) ≤ 2 * (u.1.toInt - (κ.1 3).toInt))) ∧ (LG (cT (κ.2.2.1 10) (κ.1 7)) (cT (κ.2.2.1 12) (κ.1 7)) (cT (κ.2.2.1 11) (κ.1 7)) 7 0 false k0.toInt (κ.1 3).toInt u.2.2.2 r u.1.toInt u.2.1.toInt u.2.2.1.toInt)) (fun (u : Int32 × Int32 × Int32 × PL) (t : State) => Bx D cy ad A sz sl (tP (tI (tI (tI κ 3 u.1) 4 u.2.1) 5 u.2.2.1) u.2.2.2) ((2 * (u.1.toInt - (κ.1 3).toInt)).toNat) ((16 * (u.1.toInt - (κ.1 3).toInt)).toNat) t) A) ((2 * ((κ.1 7).toInt - (κ.1 3).toInt)).toNat) ((16 * ((κ.1 7).toInt - (κ.1 3).toInt)).toNat) A := by
  refine CM_of (loc0 := [(0, .ref (ad 1)), (1, .int k0)]) (own := RX6) (nm := "first") (by decide) rfl rfl rfl (Nat.le_of_ble_eq_true rfl) hAF hAn ?_
  intro p e s m below meth c ls hsz hsl C hP hS hl
  obtain ⟨hpre_0, hpre_1, hpre_2, hpre_3, hpre_4, hpre_5⟩ := hpre
  refine lv_aload_n C.x C.b dX6_first_0 rfl (lv_at hl 0 rfl) ?_
  refine c_callVi (n := 0) (As := []) (rest := []) C hP hS hl.1 (NX6_kind l D cy ad A sz0 sa κ s.heap.size (SLT s.heap) C.f (fun q h => C.a q (Nat.le_trans hS.1 h))  (vX6_first_1 κ hpre_0 hpre_1 hpre_2)) ⟨cw_597, cw_600, by decide +kernel⟩ ⟨cw_598, cw_599, cw_577⟩ rfl (hP.recvS (k := 1) (ci := 8) C.K rfl rfl) rfl rfl (lv_room (Nat.le_of_ble_eq_true rfl)) ⟨(vX6_first_2 d ), (vX6_first_3 d )⟩ ⟨(vX6_first_4 κ hpre_0 hpre_1 hpre_2), (vX6_first_5 κ hpre_0 hpre_1 hpre_2)⟩ dX6_first_1 (fun r1 u H locs hr1 hP hS => ?_)
  obtain ⟨hr1, hr1y⟩ := hr1
  have hr1y : r1.toInt = (cT (κ.2.2.1 10) (κ.1 7)) (κ.1 3).toInt := hr1y
  have hr1 : ((¬ r1.toInt = 0 → 0 ≤ (κ.1 3).toInt ∧ (κ.1 3).toInt < (κ.1 7).toInt)) := hr1
  refine lv_iconst (v := 1) C.x C.b dX6_first_4 (by decide +kernel) ?_
  refine lv_icmp_ne (tgt := 35) C.x C.b dX6_first_5 (by decide) (fun c2 => ?_) (fun c2 => ?_)
  · have c2 : ¬ r1.toInt = 1 := by have h := z_ne c2; rw [show (1 : Int32).toInt = 1 from by decide +kernel] at h; exact h
    refine lv_aload_n C.x C.b dX6_first_35 rfl (lv_at hl 0 rfl) ?_
    refine lv_bipush (v := 35) C.x C.b dX6_first_36 (by decide +kernel) ?_
    refine c_callVi (n := 1) (As := [.int 35]) (rest := []) C hP hS hl.1 (NX6_takes l D cy ad A sz0 sa κ H.size (SLT H) C.f (fun q h => C.a q (Nat.le_trans hS.1 h)) (35 : Int32) (vX6_first_6 κ r1 hpre_0 hpre_1 hpre_2 hr1 c2)) ⟨cw_593, cw_596, by decide +kernel⟩ ⟨cw_594, cw_595, cw_577⟩ rfl (hP.recvS (k := 1) (ci := 8) C.K rfl rfl) rfl rfl (lv_room (Nat.le_of_ble_eq_true rfl)) ⟨(vX6_first_7 d ), (vX6_first_8 d )⟩ ⟨(vX6_first_9 κ r1 hpre_0 hpre_1 hpre_2 hr1 c2), (vX6_first_10 κ r1 hpre_0 hpre_1 hpre_2 hr1 c2)⟩ dX6_first_38 (fun r3 u H locs hr3 hP hS => ?_)
    obtain ⟨n4, rfl⟩ : ∃ z, z = u := ⟨_, rfl⟩
    have hP : CH D cy ad A (tI κ 3 n4) H := hP
    obtain ⟨hr3, hr3y⟩ := hr3
    have hr3y : (r3.toInt = 0 → ¬ (cT (κ.2.2.1 10) (κ.1 7)) (κ.1 3).toInt = (35 : Int32).toInt) ∧ (¬ r3.toInt = 0 → (cT (κ.2.2.1 10) (κ.1 7)) (κ.1 3).toInt = (35 : Int32).toInt) := hr3y
    have hr3 : (0 ≤ r3.toInt ∧ r3.toInt ≤ 1) ∧ ((r3.toInt = 0 → n4.toInt = (κ.1 3).toInt) ∧ (¬ r3.toInt = 0 → n4.toInt = (κ.1 3).toInt + 1 ∧ (κ.1 3).toInt < (κ.1 7).toInt)) := hr3
    obtain ⟨hr3_0, hr3_1⟩ := hr3
    obtain ⟨hr3y_0, hr3y_1⟩ := hr3y
    obtain ⟨hr3_0_0, hr3_0_1⟩ := hr3_0
    obtain ⟨hr3_1_0, hr3_1_1⟩ := hr3_1
    refine lv_if_eq (tgt := 68) C.x C.b dX6_first_41 (by decide) (fun c5 => ?_) (fun c5 => ?_)
    · have c5 : r3.toInt = 0 := by have h := z_eq c5; rw [show (0 : Int32).toInt = 0 from by decide +kernel] at h; exact h
      refine lv_aload_n C.x C.b dX6_first_68 rfl (lv_at hl 0 rfl) ?_
      refine lv_bipush (v := 40) C.x C.b dX6_first_69 (by decide +kernel) ?_
      refine c_callVi (n := 1) (As := [.int 40]) (rest := []) C hP hS hl.1 (NX6_takes l D cy ad A sz0 sa (tI κ 3 n4) H.size (SLT H) C.f (fun q h => C.a q (Nat.le_trans hS.1 h)) (40 : Int32) (vX6_first_11 κ r1 n4 r3 hpre_0 hpre_1 hpre_2 hr1 c2 hr3_0_0 hr3_0_1 hr3_1_0 hr3_1_1 c5)) ⟨cw_593, cw_596, by decide +kernel⟩ ⟨cw_594, cw_595, cw_577⟩ rfl (hP.recvS (k := 1) (ci := 8) C.K rfl rfl) rfl rfl (lv_room (Nat.le_of_ble_eq_true rfl)) ⟨(vX6_first_7 d ), (vX6_first_8 d )⟩ ⟨(vX6_first_12 κ r1 n4 r3 hpre_0 hpre_1 hpre_2 hr1 c2 hr3_0_0 hr3_0_1 hr3_1_0 hr3_1_1 c5), (vX6_first_13 κ r1 n4 r3 hpre_0 hpre_1 hpre_2 hr1 c2 hr3_0_0 hr3_0_1 hr3_1_0 hr3_1_1 c5)⟩ dX6_first_71 (fun r6 u H locs hr6 hP hS => ?_)
      obtain ⟨n7, rfl⟩ : ∃ z, z = u := ⟨_, rfl⟩
      have hP : CH D cy ad A (tI (tI κ 3 n4) 3 n7) H := hP
      obtain ⟨hr6, hr6y⟩ := hr6
      have hr6y : (r6.toInt = 0 → ¬ (cT (κ.2.2.1 10) (κ.1 7)) n4.toInt = (40 : Int32).toInt) ∧ (¬ r6.toInt = 0 → (cT (κ.2.2.1 10) (κ.1 7)) n4.toInt = (40 : Int32).toInt) := hr6y
      have hr6 : (0 ≤ r6.toInt ∧ r6.toInt ≤ 1) ∧ ((r6.toInt = 0 → n7.toInt = n4.toInt) ∧ (¬ r6.toInt = 0 → n7.toInt = n4.toInt + 1 ∧ n4.toInt < (κ.1 7).toInt)) := hr6
      obtain ⟨hr6_0, hr6_1⟩ := hr6
      obtain ⟨hr6y_0, hr6y_1⟩ := hr6y
      obtain ⟨hr6_0_0, hr6_0_1⟩ := hr6_0
      obtain ⟨hr6_1_0, hr6_1_1⟩ := hr6_1
      refine lv_if_eq (tgt := 83) C.x C.b dX6_first_74 (by decide) (fun c8 => ?_) (fun c8 => ?_)
      · have c8 : r6.toInt = 0 := by have h := z_eq c8; rw [show (0 : Int32).toInt = 0 from by decide +kernel] at h; exact h
        refine lv_aload_n C.x C.b dX6_first_83 rfl (lv_at hl 0 rfl) ?_
        refine c_callVi (n := 0) (As := []) (rest := []) C hP hS hl.1 (NX6_kind l D cy ad A sz0 sa (tI (tI κ 3 n4) 3 n7) H.size (SLT H) C.f (fun q h => C.a q (Nat.le_trans hS.1 h))  (vX6_first_14 κ r1 n4 r3 n7 r6 hpre_0 hpre_1 hpre_2 hr1 c2 hr3_0_0 hr3_0_1 hr3_1_0 hr3_1_1 c5 hr6_0_0 hr6_0_1 hr6_1_0 hr6_1_1 c8)) ⟨cw_597, cw_600, by decide +kernel⟩ ⟨cw_598, cw_599, cw_577⟩ rfl (hP.recvS (k := 1) (ci := 8) C.K rfl rfl) rfl rfl (lv_room (Nat.le_of_ble_eq_true rfl)) ⟨(vX6_first_2 d ), (vX6_first_3 d )⟩ ⟨(vX6_first_15 κ r1 n4 r3 n7 r6 hpre_0 hpre_1 hpre_2 hr1 c2 hr3_0_0 hr3_0_1 hr3_1_0 hr3_1_1 c5 hr6_0_0 hr6_0_1 hr6_1_0 hr6_1_1 c8), (vX6_first_16 κ r1 n4 r3 n7 r6 hpre_0 hpre_1 hpre_2 hr1 c2 hr3_0_0 hr3_0_1 hr3_1_0 hr3_1_1 c5 hr6_0_0 hr6_0_1 hr6_1_0 hr6_1_1 c8)⟩ dX6_first_84 (fun r9 u H locs hr9 hP hS => ?_)
        obtain ⟨hr9, hr9y⟩ := hr9
        have hr9y : r9.toInt = (cT (κ.2.2.1 10) (κ.1 7)) n7.toInt := hr9y
        have hr9 : ((¬ r9.toInt = 0 → 0 ≤ n7.toInt ∧ n7.toInt < (κ.1 7).toInt)) := hr9
        refine lv_iconst (v := 2) C.x C.b dX6_first_87 (by decide +kernel) ?_
        refine lv_icmp_ne (tgt := 99) C.x C.b dX6_first_88 (by decide) (fun c10 => ?_) (fun c10 => ?_)
        · have c10 : ¬ r9.toInt = 2 := by have h := z_ne c10; rw [show (2 : Int32).toInt = 2 from by decide +kernel] at h; exact h
          refine lv_aload_n C.x C.b dX6_first_99 rfl (lv_at hl 0 rfl) ?_
          refine lv_iconst (v := 2) C.x C.b dX6_first_100 (by decide +kernel) ?_
          refine c_callVq (n := 1) (As := [.int 2]) (rest := []) C hP hS hl.1 (NX6_refuse l D cy ad A sz0 sa (tI (tI κ 3 n4) 3 n7) H.size (SLT H) C.f (fun q h => C.a q (Nat.le_trans hS.1 h)) (2 : Int32) (vX6_first_17 κ r1 n4 r3 n7 r6 r9 hpre_0 hpre_1 hpre_2 hr1 c2 hr3_0_0 hr3_0_1 hr3_1_0 hr3_1_1 c5 hr6_0_0 hr6_0_1 hr6_1_0 hr6_1_1 c8 hr9 c10)) ⟨cw_583, cw_586, by decide +kernel⟩ ⟨cw_584, cw_585, cw_577⟩ rfl (hP.recvS (k := 1) (ci := 8) C.K rfl rfl) rfl rfl (lv_room (Nat.le_of_ble_eq_true rfl)) ⟨(vX6_first_2 d ), (vX6_first_18 d )⟩ ⟨(vX6_first_19 κ r1 n4 r3 n7 r6 r9 hpre_0 hpre_1 hpre_2 hr1 c2 hr3_0_0 hr3_0_1 hr3_1_0 hr3_1_1 c5 hr6_0_0 hr6_0_1 hr6_1_0 hr6_1_1 c8 hr9 c10), (vX6_first_20 κ r1 n4 r3 n7 r6 r9 hpre_0 hpre_1 hpre_2 hr1 c2 hr3_0_0 hr3_0_1 hr3_1_0 hr3_1_1 c5 hr6_0_0 hr6_0_1 hr6_1_0 hr6_1_1 c8 hr9 c10)⟩ dX6_first_101 (fun r11 u H locs hr11 hP hS => ?_)
          obtain ⟨n12, n13⟩ := u
          have hP : CH D cy ad A (tI (tI (tI (tI κ 3 n4) 3 n7) 4 n12) 5 n13) H := hP
          obtain ⟨hr11, hr11y⟩ := hr11
          have hr11y : r11 = (none : Option Nat) ∧ n12.toInt = (2 : Int32).toInt ∧ n13.toInt = (cT (κ.2.2.1 11) (κ.1 7)) n7.toInt := hr11y
          have hr11 : (NT κ.2.2.2.2 2 r11) ∧ (cto κ.2.2.2.2 r11 = 0) := hr11
          obtain ⟨hr11_0, hr11_1⟩ := hr11
          obtain ⟨hr11y_0, hr11y_1, hr11y_2⟩ := hr11y
          have hP : CH D cy ad A (tP (tI (tI (tI κ 3 n7) 4 n12) 5 n13) κ.2.2.2.2) H := CH.cong hP rfl rfl rfl rfl rfl rfl rfl rfl rfl rfl rfl rfl rfl rfl rfl rfl rfl rfl rfl rfl rfl rfl rfl rfl rfl rfl rfl
          exact c_retq (v := r11) (Or.inl ⟨_, rfl⟩) C hsz hsl ⟨n7, n12, n13, κ.2.2.2.2⟩ ⟨⟨EX.rf, hPV, hSV, hr11_0, (vX6_first_21 κ r1 n4 r3 n7 r6 r9 r11 hpre_0 hpre_1 hpre_2 hr1 c2 hr3_0_0 hr3_0_1 hr3_1_0 hr3_1_1 c5 hr6_0_0 hr6_0_1 hr6_1_0 hr6_1_1 c8 hr9 c10 hr11_1)⟩, (vX6_first_22 κ k0 d r1 n4 r3 n7 r6 r9 n12 n13 r11 hpre_0 hpre_1 hpre_2 hpre_3 hpre_4 hpre_5 hr1y hr1 c2 hr3y_0 hr3y_1 hr3_0_0 hr3_0_1 hr3_1_0 hr3_1_1 c5 hr6y_0 hr6y_1 hr6_0_0 hr6_0_1 hr6_1_0 hr6_1_1 c8 hr9y hr9 c10 hr11y_0 hr11y_1 hr11y_2 hr11_1)⟩ hP hS ⟨(vX6_first_23 κ r1 n4 r3 n7 r6 r9 hpre_0 hpre_1 hpre_2 hr1 c2 hr3_0_0 hr3_0_1 hr3_1_0 hr3_1_1 c5 hr6_0_0 hr6_0_1 hr6_1_0 hr6_1_1 c8 hr9 c10), (vX6_first_24 κ r1 n4 r3 n7 r6 r9 hpre_0 hpre_1 hpre_2 hr1 c2 hr3_0_0 hr3_0_1 hr3_1_0 hr3_1_1 c5 hr6_0_0 hr6_0_1 hr6_1_0 hr6_1_1 c8 hr9 c10)⟩ ⟨(vX6_first_25 κ r1 n4 r3 n7 r6 r9 hpre_0 hpre_1 hpre_2 hr1 c2 hr3_0_0 hr3_0_1 hr3_1_0 hr3_1_1 c5 hr6_0_0 hr6_0_1 hr6_1_0 hr6_1_1 c8 hr9 c10), (vX6_first_26 κ r1 n4 r3 n7 r6 r9 hpre_0 hpre_1 hpre_2 hr1 c2 hr3_0_0 hr3_0_1 hr3_1_0 hr3_1_1 c5 hr6_0_0 hr6_0_1 hr6_1_0 hr6_1_1 c8 hr9 c10)⟩ dX6_first_104
        · have c10 : r9.toInt = 2 := by have h := z_eq c10; rw [show (2 : Int32).toInt = 2 from by decide +kernel] at h; exact h
          refine lv_aload_n C.x C.b dX6_first_91 rfl (lv_at hl 0 rfl) ?_
          refine lv_iload_n C.x C.b dX6_first_92 rfl (lv_at hl 1 rfl) ?_
          refine c_callVq (n := 1) (As := [.int k0]) (rest := []) C hP hS hl.1 (NX6_named l D cy ad A sz0 sa d IH (tI (tI κ 3 n4) 3 n7) H.size (SLT H) C.f (fun q h => C.a q (Nat.le_trans hS.1 h)) k0 hPV hSV (vX6_first_27 κ k0 d r1 n4 r3 n7 r6 r9 hpre_0 hpre_1 hpre_2 hpre_3 hpre_4 hpre_5 hr1 c2 hr3_0_0 hr3_0_1 hr3_1_0 hr3_1_1 c5 hr6_0_0 hr6_0_1 hr6_1_0 hr6_1_1 c8 hr9 c10)) ⟨cw_638, cw_653, by decide +kernel⟩ ⟨cw_639, cw_640, cw_577⟩ rfl (hP.recvS (k := 1) (ci := 8) C.K rfl rfl) rfl rfl (lv_room (Nat.le_of_ble_eq_true rfl)) ⟨(vX6_first_28 d ), (vX6_first_29 d )⟩ ⟨(vX6_first_30 κ r1 n4 r3 n7 r6 r9 hpre_0 hpre_1 hpre_2 hr1 c2 hr3_0_0 hr3_0_1 hr3_1_0 hr3_1_1 c5 hr6_0_0 hr6_0_1 hr6_1_0 hr6_1_1 c8 hr9 c10), (vX6_first_31 κ r1 n4 r3 n7 r6 r9 hpre_0 hpre_1 hpre_2 hr1 c2 hr3_0_0 hr3_0_1 hr3_1_0 hr3_1_1 c5 hr6_0_0 hr6_0_1 hr6_1_0 hr6_1_1 c8 hr9 c10)⟩ dX6_first_93 (fun r14 u H locs hr14 hP hS => ?_)
          obtain ⟨n15, n16, n17, P18⟩ := u
          have hP : CH D cy ad A (tP (tI (tI (tI (tI (tI κ 3 n4) 3 n7) 3 n15) 4 n16) 5 n17) P18) H := hP
          obtain ⟨hr14, hr14y⟩ := hr14
          have hr14y : LG (cT (κ.2.2.1 10) (κ.1 7)) (cT (κ.2.2.1 12) (κ.1 7)) (cT (κ.2.2.1 11) (κ.1 7)) 9 0 false k0.toInt n7.toInt P18 r14 n15.toInt n16.toInt n17.toInt := hr14y
          have hr14 : (EX κ.2.2.2.2 P18) ∧ (PV sa P18) ∧ (SV ad P18 (κ.2.1 0) (κ.2.1 1) (κ.2.2.2.1 6) (κ.2.2.2.1 7) (κ.2.2.2.1 8) (κ.2.2.2.1 13) (κ.2.2.2.1 15) (κ.2.2.2.1 17) (κ.1 1).toInt) ∧ (NT P18 2 r14) ∧ (n7.toInt ≤ n15.toInt ∧ n15.toInt ≤ (κ.1 7).toInt ∧ ((cto P18 r14 : Nat) : Int) ≤ 2 * (n15.toInt - n7.toInt)) := hr14
          obtain ⟨hr14_0, hr14_1, hr14_2, hr14_3, hr14_4⟩ := hr14
          obtain ⟨hr14_4_0, hr14_4_1, hr14_4_2⟩ := hr14_4
          refine lv_goto (tgt := 104) C.x C.b dX6_first_96 (by decide) ?_
          have hP : CH D cy ad A (tP (tI (tI (tI κ 3 n15) 4 n16) 5 n17) P18) H := CH.cong hP rfl rfl rfl rfl rfl rfl rfl rfl rfl rfl rfl rfl rfl rfl rfl rfl rfl rfl rfl rfl rfl rfl rfl rfl rfl rfl rfl
          exact c_retq (v := r14) (Or.inl ⟨_, rfl⟩) C hsz hsl ⟨n15, n16, n17, P18⟩ ⟨⟨hr14_0, hr14_1, hr14_2, hr14_3, (vX6_first_32 κ r1 n4 r3 n7 r6 r9 n15 P18 r14 hpre_0 hpre_1 hpre_2 hr1 c2 hr3_0_0 hr3_0_1 hr3_1_0 hr3_1_1 c5 hr6_0_0 hr6_0_1 hr6_1_0 hr6_1_1 c8 hr9 c10 hr14_4_0 hr14_4_1 hr14_4_2)⟩, (vX6_first_33 κ k0 d r1 n4 r3 n7 r6 r9 n15 n16 n17 P18 r14 hpre_0 hpre_1 hpre_2 hpre_3 hpre_4 hpre_5 hr1y hr1 c2 hr3y_0 hr3y_1 hr3_0_0 hr3_0_1 hr3_1_0 hr3_1_1 c5 hr6y_0 hr6y_1 hr6_0_0 hr6_0_1 hr6_1_0 hr6_1_1 c8 hr9y hr9 c10 hr14y hr14_4_0 hr14_4_1 hr14_4_2)⟩ hP hS ⟨(vX6_first_34 κ r1 n4 r3 n7 r6 r9 n15 P18 r14 hpre_0 hpre_1 hpre_2 hr1 c2 hr3_0_0 hr3_0_1 hr3_1_0 hr3_1_1 c5 hr6_0_0 hr6_0_1 hr6_1_0 hr6_1_1 c8 hr9 c10 hr14_4_0 hr14_4_1 hr14_4_2), (vX6_first_35 κ r1 n4 r3 n7 r6 r9 n15 P18 r14 hpre_0 hpre_1 hpre_2 hr1 c2 hr3_0_0 hr3_0_1 hr3_1_0 hr3_1_1 c5 hr6_0_0 hr6_0_1 hr6_1_0 hr6_1_1 c8 hr9 c10 hr14_4_0 hr14_4_1 hr14_4_2)⟩ ⟨(vX6_first_36 κ r1 n4 r3 n7 r6 r9 n15 P18 r14 hpre_0 hpre_1 hpre_2 hr1 c2 hr3_0_0 hr3_0_1 hr3_1_0 hr3_1_1 c5 hr6_0_0 hr6_0_1 hr6_1_0 hr6_1_1 c8 hr9 c10 hr14_4_0 hr14_4_1 hr14_4_2), (vX6_first_37 κ r1 n4 r3 n7 r6 r9 n15 P18 r14 hpre_0 hpre_1 hpre_2 hr1 c2 hr3_0_0 hr3_0_1 hr3_1_0 hr3_1_1 c5 hr6_0_0 hr6_0_1 hr6_1_0 hr6_1_1 c8 hr9 c10 hr14_4_0 hr14_4_1 hr14_4_2)⟩ dX6_first_104
      · have c8 : ¬ r6.toInt = 0 := by have h := z_ne c8; rw [show (0 : Int32).toInt = 0 from by decide +kernel] at h; exact h
        refine lv_aload_n C.x C.b dX6_first_77 rfl (lv_at hl 0 rfl) ?_
        refine lv_iload_n C.x C.b dX6_first_78 rfl (lv_at hl 1 rfl) ?_
        refine c_callVq (n := 1) (As := [.int k0]) (rest := []) C hP hS hl.1 (NX6_bracketed l D cy ad A sz0 sa d IH (tI (tI κ 3 n4) 3 n7) H.size (SLT H) C.f (fun q h => C.a q (Nat.le_trans hS.1 h)) k0 hPV hSV (vX6_first_38 κ k0 d r1 n4 r3 n7 r6 hpre_0 hpre_1 hpre_2 hpre_3 hpre_4 hpre_5 hr1 c2 hr3_0_0 hr3_0_1 hr3_1_0 hr3_1_1 c5 hr6_0_0 hr6_0_1 hr6_1_0 hr6_1_1 c8)) ⟨cw_635, cw_609, by decide +kernel⟩ ⟨cw_636, cw_637, cw_577⟩ rfl (hP.recvS (k := 1) (ci := 8) C.K rfl rfl) rfl rfl (lv_room (Nat.le_of_ble_eq_true rfl)) ⟨(vX6_first_28 d ), (vX6_first_39 d )⟩ ⟨(vX6_first_40 κ r1 n4 r3 n7 r6 hpre_0 hpre_1 hpre_2 hr1 c2 hr3_0_0 hr3_0_1 hr3_1_0 hr3_1_1 c5 hr6_0_0 hr6_0_1 hr6_1_0 hr6_1_1 c8), (vX6_first_41 κ r1 n4 r3 n7 r6 hpre_0 hpre_1 hpre_2 hr1 c2 hr3_0_0 hr3_0_1 hr3_1_0 hr3_1_1 c5 hr6_0_0 hr6_0_1 hr6_1_0 hr6_1_1 c8)⟩ dX6_first_79 (fun r19 u H locs hr19 hP hS => ?_)
        obtain ⟨n20, n21, n22, P23⟩ := u
        have hP : CH D cy ad A (tP (tI (tI (tI (tI (tI κ 3 n4) 3 n7) 3 n20) 4 n21) 5 n22) P23) H := hP
        obtain ⟨hr19, hr19y⟩ := hr19
        have hr19y : LG (cT (κ.2.2.1 10) (κ.1 7)) (cT (κ.2.2.1 12) (κ.1 7)) (cT (κ.2.2.1 11) (κ.1 7)) 8 0 false k0.toInt n7.toInt P23 r19 n20.toInt n21.toInt n22.toInt := hr19y
        have hr19 : (EX κ.2.2.2.2 P23) ∧ (PV sa P23) ∧ (SV ad P23 (κ.2.1 0) (κ.2.1 1) (κ.2.2.2.1 6) (κ.2.2.2.1 7) (κ.2.2.2.1 8) (κ.2.2.2.1 13) (κ.2.2.2.1 15) (κ.2.2.2.1 17) (κ.1 1).toInt) ∧ (NT P23 2 r19) ∧ (n7.toInt ≤ n20.toInt ∧ n20.toInt ≤ (κ.1 7).toInt ∧ ((cto P23 r19 : Nat) : Int) ≤ 2 * (n20.toInt - n7.toInt)) := hr19
        obtain ⟨hr19_0, hr19_1, hr19_2, hr19_3, hr19_4⟩ := hr19
        obtain ⟨hr19_4_0, hr19_4_1, hr19_4_2⟩ := hr19_4
        have hP : CH D cy ad A (tP (tI (tI (tI κ 3 n20) 4 n21) 5 n22) P23) H := CH.cong hP rfl rfl rfl rfl rfl rfl rfl rfl rfl rfl rfl rfl rfl rfl rfl rfl rfl rfl rfl rfl rfl rfl rfl rfl rfl rfl rfl
        exact c_retq (v := r19) (Or.inl ⟨_, rfl⟩) C hsz hsl ⟨n20, n21, n22, P23⟩ ⟨⟨hr19_0, hr19_1, hr19_2, hr19_3, (vX6_first_42 κ r1 n4 r3 n7 r6 n20 P23 r19 hpre_0 hpre_1 hpre_2 hr1 c2 hr3_0_0 hr3_0_1 hr3_1_0 hr3_1_1 c5 hr6_0_0 hr6_0_1 hr6_1_0 hr6_1_1 c8 hr19_4_0 hr19_4_1 hr19_4_2)⟩, (vX6_first_43 κ k0 d r1 n4 r3 n7 r6 n20 n21 n22 P23 r19 hpre_0 hpre_1 hpre_2 hpre_3 hpre_4 hpre_5 hr1y hr1 c2 hr3y_0 hr3y_1 hr3_0_0 hr3_0_1 hr3_1_0 hr3_1_1 c5 hr6y_0 hr6y_1 hr6_0_0 hr6_0_1 hr6_1_0 hr6_1_1 c8 hr19y hr19_4_0 hr19_4_1 hr19_4_2)⟩ hP hS ⟨(vX6_first_44 κ r1 n4 r3 n7 r6 n20 P23 r19 hpre_0 hpre_1 hpre_2 hr1 c2 hr3_0_0 hr3_0_1 hr3_1_0 hr3_1_1 c5 hr6_0_0 hr6_0_1 hr6_1_0 hr6_1_1 c8 hr19_4_0 hr19_4_1 hr19_4_2), (vX6_first_45 κ r1 n4 r3 n7 r6 n20 P23 r19 hpre_0 hpre_1 hpre_2 hr1 c2 hr3_0_0 hr3_0_1 hr3_1_0 hr3_1_1 c5 hr6_0_0 hr6_0_1 hr6_1_0 hr6_1_1 c8 hr19_4_0 hr19_4_1 hr19_4_2)⟩ ⟨(vX6_first_46 κ r1 n4 r3 n7 r6 n20 P23 r19 hpre_0 hpre_1 hpre_2 hr1 c2 hr3_0_0 hr3_0_1 hr3_1_0 hr3_1_1 c5 hr6_0_0 hr6_0_1 hr6_1_0 hr6_1_1 c8 hr19_4_0 hr19_4_1 hr19_4_2), (vX6_first_47 κ r1 n4 r3 n7 r6 n20 P23 r19 hpre_0 hpre_1 hpre_2 hr1 c2 hr3_0_0 hr3_0_1 hr3_1_0 hr3_1_1 c5 hr6_0_0 hr6_0_1 hr6_1_0 hr6_1_1 c8 hr19_4_0 hr19_4_1 hr19_4_2)⟩ dX6_first_82
    · have c5 : ¬ r3.toInt = 0 := by have h := z_ne c5; rw [show (0 : Int32).toInt = 0 from by decide +kernel] at h; exact h
      refine lv_aload_n C.x C.b dX6_first_44 rfl (lv_at hl 0 rfl) ?_
      refine c_callVi (n := 0) (As := []) (rest := []) C hP hS hl.1 (NX6_kind l D cy ad A sz0 sa (tI κ 3 n4) H.size (SLT H) C.f (fun q h => C.a q (Nat.le_trans hS.1 h))  (vX6_first_48 κ r1 n4 r3 hpre_0 hpre_1 hpre_2 hr1 c2 hr3_0_0 hr3_0_1 hr3_1_0 hr3_1_1 c5)) ⟨cw_597, cw_600, by decide +kernel⟩ ⟨cw_598, cw_599, cw_577⟩ rfl (hP.recvS (k := 1) (ci := 8) C.K rfl rfl) rfl rfl (lv_room (Nat.le_of_ble_eq_true rfl)) ⟨(vX6_first_2 d ), (vX6_first_3 d )⟩ ⟨(vX6_first_49 κ r1 n4 r3 hpre_0 hpre_1 hpre_2 hr1 c2 hr3_0_0 hr3_0_1 hr3_1_0 hr3_1_1 c5), (vX6_first_50 κ r1 n4 r3 hpre_0 hpre_1 hpre_2 hr1 c2 hr3_0_0 hr3_0_1 hr3_1_0 hr3_1_1 c5)⟩ dX6_first_45 (fun r24 u H locs hr24 hP hS => ?_)
      obtain ⟨hr24, hr24y⟩ := hr24
      have hr24y : r24.toInt = (cT (κ.2.2.1 10) (κ.1 7)) n4.toInt := hr24y
      have hr24 : ((¬ r24.toInt = 0 → 0 ≤ n4.toInt ∧ n4.toInt < (κ.1 7).toInt)) := hr24
      refine lv_iconst (v := 2) C.x C.b dX6_first_48 (by decide +kernel) ?_
      refine lv_icmp_ne (tgt := 62) C.x C.b dX6_first_49 (by decide) (fun c25 => ?_) (fun c25 => ?_)
      · have c25 : ¬ r24.toInt = 2 := by have h := z_ne c25; rw [show (2 : Int32).toInt = 2 from by decide +kernel] at h; exact h
        refine lv_aload_n C.x C.b dX6_first_62 rfl (lv_at hl 0 rfl) ?_
        refine lv_iconst (v := 2) C.x C.b dX6_first_63 (by decide +kernel) ?_
        refine c_callVq (n := 1) (As := [.int 2]) (rest := []) C hP hS hl.1 (NX6_refuse l D cy ad A sz0 sa (tI κ 3 n4) H.size (SLT H) C.f (fun q h => C.a q (Nat.le_trans hS.1 h)) (2 : Int32) (vX6_first_51 κ r1 n4 r3 r24 hpre_0 hpre_1 hpre_2 hr1 c2 hr3_0_0 hr3_0_1 hr3_1_0 hr3_1_1 c5 hr24 c25)) ⟨cw_583, cw_586, by decide +kernel⟩ ⟨cw_584, cw_585, cw_577⟩ rfl (hP.recvS (k := 1) (ci := 8) C.K rfl rfl) rfl rfl (lv_room (Nat.le_of_ble_eq_true rfl)) ⟨(vX6_first_2 d ), (vX6_first_18 d )⟩ ⟨(vX6_first_52 κ r1 n4 r3 r24 hpre_0 hpre_1 hpre_2 hr1 c2 hr3_0_0 hr3_0_1 hr3_1_0 hr3_1_1 c5 hr24 c25), (vX6_first_53 κ r1 n4 r3 r24 hpre_0 hpre_1 hpre_2 hr1 c2 hr3_0_0 hr3_0_1 hr3_1_0 hr3_1_1 c5 hr24 c25)⟩ dX6_first_64 (fun r26 u H locs hr26 hP hS => ?_)
        obtain ⟨n27, n28⟩ := u
        have hP : CH D cy ad A (tI (tI (tI κ 3 n4) 4 n27) 5 n28) H := hP
        obtain ⟨hr26, hr26y⟩ := hr26
        have hr26y : r26 = (none : Option Nat) ∧ n27.toInt = (2 : Int32).toInt ∧ n28.toInt = (cT (κ.2.2.1 11) (κ.1 7)) n4.toInt := hr26y
        have hr26 : (NT κ.2.2.2.2 2 r26) ∧ (cto κ.2.2.2.2 r26 = 0) := hr26
        obtain ⟨hr26_0, hr26_1⟩ := hr26
        obtain ⟨hr26y_0, hr26y_1, hr26y_2⟩ := hr26y
        have hP : CH D cy ad A (tP (tI (tI (tI κ 3 n4) 4 n27) 5 n28) κ.2.2.2.2) H := CH.cong hP rfl rfl rfl rfl rfl rfl rfl rfl rfl rfl rfl rfl rfl rfl rfl rfl rfl rfl rfl rfl rfl rfl rfl rfl rfl rfl rfl
        exact c_retq (v := r26) (Or.inl ⟨_, rfl⟩) C hsz hsl ⟨n4, n27, n28, κ.2.2.2.2⟩ ⟨⟨EX.rf, hPV, hSV, hr26_0, (vX6_first_54 κ r1 n4 r3 r24 r26 hpre_0 hpre_1 hpre_2 hr1 c2 hr3_0_0 hr3_0_1 hr3_1_0 hr3_1_1 c5 hr24 c25 hr26_1)⟩, (vX6_first_55 κ k0 d r1 n4 r3 r24 n27 n28 r26 hpre_0 hpre_1 hpre_2 hpre_3 hpre_4 hpre_5 hr1y hr1 c2 hr3y_0 hr3y_1 hr3_0_0 hr3_0_1 hr3_1_0 hr3_1_1 c5 hr24y hr24 c25 hr26y_0 hr26y_1 hr26y_2 hr26_1)⟩ hP hS ⟨(vX6_first_56 κ r1 n4 r3 r24 hpre_0 hpre_1 hpre_2 hr1 c2 hr3_0_0 hr3_0_1 hr3_1_0 hr3_1_1 c5 hr24 c25), (vX6_first_57 κ r1 n4 r3 r24 hpre_0 hpre_1 hpre_2 hr1 c2 hr3_0_0 hr3_0_1 hr3_1_0 hr3_1_1 c5 hr24 c25)⟩ ⟨(vX6_first_58 κ r1 n4 r3 r24 hpre_0 hpre_1 hpre_2 hr1 c2 hr3_0_0 hr3_0_1 hr3_1_0 hr3_1_1 c5 hr24 c25), (vX6_first_59 κ r1 n4 r3 r24 hpre_0 hpre_1 hpre_2 hr1 c2 hr3_0_0 hr3_0_1 hr3_1_0 hr3_1_1 c5 hr24 c25)⟩ dX6_first_67
      · have c25 : r24.toInt = 2 := by have h := z_eq c25; rw [show (2 : Int32).toInt = 2 from by decide +kernel] at h; exact h
        refine lv_aload_n C.x C.b dX6_first_52 rfl (lv_at hl 0 rfl) ?_
        refine c_callVi (n := 0) (As := []) (rest := []) C hP hS hl.1 (NX6_takeName l D cy ad A sz0 sa (tI κ 3 n4) H.size (SLT H) C.f (fun q h => C.a q (Nat.le_trans hS.1 h))  (vX6_first_60 κ r1 n4 r3 r24 hpre_0 hpre_1 hpre_2 hr1 c2 hr3_0_0 hr3_0_1 hr3_1_0 hr3_1_1 c5 hr24 c25)) ⟨cw_626, cw_629, by decide +kernel⟩ ⟨cw_627, cw_628, cw_577⟩ rfl (hP.recvS (k := 1) (ci := 8) C.K rfl rfl) rfl rfl (lv_room (Nat.le_of_ble_eq_true rfl)) ⟨(vX6_first_2 d ), (vX6_first_3 d )⟩ ⟨(vX6_first_61 κ r1 n4 r3 r24 hpre_0 hpre_1 hpre_2 hr1 c2 hr3_0_0 hr3_0_1 hr3_1_0 hr3_1_1 c5 hr24 c25), (vX6_first_62 κ r1 n4 r3 r24 hpre_0 hpre_1 hpre_2 hr1 c2 hr3_0_0 hr3_0_1 hr3_1_0 hr3_1_1 c5 hr24 c25)⟩ dX6_first_53 (fun r29 u H locs hr29 hP hS => ?_)
        obtain ⟨n30, rfl⟩ : ∃ z, z = u := ⟨_, rfl⟩
        have hP : CH D cy ad A (tI (tI κ 3 n4) 3 n30) H := hP
        obtain ⟨hr29, hr29y⟩ := hr29
        have hr29y : r29.toInt = (cT (κ.2.2.1 12) (κ.1 7)) n4.toInt := hr29y
        have hr29 : (n30.toInt = n4.toInt + 1) := hr29
        refine c_callSq (C2 := "") (b := 0) (n := 1) (As := [.int r29]) (rest := []) C hP hS hl.1 (NX5_ofVariable l D cy ad A sz0 sa (tI (tI κ 3 n4) 3 n30) H.size (SLT H) C.f (fun q h => C.a q (Nat.le_trans hS.1 h)) r29 hPV) ⟨cw_633, cw_553, by decide +kernel⟩ ⟨cw_634, cw_415⟩ rfl rfl (lv_room (Nat.le_of_ble_eq_true rfl)) ⟨(vX6_first_7 d ), (vX6_first_63 d )⟩ ⟨(vX6_first_64 κ r1 n4 r3 r24 n30 hpre_0 hpre_1 hpre_2 hr1 c2 hr3_0_0 hr3_0_1 hr3_1_0 hr3_1_1 c5 hr24 c25 hr29), (vX6_first_65 κ r1 n4 r3 r24 n30 hpre_0 hpre_1 hpre_2 hr1 c2 hr3_0_0 hr3_0_1 hr3_1_0 hr3_1_1 c5 hr24 c25 hr29)⟩ dX6_first_56 (fun r31 u H locs hr31 hP hS => ?_)
        obtain ⟨P32, rfl⟩ : ∃ z, z = u := ⟨_, rfl⟩
        have hP : CH D cy ad A (tP (tI (tI κ 3 n4) 3 n30) P32) H := hP
        obtain ⟨hr31, hr31y⟩ := hr31
        have hr31y : oI P32 2 (r31.getD 0) = (3 : Int32) ∧ oI P32 5 (r31.getD 0) = 0 := hr31y
        have hr31 : (EX κ.2.2.2.2 P32) ∧ (PV sa P32) ∧ (NN P32 2 r31) ∧ (cto P32 r31 = 1) := hr31
        obtain ⟨hr31_0, hr31_1, hr31_2, hr31_3⟩ := hr31
        obtain ⟨b33, rfl, tb33⟩ := hr31_2
        obtain ⟨hr31y_0, hr31y_1⟩ := hr31y
        have svz34 : SV ad P32 (κ.2.1 0) (κ.2.1 1) (κ.2.2.2.1 6) (κ.2.2.2.1 7) (κ.2.2.2.1 8) (κ.2.2.2.1 13) (κ.2.2.2.1 15) (κ.2.2.2.1 17) (κ.1 1).toInt := hSV.ex hr31_0
        refine lv_goto (tgt := 67) C.x C.b dX6_first_59 (by decide) ?_
        have hP : CH D cy ad A (tP (tI (tI (tI κ 3 n30) 4 (κ.1 4)) 5 (κ.1 5)) P32) H := CH.cong hP rfl rfl rfl rfl rfl rfl rfl rfl rfl rfl rfl rfl rfl rfl rfl rfl rfl rfl rfl rfl rfl rfl rfl rfl rfl rfl rfl
        exact c_retq (v := (some b33)) (Or.inl ⟨_, rfl⟩) C hsz hsl ⟨n30, (κ.1 4), (κ.1 5), P32⟩ ⟨⟨hr31_0, hr31_1, svz34, (nt_s tb33), (vX6_first_66 κ r1 n4 r3 r24 n30 P32 b33 hpre_0 hpre_1 hpre_2 hr1 c2 hr3_0_0 hr3_0_1 hr3_1_0 hr3_1_1 c5 hr24 c25 hr29 hr31_3)⟩, (vX6_first_67 κ k0 d r1 n4 r3 r24 n30 r29 P32 b33 hpre_0 hpre_1 hpre_2 hpre_3 hpre_4 hpre_5 hr1y hr1 c2 hr3y_0 hr3y_1 hr3_0_0 hr3_0_1 hr3_1_0 hr3_1_1 c5 hr24y hr24 c25 hr29y hr29 hr31y_0 hr31y_1 hr31_3)⟩ hP hS ⟨(vX6_first_68 κ r1 n4 r3 r24 n30 hpre_0 hpre_1 hpre_2 hr1 c2 hr3_0_0 hr3_0_1 hr3_1_0 hr3_1_1 c5 hr24 c25 hr29), (vX6_first_69 κ r1 n4 r3 r24 n30 hpre_0 hpre_1 hpre_2 hr1 c2 hr3_0_0 hr3_0_1 hr3_1_0 hr3_1_1 c5 hr24 c25 hr29)⟩ ⟨(vX6_first_70 κ r1 n4 r3 r24 n30 hpre_0 hpre_1 hpre_2 hr1 c2 hr3_0_0 hr3_0_1 hr3_1_0 hr3_1_1 c5 hr24 c25 hr29), (vX6_first_71 κ r1 n4 r3 r24 n30 hpre_0 hpre_1 hpre_2 hr1 c2 hr3_0_0 hr3_0_1 hr3_1_0 hr3_1_1 c5 hr24 c25 hr29)⟩ dX6_first_67
  · have c2 : r1.toInt = 1 := by have h := z_eq c2; rw [show (1 : Int32).toInt = 1 from by decide +kernel] at h; exact h
    refine lv_aload_n C.x C.b dX6_first_8 rfl (lv_at hl 0 rfl) ?_
    refine lv_dup C.x C.b dX6_first_9 rfl ?_
    refine cg_X6_1 (v := (κ.1 3)) C hP rfl cw_567 dX6_first_10 ?_
    refine lv_iconst (v := 1) C.x C.b dX6_first_13 (by decide +kernel) ?_
    refine lv_iadd C.x C.b dX6_first_14 ?_
    refine lv_topi (fun x35 ex35 => ?_)
    have tx35 : x35.toInt = (κ.1 3).toInt + 1 := (vX6_first_72 κ r1 x35 hpre_0 hpre_1 hpre_2 hr1 c2 ex35)
    refine cp_X6_1 (v := x35) C hP hS cw_567 dX6_first_15 (fun H locs hP hS => ?_)
    refine lv_aload_n C.x C.b dX6_first_18 rfl (lv_at hl 0 rfl) ?_
    refine cg_X6_0 C hP cw_563 dX6_first_19 ?_
    refine lv_aload_n C.x C.b dX6_first_22 rfl (lv_at hl 0 rfl) ?_
    refine cg_X6_1 (v := x35) C hP rfl cw_567 dX6_first_23 ?_
    refine lv_iconst (v := 1) C.x C.b dX6_first_26 (by decide +kernel) ?_
    refine lv_isub C.x C.b dX6_first_27 ?_
    refine lv_topi (fun x36 ex36 => ?_)
    have tx36 : x36.toInt = x35.toInt - 1 := (vX6_first_73 κ r1 x35 x36 hpre_0 hpre_1 hpre_2 hr1 c2 ex35 tx35 ex36)
    refine c_callVq (n := 1) (As := [.int x36]) (rest := []) C hP hS hl.1 (NX4_literalAt l D cy ad A sz0 sa (tI κ 3 x35) H.size (SLT H) C.f (fun q h => C.a q (Nat.le_trans hS.1 h)) x36 hPV hSV) ⟨cw_621, cw_479, by decide +kernel⟩ ⟨cw_622, cw_623, cw_484⟩ rfl (hP.recvS (k := 2) (ci := 6) C.K rfl rfl) rfl rfl (lv_room (Nat.le_of_ble_eq_true rfl)) ⟨(vX6_first_74 d ), (vX6_first_75 d )⟩ ⟨(vX6_first_76 κ r1 x35 x36 hpre_0 hpre_1 hpre_2 hr1 c2 ex35 tx35 ex36 tx36), (vX6_first_77 κ r1 x35 x36 hpre_0 hpre_1 hpre_2 hr1 c2 ex35 tx35 ex36 tx36)⟩ dX6_first_28 (fun r37 u H locs hr37 hP hS => ?_)
    have hr37 : (NT κ.2.2.2.2 1 r37) := hr37
    refine c_callSq (C2 := "") (b := 0) (n := 1) (As := [va_rf r37]) (rest := []) C hP hS hl.1 (NX5_ofLiteral l D cy ad A sz0 sa (tI κ 3 x35) H.size (SLT H) C.f (fun q h => C.a q (Nat.le_trans hS.1 h)) r37 hr37 hPV) ⟨cw_624, cw_547, by decide +kernel⟩ ⟨cw_625, cw_415⟩ rfl rfl (lv_room (Nat.le_of_ble_eq_true rfl)) ⟨(vX6_first_7 d ), (vX6_first_63 d )⟩ ⟨(vX6_first_78 κ r1 x35 x36 hpre_0 hpre_1 hpre_2 hr1 c2 ex35 tx35 ex36 tx36), (vX6_first_79 κ r1 x35 x36 hpre_0 hpre_1 hpre_2 hr1 c2 ex35 tx35 ex36 tx36)⟩ dX6_first_31 (fun r38 u H locs hr38 hP hS => ?_)
    obtain ⟨P39, rfl⟩ : ∃ z, z = u := ⟨_, rfl⟩
    have hP : CH D cy ad A (tP (tI κ 3 x35) P39) H := hP
    obtain ⟨hr38, hr38y⟩ := hr38
    have hr38y : oI P39 2 (r38.getD 0) = (1 : Int32) ∧ oI P39 5 (r38.getD 0) = 0 := hr38y
    have hr38 : (EX κ.2.2.2.2 P39) ∧ (PV sa P39) ∧ (NN P39 2 r38) ∧ (cto P39 r38 = 1) := hr38
    obtain ⟨hr38_0, hr38_1, hr38_2, hr38_3⟩ := hr38
    obtain ⟨b40, rfl, tb40⟩ := hr38_2
    obtain ⟨hr38y_0, hr38y_1⟩ := hr38y
    have svz41 : SV ad P39 (κ.2.1 0) (κ.2.1 1) (κ.2.2.2.1 6) (κ.2.2.2.1 7) (κ.2.2.2.1 8) (κ.2.2.2.1 13) (κ.2.2.2.1 15) (κ.2.2.2.1 17) (κ.1 1).toInt := hSV.ex hr38_0
    have hP : CH D cy ad A (tP (tI (tI (tI κ 3 x35) 4 (κ.1 4)) 5 (κ.1 5)) P39) H := CH.cong hP rfl rfl rfl rfl rfl rfl rfl rfl rfl rfl rfl rfl rfl rfl rfl rfl rfl rfl rfl rfl rfl rfl rfl rfl rfl rfl rfl
    exact c_retq (v := (some b40)) (Or.inl ⟨_, rfl⟩) C hsz hsl ⟨x35, (κ.1 4), (κ.1 5), P39⟩ ⟨⟨hr38_0, hr38_1, svz41, (nt_s tb40), (vX6_first_80 κ r1 x35 x36 P39 b40 hpre_0 hpre_1 hpre_2 hr1 c2 ex35 tx35 ex36 tx36 hr38_3)⟩, (vX6_first_81 κ k0 d r1 x35 x36 P39 b40 hpre_0 hpre_1 hpre_2 hpre_3 hpre_4 hpre_5 hr1y hr1 c2 ex35 tx35 ex36 tx36 hr38y_0 hr38y_1 hr38_3)⟩ hP hS ⟨(vX6_first_82 κ r1 x35 x36 hpre_0 hpre_1 hpre_2 hr1 c2 ex35 tx35 ex36 tx36), (vX6_first_83 κ r1 x35 x36 hpre_0 hpre_1 hpre_2 hr1 c2 ex35 tx35 ex36 tx36)⟩ ⟨(vX6_first_84 κ r1 x35 x36 hpre_0 hpre_1 hpre_2 hr1 c2 ex35 tx35 ex36 tx36), (vX6_first_85 κ r1 x35 x36 hpre_0 hpre_1 hpre_2 hr1 c2 ex35 tx35 ex36 tx36)⟩ dX6_first_34
