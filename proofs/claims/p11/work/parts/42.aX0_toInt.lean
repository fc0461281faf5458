-- pre:X10_init@12 @12
theorem vX10_ofText_1   : FN FP.dconst0 := by
  first | assumption | exact fp_k0 | exact fp_i2d _ | (subst_vars; exact fp_i2d _) | exact (fp_FN_iff _).mpr (by decide +kernel)
-- post2 @15
theorem vX10_ofText_2 (sa : Nat → Nat) (κ : KS) (k0 : Nat) (q1 : Nat) (n3 : Nat) (r4 : Int32) (P6 : PL) (ht0 : SOK κ.2.2.2.2 sa k0) (hPV : PV sa κ.2.2.2.2) (kz0 : KZ κ.2.2.2.2 sa) (exz2 : EX κ.2.2.2.2 (newP κ.2.2.2.2 q1 21)) (h0q1 : oT κ.2.2.2.2 q1 = 0) (len3 : n3 ≤ 40) (hr4y : ∀ s9 : List Int, TXq (newP κ.2.2.2.2 q1 21) sa k0 s9 → r4.toInt = (s9.length : Int)) (hr4 : r4.toInt = ((n3 : Nat) : Int)) (exz7 : EX κ.2.2.2.2 P6) (hr5_2 : oT P6 q1 = 1) (hr5_3 : KPx True (newP κ.2.2.2.2 q1 21) P6) (hr5y_0 : oI P6 0 q1 = (4 : Int32)) (hr5y_1 : oI P6 1 q1 = r4) (hr5y_2 : oD P6 q1 = FP.dconst0) (hr5y_3 : oR P6 0 q1 = some k0) (hr5y_4 : oR P6 1 q1 = none) : ∀ (q7 q8 : Nat → Option Nat) (s9 : List Int), TXq κ.2.2.2.2 sa k0 s9 → s9.length ≤ 16 → CHS s9 → VALq P6 sa q7 q8 q1 (qText s9) := by
  have q4 : (4 : Int32).toInt = 4 := by decide +kernel
  intro q7 q8 s9 h hl hc
  have n1 := hr4y s9 (h.ex9 exz2 ((KPx.rf (c := True)).newP9 hPV h0q1))
  exact VALq.mk9 hr5_2 (Or.inr (Or.inr (Or.inr (Or.inr (Or.inl ⟨s9, hl, hc, rfl⟩))))) (show (4 : Int) < 8 by decide) (by rw [hr5y_0]; exact (by decide : (4 : Int32).toInt = (4 : Int))) (by rw [hr5y_1]; exact n1) (by rw [hr5y_2]; rfl) hr5y_3 (h.ex9 exz7 (((KPx.rf (c := True)).newP9 hPV h0q1).trans hr5_3)) hr5y_4
set_option maxHeartbeats 4000000 in
set_option maxRecDepth 100000 in
theorem NX10_ofText (l : Launch) (D : va_G) (cy : Nat → ClassId) (ad : Nat → Nat) (A : Nat → Prop) (sz0 : Nat) (sa : Nat → Nat)  (κ : KS) (sz sl : Nat) (hAF : ∀ q, A q → Fr sz0 q) (hAn : ∀ q : Nat, sz ≤ q → A q) (k0 : Nat) (ht0 : SOK κ.2.2.2.2 sa k0) (hPV : PV sa κ.2.2.2.2) : Met l yX10_ofText (Cond.code yX10_ofText cX10_ofText 1 (some (.object "PhraseDesk$Value")) :: GWc) ({ frames := 2, cells := 1, slots := 5, locals := 46 }) (PcC D cy ad A sz0 sa [.ref k0] κ sz sl) (va_Qq (fun (r : Option Nat) (u : PL) => ((EX κ.2.2.2.2 u) ∧ (PV sa u) ∧ (KPx True κ.2.2.2.2 u) ∧ (NN u 1 r)) ∧ (∀ (q7 q8 : Nat → Option Nat) (s9 : List Int), TXq κ.2.2.2.2 sa k0 s9 → s9.length ≤ 16 → CHS s9 → VALq u sa q7 q8 (r.getD 0) (qText s9))) (fun (u : PL) (t : State) => Bx D cy ad A sz sl (tP κ u) (1) (5) t) A) (1) (5) A := by
  refine CM_of (loc0 := [(0, .ref k0)]) (own := RX10) (nm := "ofText") (by decide) rfl rfl rfl (Nat.le_of_ble_eq_true rfl) hAF hAn ?_
  intro p e s m below meth c ls hsz hsl C hP hS hl
  have kz0 : KZ κ.2.2.2.2 sa := KZ.mk9 C hP
  refine cn_X10 C hP hS cw_83 cw_84 cw_40 ⟨(Nat.le_of_ble_eq_true rfl), (Nat.le_of_ble_eq_true rfl)⟩ dX10_ofText_0 (fun q1 H h0q1 hP hS => ?_)
  have exz2 : EX κ.2.2.2.2 (newP κ.2.2.2.2 q1 21) := (EX.newP h0q1)
  have kpz2 : KPx True κ.2.2.2.2 (newP κ.2.2.2.2 q1 21) := KPx.rf.newP9 hPV h0q1
  have pvz2 : PV sa (newP κ.2.2.2.2 q1 21) := (hPV.raw h0q1 (by decide))
  refine lv_dup C.x C.b dX10_ofText_3 rfl ?_
  refine lv_iconst (v := 4) C.x C.b dX10_ofText_4 (by decide +kernel) ?_
  refine lv_aload_n C.x C.b dX10_ofText_5 rfl (lv_at hl 0 rfl) ?_
  obtain ⟨n3, sln3, len3⟩ := (exz2.S ht0).sl pvz2 C
  refine c_callVi (n := 0) (As := []) (rest := [.int 4, .ref q1, .ref q1]) C hP hS hl.1 (NJ0_length_8abf5 l D cy ad A sz0 sa (tP κ (newP κ.2.2.2.2 q1 21)) H.size (SLT H) C.f (fun q h => C.a q (Nat.le_trans hS.1 h)) k0 n3 sln3 pvz2) ⟨cw_340, cw_101, by decide +kernel⟩ ⟨cw_99, cw_100, cw_70⟩ rfl (c_srecv C hP hS (exz2.S ht0)) rfl rfl (lv_room (Nat.le_of_ble_eq_true rfl)) ⟨Nat.le_of_ble_eq_true rfl, Nat.le_of_ble_eq_true rfl⟩ ⟨(Nat.le_of_ble_eq_true rfl), (Nat.le_of_ble_eq_true rfl)⟩ dX10_ofText_6 (fun r4 u H locs hr4 hP hS => ?_)
  obtain ⟨hr4, hr4y⟩ := hr4
  have hr4y : ∀ s9 : List Int, TXq (newP κ.2.2.2.2 q1 21) sa k0 s9 → r4.toInt = (s9.length : Int) := hr4y
  have hr4 : (r4.toInt = ((n3 : Nat) : Int)) := hr4
  refine lv_dconst0 C.x C.b dX10_ofText_9 ?_
  refine lv_aload_n C.x C.b dX10_ofText_10 rfl (lv_at hl 0 rfl) ?_
  refine lv_null C.x C.b dX10_ofText_11 ?_
  refine c_callIv (C2 := "") (n := 5) (As := [.int 4, .int r4, .double FP.dconst0, .ref k0, .null]) (rest := [.ref q1]) C hP hS hl.1 (NX10_init l D cy ad A sz0 sa (tP κ (newP κ.2.2.2.2 q1 21)) H.size (SLT H) C.f (fun q h => C.a q (Nat.le_trans hS.1 h)) q1 (4 : Int32) r4 FP.dconst0 k0 none (by show oT (newP κ.2.2.2.2 q1 21) q1 = 21; rw [newP_T, if_pos rfl]) (exz2.S ht0) nt_n pvz2 (vX10_ofText_1  )) ⟨cw_85, cw_87, by decide +kernel⟩ ⟨cw_86, cw_40⟩ rfl rfl rfl (lv_room (Nat.le_of_ble_eq_true rfl)) ⟨Nat.le_of_ble_eq_true rfl, Nat.le_of_ble_eq_true rfl⟩ ⟨(Nat.le_of_ble_eq_true rfl), (Nat.le_of_ble_eq_true rfl)⟩ dX10_ofText_12 (fun u H locs hr5 hP hS => ?_)
  obtain ⟨P6, rfl⟩ : ∃ z, z = u := ⟨_, rfl⟩
  have hP : CH D cy ad A (tP (tP κ (newP κ.2.2.2.2 q1 21)) P6) H := hP
  obtain ⟨hr5, hr5y⟩ := hr5
  have hr5y : oI P6 0 q1 = (4 : Int32) ∧ oI P6 1 q1 = r4 ∧ oD P6 q1 = FP.dconst0 ∧ oR P6 0 q1 = some k0 ∧ oR P6 1 q1 = none := hr5y
  have hr5 : (EXP (fun a => ¬ a = q1) (newP κ.2.2.2.2 q1 21) P6) ∧ (PV sa P6) ∧ (oT P6 q1 = 1) ∧ (KPx True (newP κ.2.2.2.2 q1 21) P6) := hr5
  obtain ⟨hr5_0, hr5_1, hr5_2, hr5_3⟩ := hr5
  have exz7 : EX κ.2.2.2.2 P6 := EX.cons exz2 h0q1 hr5_0
  have kpz8 : KPx True κ.2.2.2.2 P6 := kpz2.trans hr5_3
  obtain ⟨hr5y_0, hr5y_1, hr5y_2, hr5y_3, hr5y_4⟩ := hr5y
  have hP : CH D cy ad A (tP κ P6) H := CH.cong hP rfl rfl rfl rfl rfl rfl rfl rfl rfl rfl rfl rfl rfl rfl rfl rfl rfl rfl rfl rfl rfl rfl rfl rfl rfl rfl rfl
  exact c_retq (v := (some q1)) (Or.inl ⟨_, rfl⟩) C hsz hsl P6 ⟨⟨exz7, hr5_1, kpz8, ⟨q1, rfl, hr5_2⟩⟩, (vX10_ofText_2 sa κ k0 q1 n3 r4 P6 ht0 hPV kz0 exz2 h0q1 len3 hr4y hr4 exz7 hr5_2 hr5_3 hr5y_0 hr5y_1 hr5y_2 hr5y_3 hr5y_4)⟩ hP hS ⟨(Nat.le_of_ble_eq_true rfl), (Nat.le_of_ble_eq_true rfl)⟩ ⟨(Nat.le_of_ble_eq_true rfl), (Nat.le_of_ble_eq_true rfl)⟩ dX10_ofText_15

-- pre:X10_init@19 @19
theorem vX10_ofThing_1   : FN FP.dconst0 := by
  first | assumption | exact fp_k0 | exact fp_i2d _ | (subst_vars; exact fp_i2d _) | exact (fp_FN_iff _).mpr (by decide +kernel)
-- post2 @22
theorem vX10_ofThing_2 (sa : Nat → Nat) (κ : KS) (k0 : Nat) (q1 : Nat) (x3 : Nat) (x4 : Int32) (x5 : Int32) (P7 : PL) (ht0 : oT κ.2.2.2.2 k0 = 6) (hPV : PV sa κ.2.2.2.2) (exz2 : EX κ.2.2.2.2 (newP κ.2.2.2.2 q1 21)) (h0q1 : oT κ.2.2.2.2 q1 = 0) (ex3 : oR (newP κ.2.2.2.2 q1 21) 9 k0 = some x3) (hx3 : oT (newP κ.2.2.2.2 q1 21) x3 = 3) (ex4 : oI (newP κ.2.2.2.2 q1 21) 7 x3 = x4) (ex5 : oI (newP κ.2.2.2.2 q1 21) 19 k0 = x5) (exz8 : EX κ.2.2.2.2 P7) (hr6_2 : oT P7 q1 = 1) (hr6_3 : KPx True (newP κ.2.2.2.2 q1 21) P7) (hr6y_0 : oI P7 0 q1 = x4) (hr6y_1 : oI P7 1 q1 = x5) (hr6y_2 : oD P7 q1 = FP.dconst0) (hr6y_3 : oR P7 0 q1 = some (sa 0)) (hr6y_4 : oR P7 1 q1 = (some k0)) : ∀ (q7 q8 : Nat → Option Nat) (f : Nat) (v : QV), oR κ.2.2.2.2 9 k0 = some f → QCN v → 8 ≤ v.1 → (oI κ.2.2.2.2 7 f).toInt = v.1 → (oI κ.2.2.2.2 19 k0).toInt = v.2.1 → q8 v.2.1.toNat = some q1 → q7 (v.1 - 8).toNat = some f → VALq P7 sa q7 q8 q1 v := by
  intro q7 q8 f v h1 hv h8 h7 h19 hq8 hq7
  have z : some x3 = some f := ex3.symm.trans ((exz2.R ht0 (by decide) (by decide)).trans h1)
  obtain rfl := Option.some.inj z
  have tf : oT κ.2.2.2.2 x3 = 3 := by
    by_cases e : x3 = q1
    · rw [newP_T, if_pos e] at hx3; exact absurd hx3 (by decide)
    · rw [newP_T, if_neg e] at hx3; exact hx3
  have e7 : oI κ.2.2.2.2 7 x3 = oI P7 0 q1 := by rw [hr6y_0, ← ex4, exz2.I tf (by decide) (by decide)]
  have e19 : oI κ.2.2.2.2 19 k0 = oI P7 1 q1 := by rw [hr6y_1, ← ex5, exz2.I ht0 (by decide) (by decide)]
  have qr : qRes v 1 = v.2.1 := by unfold qRes; rw [if_neg (by decide), if_pos rfl, if_neg (by omega), if_neg (by omega)]
  exact ⟨hv, hr6_2, by rw [← e7]; exact h7, by rw [← e19, qr]; exact h19, by rw [hr6y_2]; unfold qDb; rw [if_neg (by omega)], ⟨sa 0, hr6y_3, by rw [(QCN.kind9 hv).2.2.2.2.1 (by omega)]; exact TXq.e9⟩, fun q => by omega, fun _ => ⟨k0, q1, x3, hr6y_4, exz8.T ht0 (by decide), by rw [exz8.I ht0 (by decide) (by decide)]; exact h19, hq8, hr6_2, hr6y_4, (exz8.R ht0 (by decide) (by decide)).trans h1, exz8.T tf (by decide), hq7, by rw [exz8.I tf (by decide) (by decide)]; exact h7⟩⟩
set_option maxHeartbeats 4000000 in
set_option maxRecDepth 100000 in
theorem NX10_ofThing (l : Launch) (D : va_G) (cy : Nat → ClassId) (ad : Nat → Nat) (A : Nat → Prop) (sz0 : Nat) (sa : Nat → Nat)  (κ : KS) (sz sl : Nat) (hAF : ∀ q, A q → Fr sz0 q) (hAn : ∀ q : Nat, sz ≤ q → A q) (k0 : Nat) (ht0 : oT κ.2.2.2.2 k0 = 6) (hPV : PV sa κ.2.2.2.2) : Met l yX10_ofThing (Cond.code yX10_ofThing cX10_ofThing 1 (some (.object "PhraseDesk$Value")) :: GWc) ({ frames := 2, cells := 1, slots := 5, locals := 46 }) (PcC D cy ad A sz0 sa [.ref k0] κ sz sl) (va_Qq (fun (r : Option Nat) (u : PL) => ((EX κ.2.2.2.2 u) ∧ (PV sa u) ∧ (KPx True κ.2.2.2.2 u) ∧ (NN u 1 r)) ∧ (∀ (q7 q8 : Nat → Option Nat) (f : Nat) (v : QV), oR κ.2.2.2.2 9 k0 = some f → QCN v → 8 ≤ v.1 → (oI κ.2.2.2.2 7 f).toInt = v.1 → (oI κ.2.2.2.2 19 k0).toInt = v.2.1 → q8 v.2.1.toNat = some (r.getD 0) → q7 (v.1 - 8).toNat = some f → VALq u sa q7 q8 (r.getD 0) v)) (fun (u : PL) (t : State) => Bx D cy ad A sz sl (tP κ u) (1) (5) t) A) (1) (5) A := by
  refine CM_of (loc0 := [(0, .ref k0)]) (own := RX10) (nm := "ofThing") (by decide) rfl rfl rfl (Nat.le_of_ble_eq_true rfl) hAF hAn ?_
  intro p e s m below meth c ls hsz hsl C hP hS hl
  refine cn_X10 C hP hS cw_83 cw_84 cw_40 ⟨(Nat.le_of_ble_eq_true rfl), (Nat.le_of_ble_eq_true rfl)⟩ dX10_ofThing_0 (fun q1 H h0q1 hP hS => ?_)
  have exz2 : EX κ.2.2.2.2 (newP κ.2.2.2.2 q1 21) := (EX.newP h0q1)
  have kpz2 : KPx True κ.2.2.2.2 (newP κ.2.2.2.2 q1 21) := KPx.rf.newP9 hPV h0q1
  have pvz2 : PV sa (newP κ.2.2.2.2 q1 21) := (hPV.raw h0q1 (by decide))
  refine lv_dup C.x C.b dX10_ofThing_3 rfl ?_
  refine lv_aload_n C.x C.b dX10_ofThing_4 rfl (lv_at hl 0 rfl) ?_
  obtain ⟨x3, ex3, hx3⟩ := (pvz2.t6 (exz2.T ht0 (by decide))).1
  refine pg_X9_1 (v := some x3) C hP (t20 (a := k0) (t := 6) (exz2.T ht0 (by decide))) ex3 cw_48 dX10_ofThing_5 ?_
  obtain ⟨x4, ex4⟩ : ∃ z, oI (newP κ.2.2.2.2 q1 21) 7 x3 = z := ⟨_, rfl⟩
  refine pg_X1_1 (v := x4) C hP (t20 (a := x3) (t := 3) hx3) ex4 cw_49 dX10_ofThing_8 ?_
  refine lv_aload_n C.x C.b dX10_ofThing_11 rfl (lv_at hl 0 rfl) ?_
  obtain ⟨x5, ex5⟩ : ∃ z, oI (newP κ.2.2.2.2 q1 21) 19 k0 = z := ⟨_, rfl⟩
  refine pg_X9_0 (v := x5) C hP (t20 (a := k0) (t := 6) (exz2.T ht0 (by decide))) ex5 cw_866 dX10_ofThing_12 ?_
  refine lv_dconst0 C.x C.b dX10_ofThing_15 ?_
  refine va_ldcS C.x C.b C.o C.en.2.2.2.2.1 dX10_ofThing_16 ?_
  refine lv_aload_n C.x C.b dX10_ofThing_18 rfl (lv_at hl 0 rfl) ?_
  refine c_callIv (C2 := "") (n := 5) (As := [.int x4, .int x5, .double FP.dconst0, .ref (sa 0), .ref k0]) (rest := [.ref q1]) C hP hS hl.1 (NX10_init l D cy ad A sz0 sa (tP κ (newP κ.2.2.2.2 q1 21)) H.size (SLT H) C.f (fun q h => C.a q (Nat.le_trans hS.1 h)) q1 x4 x5 FP.dconst0 (sa 0) (some k0) (by show oT (newP κ.2.2.2.2 q1 21) q1 = 21; rw [newP_T, if_pos rfl]) (SOK.any (P := (newP κ.2.2.2.2 q1 21)) (sa := sa) (c := (sa 0)) (by unfold KC; simp)) (nt_s (exz2.T ht0 (by decide))) pvz2 (vX10_ofThing_1  )) ⟨cw_85, cw_87, by decide +kernel⟩ ⟨cw_86, cw_40⟩ rfl rfl rfl (lv_room (Nat.le_of_ble_eq_true rfl)) ⟨Nat.le_of_ble_eq_true rfl, Nat.le_of_ble_eq_true rfl⟩ ⟨(Nat.le_of_ble_eq_true rfl), (Nat.le_of_ble_eq_true rfl)⟩ dX10_ofThing_19 (fun u H locs hr6 hP hS => ?_)
  obtain ⟨P7, rfl⟩ : ∃ z, z = u := ⟨_, rfl⟩
  have hP : CH D cy ad A (tP (tP κ (newP κ.2.2.2.2 q1 21)) P7) H := hP
  obtain ⟨hr6, hr6y⟩ := hr6
  have hr6y : oI P7 0 q1 = x4 ∧ oI P7 1 q1 = x5 ∧ oD P7 q1 = FP.dconst0 ∧ oR P7 0 q1 = some (sa 0) ∧ oR P7 1 q1 = (some k0) := hr6y
  have hr6 : (EXP (fun a => ¬ a = q1) (newP κ.2.2.2.2 q1 21) P7) ∧ (PV sa P7) ∧ (oT P7 q1 = 1) ∧ (KPx True (newP κ.2.2.2.2 q1 21) P7) := hr6
  obtain ⟨hr6_0, hr6_1, hr6_2, hr6_3⟩ := hr6
  have exz8 : EX κ.2.2.2.2 P7 := EX.cons exz2 h0q1 hr6_0
  have kpz9 : KPx True κ.2.2.2.2 P7 := kpz2.trans hr6_3
  obtain ⟨hr6y_0, hr6y_1, hr6y_2, hr6y_3, hr6y_4⟩ := hr6y
  have hP : CH D cy ad A (tP κ P7) H := CH.cong hP rfl rfl rfl rfl rfl rfl rfl rfl rfl rfl rfl rfl rfl rfl rfl rfl rfl rfl rfl rfl rfl rfl rfl rfl rfl rfl rfl
  exact c_retq (v := (some q1)) (Or.inl ⟨_, rfl⟩) C hsz hsl P7 ⟨⟨exz8, hr6_1, kpz9, ⟨q1, rfl, hr6_2⟩⟩, (vX10_ofThing_2 sa κ k0 q1 x3 x4 x5 P7 ht0 hPV exz2 h0q1 ex3 hx3 ex4 ex5 exz8 hr6_2 hr6_3 hr6y_0 hr6y_1 hr6y_2 hr6y_3 hr6y_4)⟩ hP hS ⟨(Nat.le_of_ble_eq_true rfl), (Nat.le_of_ble_eq_true rfl)⟩ ⟨(Nat.le_of_ble_eq_true rfl), (Nat.le_of_ble_eq_true rfl)⟩ dX10_ofThing_22

-- retz @43
theorem vX0_isThere_1   : 0 ≤ (0 : Int32).toInt ∧ (0 : Int32).toInt ≤ 1 := by
  have q0 : (0 : Int32).toInt = 0 := by decide +kernel
  refine ⟨?_, ?_⟩ <;> first | assumption | omega | (subst_vars; omega) | trivial
-- post @43
theorem vX0_isThere_2 (κ : KS) (k0 : Int32) (k1 : Int32) (x1 : Int32) (x2 : Int32) (ex1 : x1 = k0 * (5 : Int32)) (ex2 : x2 = x1 + k1) (c3 : k1.toInt < 1) : ((1 ≤ k1.toInt ∧ k1.toInt ≤ 4 ∧ 0 ≤ k0.toInt ∧ k0.toInt ≤ 12) → (((0 : Int32).toInt = 1 ∧ ¬ ((κ.2.2.1 14) (5 * k0.toInt + k1.toInt).toNat).toInt = 0) ∨ ((0 : Int32).toInt = 0 ∧ ((κ.2.2.1 14) (5 * k0.toInt + k1.toInt).toNat).toInt = 0))) := by
  have q0 : (0 : Int32).toInt = 0 := by decide +kernel
  have q5 : (5 : Int32).toInt = 5 := by decide +kernel
  intro hv
  have emx1 : x1.toInt = 5 * k0.toInt := by rw [ex1, Int32.mul_comm]; exact z_mulc 5 (by decide) (by omega) (by omega)
  have eax2 : x2.toInt = 5 * k0.toInt + k1.toInt := by rw [ex2, z_add (by omega) (by omega), emx1]
  have ecx2 : x2.toNatClampNeg = (5 * k0.toInt + k1.toInt).toNat := by show x2.toInt.toNat = _; rw [eax2]
  have z0 : (0 : Int32).toInt = 0 := by decide
  have z1 : (1 : Int32).toInt = 1 := by decide
  first
  | (exfalso; omega)
  | omega
  | exact Or.inr ⟨z0, by first | assumption | (subst_vars; assumption)⟩
  | exact Or.inl ⟨z1, by first | assumption | (subst_vars; assumption)⟩
  | exact ⟨by first | assumption | (apply_assumption; assumption) | (rename_i q; exact q hv), rfl⟩
-- post2 @43
theorem vX0_isThere_3 (sa : Nat → Nat) (κ : KS) (k0 : Int32) (k1 : Int32) (x1 : Int32) (x2 : Int32) (hPV : PV sa κ.2.2.2.2) (ex1 : x1 = k0 * (5 : Int32)) (ex2 : x2 = x1 + k1) (c3 : k1.toInt < 1) : ∀ H : QT, CVq (κ.2.2.1 14) H → 0 ≤ k0.toInt → k0.toInt ≤ 12 → 1 ≤ k1.toInt → ((0 : Int32).toInt = 0 → qTh H k0.toInt k1.toInt = false) ∧ (¬ (0 : Int32).toInt = 0 → qTh H k0.toInt k1.toInt = true) := by
  have q0 : (0 : Int32).toInt = 0 := by decide +kernel
  have q5 : (5 : Int32).toInt = 5 := by decide +kernel
  intro H C h0 h1 h2
  by_cases g4 : k1.toInt ≤ 4
  · have em : x1.toInt = 5 * k0.toInt := by rw [ex1, Int32.mul_comm]; exact z_mulc 5 (by decide) (by omega) (by omega)
    have ea : x2.toInt = 5 * k0.toInt + k1.toInt := by rw [ex2, z_add (by omega) (by omega), em]
    have ec : x2.toNatClampNeg = (5 * k0.toInt + k1.toInt).toNat := by rw [clampN, ea]
    exfalso; omega
  · first | (exfalso; omega) | exact ⟨fun _ => qTh.no9 g4, fun e => absurd (by decide) e⟩
-- post @43
theorem vX0_isThere_4 (κ : KS) (k0 : Int32) (k1 : Int32) (x1 : Int32) (x2 : Int32) (ex1 : x1 = k0 * (5 : Int32)) (ex2 : x2 = x1 + k1) (c3 : 1 ≤ k1.toInt) (c4 : 4 < k1.toInt) : ((1 ≤ k1.toInt ∧ k1.toInt ≤ 4 ∧ 0 ≤ k0.toInt ∧ k0.toInt ≤ 12) → (((0 : Int32).toInt = 1 ∧ ¬ ((κ.2.2.1 14) (5 * k0.toInt + k1.toInt).toNat).toInt = 0) ∨ ((0 : Int32).toInt = 0 ∧ ((κ.2.2.1 14) (5 * k0.toInt + k1.toInt).toNat).toInt = 0))) := by
  have q0 : (0 : Int32).toInt = 0 := by decide +kernel
  have q5 : (5 : Int32).toInt = 5 := by decide +kernel
  intro hv
  have emx1 : x1.toInt = 5 * k0.toInt := by rw [ex1, Int32.mul_comm]; exact z_mulc 5 (by decide) (by omega) (by omega)
  have eax2 : x2.toInt = 5 * k0.toInt + k1.toInt := by rw [ex2, z_add (by omega) (by omega), emx1]
  have ecx2 : x2.toNatClampNeg = (5 * k0.toInt + k1.toInt).toNat := by show x2.toInt.toNat = _; rw [eax2]
  have z0 : (0 : Int32).toInt = 0 := by decide
  have z1 : (1 : Int32).toInt = 1 := by decide
  first
  | (exfalso; omega)
  | omega
  | exact Or.inr ⟨z0, by first | assumption | (subst_vars; assumption)⟩
  | exact Or.inl ⟨z1, by first | assumption | (subst_vars; assumption)⟩
  | exact ⟨by first | assumption | (apply_assumption; assumption) | (rename_i q; exact q hv), rfl⟩
-- post2 @43
theorem vX0_isThere_5 (sa : Nat → Nat) (κ : KS) (k0 : Int32) (k1 : Int32) (x1 : Int32) (x2 : Int32) (hPV : PV sa κ.2.2.2.2) (ex1 : x1 = k0 * (5 : Int32)) (ex2 : x2 = x1 + k1) (c3 : 1 ≤ k1.toInt) (c4 : 4 < k1.toInt) : ∀ H : QT, CVq (κ.2.2.1 14) H → 0 ≤ k0.toInt → k0.toInt ≤ 12 → 1 ≤ k1.toInt → ((0 : Int32).toInt = 0 → qTh H k0.toInt k1.toInt = false) ∧ (¬ (0 : Int32).toInt = 0 → qTh H k0.toInt k1.toInt = true) := by
  have q0 : (0 : Int32).toInt = 0 := by decide +kernel
  have q5 : (5 : Int32).toInt = 5 := by decide +kernel
  intro H C h0 h1 h2
  by_cases g4 : k1.toInt ≤ 4
  · have em : x1.toInt = 5 * k0.toInt := by rw [ex1, Int32.mul_comm]; exact z_mulc 5 (by decide) (by omega) (by omega)
    have ea : x2.toInt = 5 * k0.toInt + k1.toInt := by rw [ex2, z_add (by omega) (by omega), em]
    have ec : x2.toNatClampNeg = (5 * k0.toInt + k1.toInt).toNat := by rw [clampN, ea]
    exfalso; omega
  · first | (exfalso; omega) | exact ⟨fun _ => qTh.no9 g4, fun e => absurd (by decide) e⟩
-- post @43
theorem vX0_isThere_6 (κ : KS) (k0 : Int32) (k1 : Int32) (x1 : Int32) (x2 : Int32) (ex1 : x1 = k0 * (5 : Int32)) (ex2 : x2 = x1 + k1) (c3 : 1 ≤ k1.toInt) (c4 : k1.toInt ≤ 4) (c5 : x2.toInt < 0) : ((1 ≤ k1.toInt ∧ k1.toInt ≤ 4 ∧ 0 ≤ k0.toInt ∧ k0.toInt ≤ 12) → (((0 : Int32).toInt = 1 ∧ ¬ ((κ.2.2.1 14) (5 * k0.toInt + k1.toInt).toNat).toInt = 0) ∨ ((0 : Int32).toInt = 0 ∧ ((κ.2.2.1 14) (5 * k0.toInt + k1.toInt).toNat).toInt = 0))) := by
  have q0 : (0 : Int32).toInt = 0 := by decide +kernel
  have q5 : (5 : Int32).toInt = 5 := by decide +kernel
  intro hv
  have emx1 : x1.toInt = 5 * k0.toInt := by rw [ex1, Int32.mul_comm]; exact z_mulc 5 (by decide) (by omega) (by omega)
  have eax2 : x2.toInt = 5 * k0.toInt + k1.toInt := by rw [ex2, z_add (by omega) (by omega), emx1]
  have ecx2 : x2.toNatClampNeg = (5 * k0.toInt + k1.toInt).toNat := by show x2.toInt.toNat = _; rw [eax2]
  have z0 : (0 : Int32).toInt = 0 := by decide
  have z1 : (1 : Int32).toInt = 1 := by decide
  first
  | (exfalso; omega)
  | omega
  | exact Or.inr ⟨z0, by first | assumption | (subst_vars; assumption)⟩
  | exact Or.inl ⟨z1, by first | assumption | (subst_vars; assumption)⟩
  | exact ⟨by first | assumption | (apply_assumption; assumption) | (rename_i q; exact q hv), rfl⟩
-- post2 @43
theorem vX0_isThere_7 (sa : Nat → Nat) (κ : KS) (k0 : Int32) (k1 : Int32) (x1 : Int32) (x2 : Int32) (hPV : PV sa κ.2.2.2.2) (ex1 : x1 = k0 * (5 : Int32)) (ex2 : x2 = x1 + k1) (c3 : 1 ≤ k1.toInt) (c4 : k1.toInt ≤ 4) (c5 : x2.toInt < 0) : ∀ H : QT, CVq (κ.2.2.1 14) H → 0 ≤ k0.toInt → k0.toInt ≤ 12 → 1 ≤ k1.toInt → ((0 : Int32).toInt = 0 → qTh H k0.toInt k1.toInt = false) ∧ (¬ (0 : Int32).toInt = 0 → qTh H k0.toInt k1.toInt = true) := by
  have q0 : (0 : Int32).toInt = 0 := by decide +kernel
  have q5 : (5 : Int32).toInt = 5 := by decide +kernel
  intro H C h0 h1 h2
  by_cases g4 : k1.toInt ≤ 4
  · have em : x1.toInt = 5 * k0.toInt := by rw [ex1, Int32.mul_comm]; exact z_mulc 5 (by decide) (by omega) (by omega)
    have ea : x2.toInt = 5 * k0.toInt + k1.toInt := by rw [ex2, z_add (by omega) (by omega), em]
    have ec : x2.toNatClampNeg = (5 * k0.toInt + k1.toInt).toNat := by rw [clampN, ea]
    exfalso; omega
  · first | (exfalso; omega) | exact ⟨fun _ => qTh.no9 g4, fun e => absurd (by decide) e⟩
-- post @43
theorem vX0_isThere_8 (κ : KS) (k0 : Int32) (k1 : Int32) (x1 : Int32) (x2 : Int32) (ex1 : x1 = k0 * (5 : Int32)) (ex2 : x2 = x1 + k1) (c3 : 1 ≤ k1.toInt) (c4 : k1.toInt ≤ 4) (c5 : 0 ≤ x2.toInt) (c7 : 65 ≤ x2.toInt) : ((1 ≤ k1.toInt ∧ k1.toInt ≤ 4 ∧ 0 ≤ k0.toInt ∧ k0.toInt ≤ 12) → (((0 : Int32).toInt = 1 ∧ ¬ ((κ.2.2.1 14) (5 * k0.toInt + k1.toInt).toNat).toInt = 0) ∨ ((0 : Int32).toInt = 0 ∧ ((κ.2.2.1 14) (5 * k0.toInt + k1.toInt).toNat).toInt = 0))) := by
  have q0 : (0 : Int32).toInt = 0 := by decide +kernel
  have q5 : (5 : Int32).toInt = 5 := by decide +kernel
  intro hv
  have emx1 : x1.toInt = 5 * k0.toInt := by rw [ex1, Int32.mul_comm]; exact z_mulc 5 (by decide) (by omega) (by omega)
  have eax2 : x2.toInt = 5 * k0.toInt + k1.toInt := by rw [ex2, z_add (by omega) (by omega), emx1]
  have ecx2 : x2.toNatClampNeg = (5 * k0.toInt + k1.toInt).toNat := by show x2.toInt.toNat = _; rw [eax2]
  have z0 : (0 : Int32).toInt = 0 := by decide
  have z1 : (1 : Int32).toInt = 1 := by decide
  first
  | (exfalso; omega)
  | omega
  | exact Or.inr ⟨z0, by first | assumption | (subst_vars; assumption)⟩
  | exact Or.inl ⟨z1, by first | assumption | (subst_vars; assumption)⟩
  | exact ⟨by first | assumption | (apply_assumption; assumption) | (rename_i q; exact q hv), rfl⟩
-- post2 @43
theorem vX0_isThere_9 (sa : Nat → Nat) (κ : KS) (k0 : Int32) (k1 : Int32) (x1 : Int32) (x2 : Int32) (hPV : PV sa κ.2.2.2.2) (ex1 : x1 = k0 * (5 : Int32)) (ex2 : x2 = x1 + k1) (c3 : 1 ≤ k1.toInt) (c4 : k1.toInt ≤ 4) (c5 : 0 ≤ x2.toInt) (c7 : 65 ≤ x2.toInt) : ∀ H : QT, CVq (κ.2.2.1 14) H → 0 ≤ k0.toInt → k0.toInt ≤ 12 → 1 ≤ k1.toInt → ((0 : Int32).toInt = 0 → qTh H k0.toInt k1.toInt = false) ∧ (¬ (0 : Int32).toInt = 0 → qTh H k0.toInt k1.toInt = true) := by
  have q0 : (0 : Int32).toInt = 0 := by decide +kernel
  have q5 : (5 : Int32).toInt = 5 := by decide +kernel
  intro H C h0 h1 h2
  by_cases g4 : k1.toInt ≤ 4
  · have em : x1.toInt = 5 * k0.toInt := by rw [ex1, Int32.mul_comm]; exact z_mulc 5 (by decide) (by omega) (by omega)
    have ea : x2.toInt = 5 * k0.toInt + k1.toInt := by rw [ex2, z_add (by omega) (by omega), em]
    have ec : x2.toNatClampNeg = (5 * k0.toInt + k1.toInt).toNat := by rw [clampN, ea]
    exfalso; omega
  · first | (exfalso; omega) | exact ⟨fun _ => qTh.no9 g4, fun e => absurd (by decide) e⟩
-- in@34 @34
theorem vX0_isThere_10 (k0 : Int32) (k1 : Int32) (x1 : Int32) (x2 : Int32) (ex1 : x1 = k0 * (5 : Int32)) (ex2 : x2 = x1 + k1) (c3 : 1 ≤ k1.toInt) (c4 : k1.toInt ≤ 4) (c5 : 0 ≤ x2.toInt) (c7 : x2.toInt < 65) : vp_in x2 65 := by
  have q5 : (5 : Int32).toInt = 5 := by decide +kernel
  exact vp_in_iff.mpr ⟨by omega, by omega⟩
-- post @43
theorem vX0_isThere_11 (κ : KS) (k0 : Int32) (k1 : Int32) (x1 : Int32) (x2 : Int32) (x8 : Int32) (ex1 : x1 = k0 * (5 : Int32)) (ex2 : x2 = x1 + k1) (c3 : 1 ≤ k1.toInt) (c4 : k1.toInt ≤ 4) (c5 : 0 ≤ x2.toInt) (c7 : x2.toInt < 65) (ex8 : x8 = (κ.2.2.1 14) x2.toNatClampNeg) (c9 : x8.toInt = 0) : ((1 ≤ k1.toInt ∧ k1.toInt ≤ 4 ∧ 0 ≤ k0.toInt ∧ k0.toInt ≤ 12) → (((0 : Int32).toInt = 1 ∧ ¬ ((κ.2.2.1 14) (5 * k0.toInt + k1.toInt).toNat).toInt = 0) ∨ ((0 : Int32).toInt = 0 ∧ ((κ.2.2.1 14) (5 * k0.toInt + k1.toInt).toNat).toInt = 0))) := by
  have q0 : (0 : Int32).toInt = 0 := by decide +kernel
  have q5 : (5 : Int32).toInt = 5 := by decide +kernel
  intro hv
  have emx1 : x1.toInt = 5 * k0.toInt := by rw [ex1, Int32.mul_comm]; exact z_mulc 5 (by decide) (by omega) (by omega)
  have eax2 : x2.toInt = 5 * k0.toInt + k1.toInt := by rw [ex2, z_add (by omega) (by omega), emx1]
  have ecx2 : x2.toNatClampNeg = (5 * k0.toInt + k1.toInt).toNat := by show x2.toInt.toNat = _; rw [eax2]
  have z0 : (0 : Int32).toInt = 0 := by decide
  have z1 : (1 : Int32).toInt = 1 := by decide
  rw [← ecx2, ← ex8]
  first
  | (exfalso; omega)
  | omega
  | exact Or.inr ⟨z0, by first | assumption | (subst_vars; assumption)⟩
  | exact Or.inl ⟨z1, by first | assumption | (subst_vars; assumption)⟩
  | exact ⟨by first | assumption | (apply_assumption; assumption) | (rename_i q; exact q hv), rfl⟩
-- post2 @43
theorem vX0_isThere_12 (sa : Nat → Nat) (κ : KS) (k0 : Int32) (k1 : Int32) (x1 : Int32) (x2 : Int32) (x8 : Int32) (hPV : PV sa κ.2.2.2.2) (ex1 : x1 = k0 * (5 : Int32)) (ex2 : x2 = x1 + k1) (c3 : 1 ≤ k1.toInt) (c4 : k1.toInt ≤ 4) (c5 : 0 ≤ x2.toInt) (c7 : x2.toInt < 65) (ex8 : x8 = (κ.2.2.1 14) x2.toNatClampNeg) (c9 : x8.toInt = 0) : ∀ H : QT, CVq (κ.2.2.1 14) H → 0 ≤ k0.toInt → k0.toInt ≤ 12 → 1 ≤ k1.toInt → ((0 : Int32).toInt = 0 → qTh H k0.toInt k1.toInt = false) ∧ (¬ (0 : Int32).toInt = 0 → qTh H k0.toInt k1.toInt = true) := by
  have q0 : (0 : Int32).toInt = 0 := by decide +kernel
  have q5 : (5 : Int32).toInt = 5 := by decide +kernel
  intro H C h0 h1 h2
  by_cases g4 : k1.toInt ≤ 4
  · have em : x1.toInt = 5 * k0.toInt := by rw [ex1, Int32.mul_comm]; exact z_mulc 5 (by decide) (by omega) (by omega)
    have ea : x2.toInt = 5 * k0.toInt + k1.toInt := by rw [ex2, z_add (by omega) (by omega), em]
    have ec : x2.toNatClampNeg = (5 * k0.toInt + k1.toInt).toNat := by rw [clampN, ea]
    rw [ec] at ex8
    have w := qTh.of9 (i := k0.toInt) (t := k1.toInt) h2 C h0 h1 (fun _ => ex8.symm)
    first | (exact ⟨fun e => w.1 (by omega), fun e => w.2 g4 (by omega)⟩)
  · first | (exfalso; omega) | exact ⟨fun _ => qTh.no9 g4, fun e => absurd (by decide) e⟩
-- retz @43
theorem vX0_isThere_13   : 0 ≤ (1 : Int32).toInt ∧ (1 : Int32).toInt ≤ 1 := by
  have q1 : (1 : Int32).toInt = 1 := by decide +kernel
  refine ⟨?_, ?_⟩ <;> first | assumption | omega | (subst_vars; omega) | trivial
-- post @43
theorem vX0_isThere_14 (κ : KS) (k0 : Int32) (k1 : Int32) (x1 : Int32) (x2 : Int32) (x8 : Int32) (ex1 : x1 = k0 * (5 : Int32)) (ex2 : x2 = x1 + k1) (c3 : 1 ≤ k1.toInt) (c4 : k1.toInt ≤ 4) (c5 : 0 ≤ x2.toInt) (c7 : x2.toInt < 65) (ex8 : x8 = (κ.2.2.1 14) x2.toNatClampNeg) (c9 : ¬ x8.toInt = 0) : ((1 ≤ k1.toInt ∧ k1.toInt ≤ 4 ∧ 0 ≤ k0.toInt ∧ k0.toInt ≤ 12) → (((1 : Int32).toInt = 1 ∧ ¬ ((κ.2.2.1 14) (5 * k0.toInt + k1.toInt).toNat).toInt = 0) ∨ ((1 : Int32).toInt = 0 ∧ ((κ.2.2.1 14) (5 * k0.toInt + k1.toInt).toNat).toInt = 0))) := by
  have q1 : (1 : Int32).toInt = 1 := by decide +kernel
  have q5 : (5 : Int32).toInt = 5 := by decide +kernel
  intro hv
  have emx1 : x1.toInt = 5 * k0.toInt := by rw [ex1, Int32.mul_comm]; exact z_mulc 5 (by decide) (by omega) (by omega)
  have eax2 : x2.toInt = 5 * k0.toInt + k1.toInt := by rw [ex2, z_add (by omega) (by omega), emx1]
  have ecx2 : x2.toNatClampNeg = (5 * k0.toInt + k1.toInt).toNat := by show x2.toInt.toNat = _; rw [eax2]
  have z0 : (0 : Int32).toInt = 0 := by decide
  have z1 : (1 : Int32).toInt = 1 := by decide
  rw [← ecx2, ← ex8]
  first
  | (exfalso; omega)
  | omega
  | exact Or.inr ⟨z0, by first | assumption | (subst_vars; assumption)⟩
  | exact Or.inl ⟨z1, by first | assumption | (subst_vars; assumption)⟩
  | exact ⟨by first | assumption | (apply_assumption; assumption) | (rename_i q; exact q hv), rfl⟩
-- post2 @43
theorem vX0_isThere_15 (sa : Nat → Nat) (κ : KS) (k0 : Int32) (k1 : Int32) (x1 : Int32) (x2 : Int32) (x8 : Int32) (hPV : PV sa κ.2.2.2.2) (ex1 : x1 = k0 * (5 : Int32)) (ex2 : x2 = x1 + k1) (c3 : 1 ≤ k1.toInt) (c4 : k1.toInt ≤ 4) (c5 : 0 ≤ x2.toInt) (c7 : x2.toInt < 65) (ex8 : x8 = (κ.2.2.1 14) x2.toNatClampNeg) (c9 : ¬ x8.toInt = 0) : ∀ H : QT, CVq (κ.2.2.1 14) H → 0 ≤ k0.toInt → k0.toInt ≤ 12 → 1 ≤ k1.toInt → ((1 : Int32).toInt = 0 → qTh H k0.toInt k1.toInt = false) ∧ (¬ (1 : Int32).toInt = 0 → qTh H k0.toInt k1.toInt = true) := by
  have q1 : (1 : Int32).toInt = 1 := by decide +kernel
  have q5 : (5 : Int32).toInt = 5 := by decide +kernel
  intro H C h0 h1 h2
  by_cases g4 : k1.toInt ≤ 4
  · have em : x1.toInt = 5 * k0.toInt := by rw [ex1, Int32.mul_comm]; exact z_mulc 5 (by decide) (by omega) (by omega)
    have ea : x2.toInt = 5 * k0.toInt + k1.toInt := by rw [ex2, z_add (by omega) (by omega), em]
    have ec : x2.toNatClampNeg = (5 * k0.toInt + k1.toInt).toNat := by rw [clampN, ea]
    rw [ec] at ex8
    have w := qTh.of9 (i := k0.toInt) (t := k1.toInt) h2 C h0 h1 (fun _ => ex8.symm)
    first | (exact ⟨fun e => w.1 (by omega), fun e => w.2 g4 (by omega)⟩)
  · first | (exfalso; omega) | exact ⟨fun _ => qTh.no9 g4, fun e => absurd (by decide) e⟩
set_option maxHeartbeats 4000000 in
set_option maxRecDepth 100000 in
theorem NX0_isThere (l : Launch) (D : va_G) (cy : Nat → ClassId) (ad : Nat → Nat) (A : Nat → Prop) (sz0 : Nat) (sa : Nat → Nat)  (κ : KS) (sz sl : Nat) (hAF : ∀ q, A q → Fr sz0 q) (hAn : ∀ q : Nat, sz ≤ q → A q) (k0 : Int32) (k1 : Int32) (hPV : PV sa κ.2.2.2.2) : Met l yX0_isThere (Cond.code yX0_isThere cX0_isThere 4 (some .boolean) :: GWc) ({ frames := 0, cells := 0, slots := 0, locals := 0 }) (PcC D cy ad A sz0 sa [.ref (ad 4), .int k0, .int k1] κ sz sl) (va_Qi (fun (r : Int32) (u : Unit) => ((0 ≤ r.toInt ∧ r.toInt ≤ 1) ∧ (((1 ≤ k1.toInt ∧ k1.toInt ≤ 4 ∧ 0 ≤ k0.toInt ∧ k0.toInt ≤ 12) → ((r.toInt = 1 ∧ ¬ ((κ.2.2.1 14) (5 * k0.toInt + k1.toInt).toNat).toInt = 0) ∨ (r.toInt = 0 ∧ ((κ.2.2.1 14) (5 * k0.toInt + k1.toInt).toNat).toInt = 0))))) ∧ (∀ H : QT, CVq (κ.2.2.1 14) H → 0 ≤ k0.toInt → k0.toInt ≤ 12 → 1 ≤ k1.toInt → (r.toInt = 0 → qTh H k0.toInt k1.toInt = false) ∧ (¬ r.toInt = 0 → qTh H k0.toInt k1.toInt = true))) (fun (u : Unit) (t : State) => Bx D cy ad A sz sl κ (0) (0) t) A) (0) (0) A := by
  refine CM_of (loc0 := [(0, .ref (ad 4)), (1, .int k0), (2, .int k1)]) (own := RX0) (nm := "isThere") (by decide) rfl rfl rfl (Nat.le_of_ble_eq_true rfl) hAF hAn ?_
  intro p e s m below meth c ls hsz hsl C hP hS hl
  refine lv_iload_n C.x C.b dX0_isThere_0 rfl (lv_at hl 1 rfl) ?_
  refine lv_iconst (v := 5) C.x C.b dX0_isThere_1 (by decide +kernel) ?_
  refine lv_imul C.x C.b dX0_isThere_2 ?_
  refine lv_topi (fun x1 ex1 => ?_)
  refine lv_iload_n C.x C.b dX0_isThere_3 rfl (lv_at hl 2 rfl) ?_
  refine lv_iadd C.x C.b dX0_isThere_4 ?_
  refine lv_topi (fun x2 ex2 => ?_)
  refine lv_istore_n (lv' := [(3, .int x2), (0, .ref (ad 4)), (1, .int k0), (2, .int k1)]) C.x C.b dX0_isThere_5 rfl hl (by decide) rfl (fun ls hl => ?_)
  refine lv_iload_n C.x C.b dX0_isThere_6 rfl (lv_at hl 3 rfl) ?_
  refine lv_iconst (v := 1) C.x C.b dX0_isThere_7 (by decide +kernel) ?_
  refine lv_icmp_lt (tgt := 42) C.x C.b dX0_isThere_8 (by decide) (fun c3 => ?_) (fun c3 => ?_)
  · have c3 : k1.toInt < 1 := by have h := z_lt c3; rw [show (1 : Int32).toInt = 1 from by decide +kernel] at h; exact h
    refine lv_iconst (v := 0) C.x C.b dX0_isThere_42 (by decide +kernel) ?_
    exact c_retz (ty := .boolean) (hv := rfl) C hsz hsl () ⟨⟨(vX0_isThere_1  ), (vX0_isThere_2 κ k0 k1 x1 x2 ex1 ex2 c3)⟩, (vX0_isThere_3 sa κ k0 k1 x1 x2 hPV ex1 ex2 c3)⟩ hP hS ⟨(Nat.le_of_ble_eq_true rfl), (Nat.le_of_ble_eq_true rfl)⟩ ⟨(Nat.le_of_ble_eq_true rfl), (Nat.le_of_ble_eq_true rfl)⟩ dX0_isThere_43
  · have c3 : 1 ≤ k1.toInt := by have h := z_nlt c3; rw [show (1 : Int32).toInt = 1 from by decide +kernel] at h; exact h
    refine lv_iload_n C.x C.b dX0_isThere_11 rfl (lv_at hl 3 rfl) ?_
    refine lv_iconst (v := 4) C.x C.b dX0_isThere_12 (by decide +kernel) ?_
    refine lv_icmp_gt (tgt := 42) C.x C.b dX0_isThere_13 (by decide) (fun c4 => ?_) (fun c4 => ?_)
    · have c4 : 4 < k1.toInt := by have h := z_lt c4; rw [show (4 : Int32).toInt = 4 from by decide +kernel] at h; exact h
      refine lv_iconst (v := 0) C.x C.b dX0_isThere_42 (by decide +kernel) ?_
      exact c_retz (ty := .boolean) (hv := rfl) C hsz hsl () ⟨⟨(vX0_isThere_1  ), (vX0_isThere_4 κ k0 k1 x1 x2 ex1 ex2 c3 c4)⟩, (vX0_isThere_5 sa κ k0 k1 x1 x2 hPV ex1 ex2 c3 c4)⟩ hP hS ⟨(Nat.le_of_ble_eq_true rfl), (Nat.le_of_ble_eq_true rfl)⟩ ⟨(Nat.le_of_ble_eq_true rfl), (Nat.le_of_ble_eq_true rfl)⟩ dX0_isThere_43
    · have c4 : k1.toInt ≤ 4 := by have h := z_nlt c4; rw [show (4 : Int32).toInt = 4 from by decide +kernel] at h; exact h
      refine lv_iload_n C.x C.b dX0_isThere_16 rfl (lv_at hl 0 rfl) ?_
      refine lv_if_lt (tgt := 42) C.x C.b dX0_isThere_17 (by decide) (fun c5 => ?_) (fun c5 => ?_)
      · have c5 : x2.toInt < 0 := by have h := z_lt c5; rw [show (0 : Int32).toInt = 0 from by decide +kernel] at h; exact h
        refine lv_iconst (v := 0) C.x C.b dX0_isThere_42 (by decide +kernel) ?_
        exact c_retz (ty := .boolean) (hv := rfl) C hsz hsl () ⟨⟨(vX0_isThere_1  ), (vX0_isThere_6 κ k0 k1 x1 x2 ex1 ex2 c3 c4 c5)⟩, (vX0_isThere_7 sa κ k0 k1 x1 x2 hPV ex1 ex2 c3 c4 c5)⟩ hP hS ⟨(Nat.le_of_ble_eq_true rfl), (Nat.le_of_ble_eq_true rfl)⟩ ⟨(Nat.le_of_ble_eq_true rfl), (Nat.le_of_ble_eq_true rfl)⟩ dX0_isThere_43
      · have c5 : 0 ≤ x2.toInt := by have h := z_nlt c5; rw [show (0 : Int32).toInt = 0 from by decide +kernel] at h; exact h
        refine lv_iload_n C.x C.b dX0_isThere_20 rfl (lv_at hl 0 rfl) ?_
        refine lv_aload_n C.x C.b dX0_isThere_21 rfl (lv_at hl 1 rfl) ?_
        refine cg_X0_0 C hP cw_5 dX0_isThere_22 ?_
        refine cl_14 C hP dX0_isThere_25 ?_
        refine lv_icmp_ge (tgt := 42) C.x C.b dX0_isThere_26 (by decide) (fun c7 => ?_) (fun c7 => ?_)
        · have c7 : 65 ≤ x2.toInt := by have h := z_le c7; rw [show (65 : Int32).toInt = 65 from by decide +kernel] at h; exact h
          refine lv_iconst (v := 0) C.x C.b dX0_isThere_42 (by decide +kernel) ?_
          exact c_retz (ty := .boolean) (hv := rfl) C hsz hsl () ⟨⟨(vX0_isThere_1  ), (vX0_isThere_8 κ k0 k1 x1 x2 ex1 ex2 c3 c4 c5 c7)⟩, (vX0_isThere_9 sa κ k0 k1 x1 x2 hPV ex1 ex2 c3 c4 c5 c7)⟩ hP hS ⟨(Nat.le_of_ble_eq_true rfl), (Nat.le_of_ble_eq_true rfl)⟩ ⟨(Nat.le_of_ble_eq_true rfl), (Nat.le_of_ble_eq_true rfl)⟩ dX0_isThere_43
        · have c7 : x2.toInt < 65 := by have h := z_nle c7; rw [show (65 : Int32).toInt = 65 from by decide +kernel] at h; exact h
          refine lv_aload_n C.x C.b dX0_isThere_29 rfl (lv_at hl 1 rfl) ?_
          refine cg_X0_0 C hP cw_5 dX0_isThere_30 ?_
          refine lv_iload_n C.x C.b dX0_isThere_33 rfl (lv_at hl 0 rfl) ?_
          refine ca_14 (f := (κ.2.2.1 14)) C hP rfl (vX0_isThere_10 k0 k1 x1 x2 ex1 ex2 c3 c4 c5 c7) dX0_isThere_34 (fun x8 ex8 => ?_)
          refine lv_if_eq (tgt := 42) C.x C.b dX0_isThere_35 (by decide) (fun c9 => ?_) (fun c9 => ?_)
          · have c9 : x8.toInt = 0 := by have h := z_eq c9; rw [show (0 : Int32).toInt = 0 from by decide +kernel] at h; exact h
            refine lv_iconst (v := 0) C.x C.b dX0_isThere_42 (by decide +kernel) ?_
            exact c_retz (ty := .boolean) (hv := rfl) C hsz hsl () ⟨⟨(vX0_isThere_1  ), (vX0_isThere_11 κ k0 k1 x1 x2 x8 ex1 ex2 c3 c4 c5 c7 ex8 c9)⟩, (vX0_isThere_12 sa κ k0 k1 x1 x2 x8 hPV ex1 ex2 c3 c4 c5 c7 ex8 c9)⟩ hP hS ⟨(Nat.le_of_ble_eq_true rfl), (Nat.le_of_ble_eq_true rfl)⟩ ⟨(Nat.le_of_ble_eq_true rfl), (Nat.le_of_ble_eq_true rfl)⟩ dX0_isThere_43
          · have c9 : ¬ x8.toInt = 0 := by have h := z_ne c9; rw [show (0 : Int32).toInt = 0 from by decide +kernel] at h; exact h
            refine lv_iconst (v := 1) C.x C.b dX0_isThere_38 (by decide +kernel) ?_
            refine lv_goto (tgt := 43) C.x C.b dX0_isThere_39 (by decide) ?_
            exact c_retz (ty := .boolean) (hv := rfl) C hsz hsl () ⟨⟨(vX0_isThere_13  ), (vX0_isThere_14 κ k0 k1 x1 x2 x8 ex1 ex2 c3 c4 c5 c7 ex8 c9)⟩, (vX0_isThere_15 sa κ k0 k1 x1 x2 x8 hPV ex1 ex2 c3 c4 c5 c7 ex8 c9)⟩ hP hS ⟨(Nat.le_of_ble_eq_true rfl), (Nat.le_of_ble_eq_true rfl)⟩ ⟨(Nat.le_of_ble_eq_true rfl), (Nat.le_of_ble_eq_true rfl)⟩ dX0_isThere_43

-- retz @40
theorem vX0_change_1 (κ : KS) (k0 : Int32) (k1 : Int32) (r1 : Int32) (x2 : Int32) (x3 : Int32) (hr1_0_0 : 0 ≤ r1.toInt) (hr1_0_1 : r1.toInt ≤ 1) (hr1_1 : ((1 ≤ k1.toInt ∧ k1.toInt ≤ 4 ∧ 0 ≤ k0.toInt ∧ k0.toInt ≤ 12) → ((r1.toInt = 1 ∧ ¬ ((κ.2.2.1 14) (5 * k0.toInt + k1.toInt).toNat).toInt = 0) ∨ (r1.toInt = 0 ∧ ((κ.2.2.1 14) (5 * k0.toInt + k1.toInt).toNat).toInt = 0)))) (ex2 : x2 = k0 * (5 : Int32)) (ex3 : x3 = x2 + k1) (c4 : x3.toInt < 0) : 0 ≤ r1.toInt ∧ r1.toInt ≤ 1 := by
  have q5 : (5 : Int32).toInt = 5 := by decide +kernel
  refine ⟨?_, ?_⟩ <;> first | assumption | omega | (subst_vars; omega) | trivial
-- post @40
theorem vX0_change_2 (κ : KS) (k0 : Int32) (k1 : Int32) (k2 : Int32) (r1 : Int32) (x2 : Int32) (x3 : Int32) (hpre_0 : 0 ≤ k2.toInt) (hpre_1 : k2.toInt ≤ 1) (hr1_0_0 : 0 ≤ r1.toInt) (hr1_0_1 : r1.toInt ≤ 1) (hr1_1 : ((1 ≤ k1.toInt ∧ k1.toInt ≤ 4 ∧ 0 ≤ k0.toInt ∧ k0.toInt ≤ 12) → ((r1.toInt = 1 ∧ ¬ ((κ.2.2.1 14) (5 * k0.toInt + k1.toInt).toNat).toInt = 0) ∨ (r1.toInt = 0 ∧ ((κ.2.2.1 14) (5 * k0.toInt + k1.toInt).toNat).toInt = 0)))) (ex2 : x2 = k0 * (5 : Int32)) (ex3 : x3 = x2 + k1) (c4 : x3.toInt < 0) : ((1 ≤ k1.toInt ∧ k1.toInt ≤ 4 ∧ 0 ≤ k0.toInt ∧ k0.toInt ≤ 12) → (((r1.toInt = 1 ∧ ¬ ((κ.2.2.1 14) (5 * k0.toInt + k1.toInt).toNat).toInt = 0) ∨ (r1.toInt = 0 ∧ ((κ.2.2.1 14) (5 * k0.toInt + k1.toInt).toNat).toInt = 0)) ∧ (κ.2.2.1 14) = upd (κ.2.2.1 14) (5 * k0.toInt + k1.toInt).toNat k2)) := by
  have q5 : (5 : Int32).toInt = 5 := by decide +kernel
  intro hv
  have emx2 : x2.toInt = 5 * k0.toInt := by rw [ex2, Int32.mul_comm]; exact z_mulc 5 (by decide) (by omega) (by omega)
  have eax3 : x3.toInt = 5 * k0.toInt + k1.toInt := by rw [ex3, z_add (by omega) (by omega), emx2]
  have ecx3 : x3.toNatClampNeg = (5 * k0.toInt + k1.toInt).toNat := by show x3.toInt.toNat = _; rw [eax3]
  have z0 : (0 : Int32).toInt = 0 := by decide
  have z1 : (1 : Int32).toInt = 1 := by decide
  first
  | (exfalso; omega)
  | exact ⟨hr1_1 hv, by rw [← ecx3]⟩

-- bool@ret @40
theorem vX0_change_3 (κ : KS) (k0 : Int32) (k1 : Int32) (r1 : Int32) (x2 : Int32) (x3 : Int32) (hr1_0_0 : 0 ≤ r1.toInt) (hr1_0_1 : r1.toInt ≤ 1) (hr1_1 : ((1 ≤ k1.toInt ∧ k1.toInt ≤ 4 ∧ 0 ≤ k0.toInt ∧ k0.toInt ≤ 12) → ((r1.toInt = 1 ∧ ¬ ((κ.2.2.1 14) (5 * k0.toInt + k1.toInt).toNat).toInt = 0) ∨ (r1.toInt = 0 ∧ ((κ.2.2.1 14) (5 * k0.toInt + k1.toInt).toNat).toInt = 0)))) (ex2 : x2 = k0 * (5 : Int32)) (ex3 : x3 = x2 + k1) (c4 : x3.toInt < 0) : r1 = 0 ∨ r1 = 1 := by
  have q5 : (5 : Int32).toInt = 5 := by decide +kernel
  first | assumption | exact bool_of (by omega)
-- retz @40
theorem vX0_change_4 (κ : KS) (k0 : Int32) (k1 : Int32) (r1 : Int32) (x2 : Int32) (x3 : Int32) (hr1_0_0 : 0 ≤ r1.toInt) (hr1_0_1 : r1.toInt ≤ 1) (hr1_1 : ((1 ≤ k1.toInt ∧ k1.toInt ≤ 4 ∧ 0 ≤ k0.toInt ∧ k0.toInt ≤ 12) → ((r1.toInt = 1 ∧ ¬ ((κ.2.2.1 14) (5 * k0.toInt + k1.toInt).toNat).toInt = 0) ∨ (r1.toInt = 0 ∧ ((κ.2.2.1 14) (5 * k0.toInt + k1.toInt).toNat).toInt = 0)))) (ex2 : x2 = k0 * (5 : Int32)) (ex3 : x3 = x2 + k1) (c4 : 0 ≤ x3.toInt) (c6 : 65 ≤ x3.toInt) : 0 ≤ r1.toInt ∧ r1.toInt ≤ 1 := by
  have q5 : (5 : Int32).toInt = 5 := by decide +kernel
  refine ⟨?_, ?_⟩ <;> first | assumption | omega | (subst_vars; omega) | trivial
-- post @40
theorem vX0_change_5 (κ : KS) (k0 : Int32) (k1 : Int32) (k2 : Int32) (r1 : Int32) (x2 : Int32) (x3 : Int32) (hpre_0 : 0 ≤ k2.toInt) (hpre_1 : k2.toInt ≤ 1) (hr1_0_0 : 0 ≤ r1.toInt) (hr1_0_1 : r1.toInt ≤ 1) (hr1_1 : ((1 ≤ k1.toInt ∧ k1.toInt ≤ 4 ∧ 0 ≤ k0.toInt ∧ k0.toInt ≤ 12) → ((r1.toInt = 1 ∧ ¬ ((κ.2.2.1 14) (5 * k0.toInt + k1.toInt).toNat).toInt = 0) ∨ (r1.toInt = 0 ∧ ((κ.2.2.1 14) (5 * k0.toInt + k1.toInt).toNat).toInt = 0)))) (ex2 : x2 = k0 * (5 : Int32)) (ex3 : x3 = x2 + k1) (c4 : 0 ≤ x3.toInt) (c6 : 65 ≤ x3.toInt) : ((1 ≤ k1.toInt ∧ k1.toInt ≤ 4 ∧ 0 ≤ k0.toInt ∧ k0.toInt ≤ 12) → (((r1.toInt = 1 ∧ ¬ ((κ.2.2.1 14) (5 * k0.toInt + k1.toInt).toNat).toInt = 0) ∨ (r1.toInt = 0 ∧ ((κ.2.2.1 14) (5 * k0.toInt + k1.toInt).toNat).toInt = 0)) ∧ (κ.2.2.1 14) = upd (κ.2.2.1 14) (5 * k0.toInt + k1.toInt).toNat k2)) := by
  have q5 : (5 : Int32).toInt = 5 := by decide +kernel
  intro hv
  have emx2 : x2.toInt = 5 * k0.toInt := by rw [ex2, Int32.mul_comm]; exact z_mulc 5 (by decide) (by omega) (by omega)
  have eax3 : x3.toInt = 5 * k0.toInt + k1.toInt := by rw [ex3, z_add (by omega) (by omega), emx2]
  have ecx3 : x3.toNatClampNeg = (5 * k0.toInt + k1.toInt).toNat := by show x3.toInt.toNat = _; rw [eax3]
  have z0 : (0 : Int32).toInt = 0 := by decide
  have z1 : (1 : Int32).toInt = 1 := by decide
  first
  | (exfalso; omega)
  | exact ⟨hr1_1 hv, by rw [← ecx3]⟩

-- bool@ret @40
theorem vX0_change_6 (κ : KS) (k0 : Int32) (k1 : Int32) (r1 : Int32) (x2 : Int32) (x3 : Int32) (hr1_0_0 : 0 ≤ r1.toInt) (hr1_0_1 : r1.toInt ≤ 1) (hr1_1 : ((1 ≤ k1.toInt ∧ k1.toInt ≤ 4 ∧ 0 ≤ k0.toInt ∧ k0.toInt ≤ 12) → ((r1.toInt = 1 ∧ ¬ ((κ.2.2.1 14) (5 * k0.toInt + k1.toInt).toNat).toInt = 0) ∨ (r1.toInt = 0 ∧ ((κ.2.2.1 14) (5 * k0.toInt + k1.toInt).toNat).toInt = 0)))) (ex2 : x2 = k0 * (5 : Int32)) (ex3 : x3 = x2 + k1) (c4 : 0 ≤ x3.toInt) (c6 : 65 ≤ x3.toInt) : r1 = 0 ∨ r1 = 1 := by
  have q5 : (5 : Int32).toInt = 5 := by decide +kernel
  first | assumption | exact bool_of (by omega)
-- in@37 @37
theorem vX0_change_7 (κ : KS) (k0 : Int32) (k1 : Int32) (r1 : Int32) (x2 : Int32) (x3 : Int32) (hr1_0_0 : 0 ≤ r1.toInt) (hr1_0_1 : r1.toInt ≤ 1) (hr1_1 : ((1 ≤ k1.toInt ∧ k1.toInt ≤ 4 ∧ 0 ≤ k0.toInt ∧ k0.toInt ≤ 12) → ((r1.toInt = 1 ∧ ¬ ((κ.2.2.1 14) (5 * k0.toInt + k1.toInt).toNat).toInt = 0) ∨ (r1.toInt = 0 ∧ ((κ.2.2.1 14) (5 * k0.toInt + k1.toInt).toNat).toInt = 0)))) (ex2 : x2 = k0 * (5 : Int32)) (ex3 : x3 = x2 + k1) (c4 : 0 ≤ x3.toInt) (c6 : x3.toInt < 65) : vp_in x3 65 := by
  have q5 : (5 : Int32).toInt = 5 := by decide +kernel
  exact vp_in_iff.mpr ⟨by omega, by omega⟩
-- bool@37 @37
theorem vX0_change_8 (k2 : Int32) (hpre_0 : 0 ≤ k2.toInt) (hpre_1 : k2.toInt ≤ 1) : k2 = 0 ∨ k2 = 1 := by
  first | assumption | exact bool_of (by omega)
-- retz @40
theorem vX0_change_9 (κ : KS) (k0 : Int32) (k1 : Int32) (r1 : Int32) (x2 : Int32) (x3 : Int32) (hr1_0_0 : 0 ≤ r1.toInt) (hr1_0_1 : r1.toInt ≤ 1) (hr1_1 : ((1 ≤ k1.toInt ∧ k1.toInt ≤ 4 ∧ 0 ≤ k0.toInt ∧ k0.toInt ≤ 12) → ((r1.toInt = 1 ∧ ¬ ((κ.2.2.1 14) (5 * k0.toInt + k1.toInt).toNat).toInt = 0) ∨ (r1.toInt = 0 ∧ ((κ.2.2.1 14) (5 * k0.toInt + k1.toInt).toNat).toInt = 0)))) (ex2 : x2 = k0 * (5 : Int32)) (ex3 : x3 = x2 + k1) (c4 : 0 ≤ x3.toInt) (c6 : x3.toInt < 65) : 0 ≤ r1.toInt ∧ r1.toInt ≤ 1 := by
  have q5 : (5 : Int32).toInt = 5 := by decide +kernel
  refine ⟨?_, ?_⟩ <;> first | assumption | omega | (subst_vars; omega) | trivial
-- post @40
theorem vX0_change_10 (κ : KS) (k0 : Int32) (k1 : Int32) (k2 : Int32) (r1 : Int32) (x2 : Int32) (x3 : Int32) (hpre_0 : 0 ≤ k2.toInt) (hpre_1 : k2.toInt ≤ 1) (hr1_0_0 : 0 ≤ r1.toInt) (hr1_0_1 : r1.toInt ≤ 1) (hr1_1 : ((1 ≤ k1.toInt ∧ k1.toInt ≤ 4 ∧ 0 ≤ k0.toInt ∧ k0.toInt ≤ 12) → ((r1.toInt = 1 ∧ ¬ ((κ.2.2.1 14) (5 * k0.toInt + k1.toInt).toNat).toInt = 0) ∨ (r1.toInt = 0 ∧ ((κ.2.2.1 14) (5 * k0.toInt + k1.toInt).toNat).toInt = 0)))) (ex2 : x2 = k0 * (5 : Int32)) (ex3 : x3 = x2 + k1) (c4 : 0 ≤ x3.toInt) (c6 : x3.toInt < 65) : ((1 ≤ k1.toInt ∧ k1.toInt ≤ 4 ∧ 0 ≤ k0.toInt ∧ k0.toInt ≤ 12) → (((r1.toInt = 1 ∧ ¬ ((κ.2.2.1 14) (5 * k0.toInt + k1.toInt).toNat).toInt = 0) ∨ (r1.toInt = 0 ∧ ((κ.2.2.1 14) (5 * k0.toInt + k1.toInt).toNat).toInt = 0)) ∧ (upd (κ.2.2.1 14) x3.toNatClampNeg k2) = upd (κ.2.2.1 14) (5 * k0.toInt + k1.toInt).toNat k2)) := by
  have q5 : (5 : Int32).toInt = 5 := by decide +kernel
  intro hv
  have emx2 : x2.toInt = 5 * k0.toInt := by rw [ex2, Int32.mul_comm]; exact z_mulc 5 (by decide) (by omega) (by omega)
  have eax3 : x3.toInt = 5 * k0.toInt + k1.toInt := by rw [ex3, z_add (by omega) (by omega), emx2]
  have ecx3 : x3.toNatClampNeg = (5 * k0.toInt + k1.toInt).toNat := by show x3.toInt.toNat = _; rw [eax3]
  have z0 : (0 : Int32).toInt = 0 := by decide
  have z1 : (1 : Int32).toInt = 1 := by decide
  first
  | (exfalso; omega)
  | exact ⟨hr1_1 hv, by rw [← ecx3]⟩

-- bool@ret @40
theorem vX0_change_11 (κ : KS) (k0 : Int32) (k1 : Int32) (r1 : Int32) (x2 : Int32) (x3 : Int32) (hr1_0_0 : 0 ≤ r1.toInt) (hr1_0_1 : r1.toInt ≤ 1) (hr1_1 : ((1 ≤ k1.toInt ∧ k1.toInt ≤ 4 ∧ 0 ≤ k0.toInt ∧ k0.toInt ≤ 12) → ((r1.toInt = 1 ∧ ¬ ((κ.2.2.1 14) (5 * k0.toInt + k1.toInt).toNat).toInt = 0) ∨ (r1.toInt = 0 ∧ ((κ.2.2.1 14) (5 * k0.toInt + k1.toInt).toNat).toInt = 0)))) (ex2 : x2 = k0 * (5 : Int32)) (ex3 : x3 = x2 + k1) (c4 : 0 ≤ x3.toInt) (c6 : x3.toInt < 65) : r1 = 0 ∨ r1 = 1 := by
  have q5 : (5 : Int32).toInt = 5 := by decide +kernel
  first | assumption | exact bool_of (by omega)
set_option maxHeartbeats 4000000 in
set_option maxRecDepth 100000 in
theorem NX0_change (l : Launch) (D : va_G) (cy : Nat → ClassId) (ad : Nat → Nat) (A : Nat → Prop) (sz0 : Nat) (sa : Nat → Nat)  (κ : KS) (sz sl : Nat) (hAF : ∀ q, A q → Fr sz0 q) (hAn : ∀ q : Nat, sz ≤ q → A q) (k0 : Int32) (k1 : Int32) (k2 : Int32) (hPV : PV sa κ.2.2.2.2) (hpre : 0 ≤ k2.toInt ∧ k2.toInt ≤ 1) : Met l yX0_change (Cond.code yX0_change cX0_change 6 (some .boolean) :: GWc) ({ frames := 1, cells := 0, slots := 0, locals := 23 }) (PcC D cy ad A sz0 sa [.ref (ad 4), .int k0, .int k1, .int k2] κ sz sl) (va_Qi (fun (r : Int32) (u : (Nat → Int32)) => (0 ≤ r.toInt ∧ r.toInt ≤ 1) ∧ (((1 ≤ k1.toInt ∧ k1.toInt ≤ 4 ∧ 0 ≤ k0.toInt ∧ k0.toInt ≤ 12) → (((r.toInt = 1 ∧ ¬ ((κ.2.2.1 14) (5 * k0.toInt + k1.toInt).toNat).toInt = 0) ∨ (r.toInt = 0 ∧ ((κ.2.2.1 14) (5 * k0.toInt + k1.toInt).toNat).toInt = 0)) ∧ u = upd (κ.2.2.1 14) (5 * k0.toInt + k1.toInt).toNat k2)))) (fun (u : (Nat → Int32)) (t : State) => Bx D cy ad A sz sl (tA κ 14 u) (0) (0) t) A) (0) (0) A := by
  refine CM_of (loc0 := [(0, .ref (ad 4)), (1, .int k0), (2, .int k1), (3, .int k2)]) (own := RX0) (nm := "change") (by decide) rfl rfl rfl (Nat.le_of_ble_eq_true rfl) hAF hAn ?_
  intro p e s m below meth c ls hsz hsl C hP hS hl
  obtain ⟨hpre_0, hpre_1⟩ := hpre
  refine lv_aload_n C.x C.b dX0_change_0 rfl (lv_at hl 0 rfl) ?_
  refine lv_iload_n C.x C.b dX0_change_1 rfl (lv_at hl 1 rfl) ?_
  refine lv_iload_n C.x C.b dX0_change_2 rfl (lv_at hl 2 rfl) ?_
  refine c_callVi (n := 2) (As := [.int k0, .int k1]) (rest := []) C hP hS hl.1 (NX0_isThere l D cy ad A sz0 sa κ s.heap.size (SLT s.heap) C.f (fun q h => C.a q (Nat.le_trans hS.1 h)) k0 k1 hPV) ⟨cw_31, cw_35, by decide +kernel⟩ ⟨cw_32, cw_33, cw_34⟩ rfl (hP.recvS (k := 4) (ci := 2) C.K rfl rfl) rfl rfl (lv_room (Nat.le_of_ble_eq_true rfl)) ⟨Nat.le_of_ble_eq_true rfl, Nat.le_of_ble_eq_true rfl⟩ ⟨(Nat.le_of_ble_eq_true rfl), (Nat.le_of_ble_eq_true rfl)⟩ dX0_change_3 (fun r1 u H locs hr1 hP hS => ?_)
  obtain ⟨hr1, hr1y⟩ := hr1
  have hr1y : ∀ H : QT, CVq (κ.2.2.1 14) H → 0 ≤ k0.toInt → k0.toInt ≤ 12 → 1 ≤ k1.toInt → (r1.toInt = 0 → qTh H k0.toInt k1.toInt = false) ∧ (¬ r1.toInt = 0 → qTh H k0.toInt k1.toInt = true) := hr1y
  have hr1 : (0 ≤ r1.toInt ∧ r1.toInt ≤ 1) ∧ (((1 ≤ k1.toInt ∧ k1.toInt ≤ 4 ∧ 0 ≤ k0.toInt ∧ k0.toInt ≤ 12) → ((r1.toInt = 1 ∧ ¬ ((κ.2.2.1 14) (5 * k0.toInt + k1.toInt).toNat).toInt = 0) ∨ (r1.toInt = 0 ∧ ((κ.2.2.1 14) (5 * k0.toInt + k1.toInt).toNat).toInt = 0)))) := hr1
  obtain ⟨hr1_0, hr1_1⟩ := hr1
  obtain ⟨hr1_0_0, hr1_0_1⟩ := hr1_0
  refine lv_istore (lv' := [(4, .int r1), (0, .ref (ad 4)), (1, .int k0), (2, .int k1), (3, .int k2)]) C.x C.b dX0_change_6 hl (by decide) rfl (fun ls hl => ?_)
  refine lv_iload_n C.x C.b dX0_change_8 rfl (lv_at hl 2 rfl) ?_
  refine lv_iconst (v := 5) C.x C.b dX0_change_9 (by decide +kernel) ?_
  refine lv_imul C.x C.b dX0_change_10 ?_
  refine lv_topi (fun x2 ex2 => ?_)
  refine lv_iload_n C.x C.b dX0_change_11 rfl (lv_at hl 3 rfl) ?_
  refine lv_iadd C.x C.b dX0_change_12 ?_
  refine lv_topi (fun x3 ex3 => ?_)
  refine lv_istore (lv' := [(5, .int x3), (4, .int r1), (0, .ref (ad 4)), (1, .int k0), (2, .int k1), (3, .int k2)]) C.x C.b dX0_change_13 hl (by decide) rfl (fun ls hl => ?_)
  refine lv_iload C.x C.b dX0_change_15 (lv_at hl 0 rfl) ?_
  refine lv_if_lt (tgt := 38) C.x C.b dX0_change_17 (by decide) (fun c4 => ?_) (fun c4 => ?_)
  · have c4 : x3.toInt < 0 := by have h := z_lt c4; rw [show (0 : Int32).toInt = 0 from by decide +kernel] at h; exact h
    refine lv_iload C.x C.b dX0_change_38 (lv_at hl 1 rfl) ?_
    have hP : CH D cy ad A (tA κ 14 (κ.2.2.1 14)) H := CH.cong hP rfl rfl rfl rfl rfl rfl rfl rfl rfl rfl rfl rfl rfl rfl rfl rfl rfl rfl rfl rfl rfl rfl rfl rfl rfl rfl rfl
    exact c_retz (ty := .boolean) (hv := (by rcases (vX0_change_3 κ k0 k1 r1 x2 x3 hr1_0_0 hr1_0_1 hr1_1 ex2 ex3 c4) with h | h <;> rw [h] <;> rfl)) C hsz hsl (κ.2.2.1 14) ⟨(vX0_change_1 κ k0 k1 r1 x2 x3 hr1_0_0 hr1_0_1 hr1_1 ex2 ex3 c4), (vX0_change_2 κ k0 k1 k2 r1 x2 x3 hpre_0 hpre_1 hr1_0_0 hr1_0_1 hr1_1 ex2 ex3 c4)⟩ hP hS ⟨(Nat.le_of_ble_eq_true rfl), (Nat.le_of_ble_eq_true rfl)⟩ ⟨(Nat.le_of_ble_eq_true rfl), (Nat.le_of_ble_eq_true rfl)⟩ dX0_change_40
  · have c4 : 0 ≤ x3.toInt := by have h := z_nlt c4; rw [show (0 : Int32).toInt = 0 from by decide +kernel] at h; exact h
    refine lv_iload C.x C.b dX0_change_20 (lv_at hl 0 rfl) ?_
    refine lv_aload_n C.x C.b dX0_change_22 rfl (lv_at hl 2 rfl) ?_
    refine cg_X0_0 C hP cw_5 dX0_change_23 ?_
    refine cl_14 C hP dX0_change_26 ?_
    refine lv_icmp_ge (tgt := 38) C.x C.b dX0_change_27 (by decide) (fun c6 => ?_) (fun c6 => ?_)
    · have c6 : 65 ≤ x3.toInt := by have h := z_le c6; rw [show (65 : Int32).toInt = 65 from by decide +kernel] at h; exact h
      refine lv_iload C.x C.b dX0_change_38 (lv_at hl 1 rfl) ?_
      have hP : CH D cy ad A (tA κ 14 (κ.2.2.1 14)) H := CH.cong hP rfl rfl rfl rfl rfl rfl rfl rfl rfl rfl rfl rfl rfl rfl rfl rfl rfl rfl rfl rfl rfl rfl rfl rfl rfl rfl rfl
      exact c_retz (ty := .boolean) (hv := (by rcases (vX0_change_6 κ k0 k1 r1 x2 x3 hr1_0_0 hr1_0_1 hr1_1 ex2 ex3 c4 c6) with h | h <;> rw [h] <;> rfl)) C hsz hsl (κ.2.2.1 14) ⟨(vX0_change_4 κ k0 k1 r1 x2 x3 hr1_0_0 hr1_0_1 hr1_1 ex2 ex3 c4 c6), (vX0_change_5 κ k0 k1 k2 r1 x2 x3 hpre_0 hpre_1 hr1_0_0 hr1_0_1 hr1_1 ex2 ex3 c4 c6)⟩ hP hS ⟨(Nat.le_of_ble_eq_true rfl), (Nat.le_of_ble_eq_true rfl)⟩ ⟨(Nat.le_of_ble_eq_true rfl), (Nat.le_of_ble_eq_true rfl)⟩ dX0_change_40
    · have c6 : x3.toInt < 65 := by have h := z_nle c6; rw [show (65 : Int32).toInt = 65 from by decide +kernel] at h; exact h
      refine lv_aload_n C.x C.b dX0_change_30 rfl (lv_at hl 2 rfl) ?_
      refine cg_X0_0 C hP cw_5 dX0_change_31 ?_
      refine lv_iload C.x C.b dX0_change_34 (lv_at hl 0 rfl) ?_
      refine lv_iload_n C.x C.b dX0_change_36 rfl (lv_at hl 5 rfl) ?_
      refine cw_st14 (f := (κ.2.2.1 14)) C hP hS rfl (by rcases (vX0_change_8 k2 hpre_0 hpre_1) with h | h <;> rw [h] <;> rfl) (vX0_change_7 κ k0 k1 r1 x2 x3 hr1_0_0 hr1_0_1 hr1_1 ex2 ex3 c4 c6) dX0_change_37 (fun H locs hP hS => ?_)
      refine lv_iload C.x C.b dX0_change_38 (lv_at hl 1 rfl) ?_
      exact c_retz (ty := .boolean) (hv := (by rcases (vX0_change_11 κ k0 k1 r1 x2 x3 hr1_0_0 hr1_0_1 hr1_1 ex2 ex3 c4 c6) with h | h <;> rw [h] <;> rfl)) C hsz hsl (upd (κ.2.2.1 14) x3.toNatClampNeg k2) ⟨(vX0_change_9 κ k0 k1 r1 x2 x3 hr1_0_0 hr1_0_1 hr1_1 ex2 ex3 c4 c6), (vX0_change_10 κ k0 k1 k2 r1 x2 x3 hpre_0 hpre_1 hr1_0_0 hr1_0_1 hr1_1 ex2 ex3 c4 c6)⟩ hP hS ⟨(Nat.le_of_ble_eq_true rfl), (Nat.le_of_ble_eq_true rfl)⟩ ⟨(Nat.le_of_ble_eq_true rfl), (Nat.le_of_ble_eq_true rfl)⟩ dX0_change_40

-- retz @22
theorem vX0_reach_1   : 0 ≤ (1 : Int32).toInt ∧ (1 : Int32).toInt ≤ 1 := by
  have q1 : (1 : Int32).toInt = 1 := by decide +kernel
  refine ⟨?_, ?_⟩ <;> first | assumption | omega | (subst_vars; omega) | trivial
-- post2 @22
theorem vX0_reach_2 (sa : Nat → Nat) (κ : KS) (k0 : Nat) (k1 : Int32) (r1 : Int32) (ht0 : oT κ.2.2.2.2 k0 = 1) (hPV : PV sa κ.2.2.2.2) (hr1y : ∀ H : QT, CVq (κ.2.2.1 14) H → 0 ≤ (5 : Int32).toInt → (5 : Int32).toInt ≤ 12 → 1 ≤ k1.toInt → (r1.toInt = 0 → qTh H (5 : Int32).toInt k1.toInt = false) ∧ (¬ r1.toInt = 0 → qTh H (5 : Int32).toInt k1.toInt = true)) (hr1_0_0 : 0 ≤ r1.toInt) (hr1_0_1 : r1.toInt ≤ 1) (hr1_1 : ((1 ≤ k1.toInt ∧ k1.toInt ≤ 4 ∧ 0 ≤ (5 : Int32).toInt ∧ (5 : Int32).toInt ≤ 12) → ((r1.toInt = 1 ∧ ¬ ((κ.2.2.1 14) (5 * (5 : Int32).toInt + k1.toInt).toNat).toInt = 0) ∨ (r1.toInt = 0 ∧ ((κ.2.2.1 14) (5 * (5 : Int32).toInt + k1.toInt).toNat).toInt = 0)))) (c2 : ¬ r1.toInt = 0) : ∀ (q7 q8 : Nat → Option Nat) (H : QT) (n : Int) (v : QV), FAMq κ.2.2.2.2 q7 H n → VALq κ.2.2.2.2 sa q7 q8 k0 v → CVq (κ.2.2.1 14) H → 1 ≤ k1.toInt → ((1 : Int32).toInt = 0 → qReach H v k1.toInt = false) ∧ (¬ (1 : Int32).toInt = 0 → qReach H v k1.toInt = true) := by
  have q1 : (1 : Int32).toInt = 1 := by decide +kernel
  have q5 : (5 : Int32).toInt = 5 := by decide +kernel
  intro q7 q8 H n v F h C h1
  have kb := h.kb9
  have A := hr1y H C (by decide) (by decide) h1
  rw [show (5 : Int32).toInt = 5 by decide] at A
  exact ⟨fun e => absurd e (by decide), fun _ => VALq.re5 (A.2 (by omega))⟩
-- init2@45 @45
theorem vX0_reach_3 (sa : Nat → Nat) (κ : KS) (k0 : Nat) (k1 : Int32) (r1 : Int32) (x3 : Int32) (r4 : Int32) (ht0 : oT κ.2.2.2.2 k0 = 1) (hPV : PV sa κ.2.2.2.2) (hr1y : ∀ H : QT, CVq (κ.2.2.1 14) H → 0 ≤ (5 : Int32).toInt → (5 : Int32).toInt ≤ 12 → 1 ≤ k1.toInt → (r1.toInt = 0 → qTh H (5 : Int32).toInt k1.toInt = false) ∧ (¬ r1.toInt = 0 → qTh H (5 : Int32).toInt k1.toInt = true)) (hr1_0_0 : 0 ≤ r1.toInt) (hr1_0_1 : r1.toInt ≤ 1) (hr1_1 : ((1 ≤ k1.toInt ∧ k1.toInt ≤ 4 ∧ 0 ≤ (5 : Int32).toInt ∧ (5 : Int32).toInt ≤ 12) → ((r1.toInt = 1 ∧ ¬ ((κ.2.2.1 14) (5 * (5 : Int32).toInt + k1.toInt).toNat).toInt = 0) ∨ (r1.toInt = 0 ∧ ((κ.2.2.1 14) (5 * (5 : Int32).toInt + k1.toInt).toNat).toInt = 0)))) (c2 : r1.toInt = 0) (ex3 : oI κ.2.2.2.2 0 k0 = x3) (hr4y : ∀ H : QT, CVq (κ.2.2.1 14) H → 0 ≤ x3.toInt → x3.toInt ≤ 12 → 1 ≤ k1.toInt → (r4.toInt = 0 → qTh H x3.toInt k1.toInt = false) ∧ (¬ r4.toInt = 0 → qTh H x3.toInt k1.toInt = true)) (hr4_0_0 : 0 ≤ r4.toInt) (hr4_0_1 : r4.toInt ≤ 1) (hr4_1 : ((1 ≤ k1.toInt ∧ k1.toInt ≤ 4 ∧ 0 ≤ x3.toInt ∧ x3.toInt ≤ 12) → ((r4.toInt = 1 ∧ ¬ ((κ.2.2.1 14) (5 * x3.toInt + k1.toInt).toNat).toInt = 0) ∨ (r4.toInt = 0 ∧ ((κ.2.2.1 14) (5 * x3.toInt + k1.toInt).toNat).toInt = 0)))) (c5 : r4.toInt = 0) (ex6 : oR κ.2.2.2.2 1 k0 = none) : ∀ (q7 q8 : Nat → Option Nat) (H : QT) (n : Int) (v : QV), FAMq κ.2.2.2.2 q7 H n → VALq κ.2.2.2.2 sa q7 q8 k0 v → CVq (κ.2.2.1 14) H → 1 ≤ k1.toInt → ∃ w : Int, FPq q7 n w none ∧ qReach H v k1.toInt = (decide (k1.toInt ≤ 4) && (qAnc H w).any (fun c => qThere H (8 + c) k1.toInt)) := by
  have q5 : (5 : Int32).toInt = 5 := by decide +kernel
  intro q7 q8 H n v F h C h1
  have kb := h.kb9
  have A := hr1y H C (by decide) (by decide) h1
  rw [show (5 : Int32).toInt = 5 by decide] at A
  have k := h.k9
  rw [ex3] at k
  have B := hr4y H C (by omega) (by omega) h1
  rw [k] at B
  exact ⟨-1, Or.inl ⟨by decide, rfl⟩, by rw [h.re0 (A.1 (by omega)) (B.1 (by omega)) ex6, qAnc_neg (by decide)]; exact (Bool.and_false _).symm⟩
-- retz @72
theorem vX0_reach_4   : 0 ≤ (0 : Int32).toInt ∧ (0 : Int32).toInt ≤ 1 := by
  have q0 : (0 : Int32).toInt = 0 := by decide +kernel
  refine ⟨?_, ?_⟩ <;> first | assumption | omega | (subst_vars; omega) | trivial
-- post2 @72
theorem vX0_reach_5 (sa : Nat → Nat) (κ : KS) (k0 : Nat) (k1 : Int32) (r1 : Int32) (x3 : Int32) (r4 : Int32) (ht0 : oT κ.2.2.2.2 k0 = 1) (hPV : PV sa κ.2.2.2.2) (hr1y : ∀ H : QT, CVq (κ.2.2.1 14) H → 0 ≤ (5 : Int32).toInt → (5 : Int32).toInt ≤ 12 → 1 ≤ k1.toInt → (r1.toInt = 0 → qTh H (5 : Int32).toInt k1.toInt = false) ∧ (¬ r1.toInt = 0 → qTh H (5 : Int32).toInt k1.toInt = true)) (hr1_0_0 : 0 ≤ r1.toInt) (hr1_0_1 : r1.toInt ≤ 1) (hr1_1 : ((1 ≤ k1.toInt ∧ k1.toInt ≤ 4 ∧ 0 ≤ (5 : Int32).toInt ∧ (5 : Int32).toInt ≤ 12) → ((r1.toInt = 1 ∧ ¬ ((κ.2.2.1 14) (5 * (5 : Int32).toInt + k1.toInt).toNat).toInt = 0) ∨ (r1.toInt = 0 ∧ ((κ.2.2.1 14) (5 * (5 : Int32).toInt + k1.toInt).toNat).toInt = 0)))) (c2 : r1.toInt = 0) (ex3 : oI κ.2.2.2.2 0 k0 = x3) (hr4y : ∀ H : QT, CVq (κ.2.2.1 14) H → 0 ≤ x3.toInt → x3.toInt ≤ 12 → 1 ≤ k1.toInt → (r4.toInt = 0 → qTh H x3.toInt k1.toInt = false) ∧ (¬ r4.toInt = 0 → qTh H x3.toInt k1.toInt = true)) (hr4_0_0 : 0 ≤ r4.toInt) (hr4_0_1 : r4.toInt ≤ 1) (hr4_1 : ((1 ≤ k1.toInt ∧ k1.toInt ≤ 4 ∧ 0 ≤ x3.toInt ∧ x3.toInt ≤ 12) → ((r4.toInt = 1 ∧ ¬ ((κ.2.2.1 14) (5 * x3.toInt + k1.toInt).toNat).toInt = 0) ∨ (r4.toInt = 0 ∧ ((κ.2.2.1 14) (5 * x3.toInt + k1.toInt).toNat).toInt = 0)))) (c5 : r4.toInt = 0) (ex6 : oR κ.2.2.2.2 1 k0 = none) (hi45y : ∀ (q7 q8 : Nat → Option Nat) (H : QT) (n : Int) (v : QV), FAMq κ.2.2.2.2 q7 H n → VALq κ.2.2.2.2 sa q7 q8 k0 v → CVq (κ.2.2.1 14) H → 1 ≤ k1.toInt → ∃ w : Int, FPq q7 n w none ∧ qReach H v k1.toInt = (decide (k1.toInt ≤ 4) && (qAnc H w).any (fun c => qThere H (8 + c) k1.toInt))) : ∀ (q7 q8 : Nat → Option Nat) (H : QT) (n : Int) (v : QV), FAMq κ.2.2.2.2 q7 H n → VALq κ.2.2.2.2 sa q7 q8 k0 v → CVq (κ.2.2.1 14) H → 1 ≤ k1.toInt → ((0 : Int32).toInt = 0 → qReach H v k1.toInt = false) ∧ (¬ (0 : Int32).toInt = 0 → qReach H v k1.toInt = true) := by
  have q0 : (0 : Int32).toInt = 0 := by decide +kernel
  have q5 : (5 : Int32).toInt = 5 := by decide +kernel
  intro q7 q8 H n v F h C h1
  have kb := h.kb9
  have A := hr1y H C (by decide) (by decide) h1
  rw [show (5 : Int32).toInt = 5 by decide] at A
  have k := h.k9
  rw [ex3] at k
  have B := hr4y H C (by omega) (by omega) h1
  rw [k] at B
  obtain ⟨w, z2, z3⟩ := hi45y q7 q8 H n v F h C h1
  exact ⟨fun _ => z3.trans z2.rz9, fun e => absurd (by decide) e⟩
-- inv2@45 @45
theorem vX0_reach_6 (sa : Nat → Nat) (κ : KS) (k0 : Nat) (k1 : Int32) (r1 : Int32) (x3 : Int32) (r4 : Int32) (b9 : Nat) (x10 : Int32) (r11 : Int32) (x13 : Option Nat) (ht0 : oT κ.2.2.2.2 k0 = 1) (hPV : PV sa κ.2.2.2.2) (hr1y : ∀ H : QT, CVq (κ.2.2.1 14) H → 0 ≤ (5 : Int32).toInt → (5 : Int32).toInt ≤ 12 → 1 ≤ k1.toInt → (r1.toInt = 0 → qTh H (5 : Int32).toInt k1.toInt = false) ∧ (¬ r1.toInt = 0 → qTh H (5 : Int32).toInt k1.toInt = true)) (hr1_0_0 : 0 ≤ r1.toInt) (hr1_0_1 : r1.toInt ≤ 1) (hr1_1 : ((1 ≤ k1.toInt ∧ k1.toInt ≤ 4 ∧ 0 ≤ (5 : Int32).toInt ∧ (5 : Int32).toInt ≤ 12) → ((r1.toInt = 1 ∧ ¬ ((κ.2.2.1 14) (5 * (5 : Int32).toInt + k1.toInt).toNat).toInt = 0) ∨ (r1.toInt = 0 ∧ ((κ.2.2.1 14) (5 * (5 : Int32).toInt + k1.toInt).toNat).toInt = 0)))) (c2 : r1.toInt = 0) (ex3 : oI κ.2.2.2.2 0 k0 = x3) (hr4y : ∀ H : QT, CVq (κ.2.2.1 14) H → 0 ≤ x3.toInt → x3.toInt ≤ 12 → 1 ≤ k1.toInt → (r4.toInt = 0 → qTh H x3.toInt k1.toInt = false) ∧ (¬ r4.toInt = 0 → qTh H x3.toInt k1.toInt = true)) (hr4_0_0 : 0 ≤ r4.toInt) (hr4_0_1 : r4.toInt ≤ 1) (hr4_1 : ((1 ≤ k1.toInt ∧ k1.toInt ≤ 4 ∧ 0 ≤ x3.toInt ∧ x3.toInt ≤ 12) → ((r4.toInt = 1 ∧ ¬ ((κ.2.2.1 14) (5 * x3.toInt + k1.toInt).toNat).toInt = 0) ∨ (r4.toInt = 0 ∧ ((κ.2.2.1 14) (5 * x3.toInt + k1.toInt).toNat).toInt = 0)))) (c5 : r4.toInt = 0) (ex6 : oR κ.2.2.2.2 1 k0 = none) (hi45y : ∀ (q7 q8 : Nat → Option Nat) (H : QT) (n : Int) (v : QV), FAMq κ.2.2.2.2 q7 H n → VALq κ.2.2.2.2 sa q7 q8 k0 v → CVq (κ.2.2.1 14) H → 1 ≤ k1.toInt → ∃ w : Int, FPq q7 n w (some b9) ∧ qReach H v k1.toInt = (decide (k1.toInt ≤ 4) && (qAnc H w).any (fun c => qThere H (8 + c) k1.toInt))) (ex10 : oI κ.2.2.2.2 7 b9 = x10) (hr11y : ∀ H : QT, CVq (κ.2.2.1 14) H → 0 ≤ x10.toInt → x10.toInt ≤ 12 → 1 ≤ k1.toInt → (r11.toInt = 0 → qTh H x10.toInt k1.toInt = false) ∧ (¬ r11.toInt = 0 → qTh H x10.toInt k1.toInt = true)) (hr11_0_0 : 0 ≤ r11.toInt) (hr11_0_1 : r11.toInt ≤ 1) (hr11_1 : ((1 ≤ k1.toInt ∧ k1.toInt ≤ 4 ∧ 0 ≤ x10.toInt ∧ x10.toInt ≤ 12) → ((r11.toInt = 1 ∧ ¬ ((κ.2.2.1 14) (5 * x10.toInt + k1.toInt).toNat).toInt = 0) ∨ (r11.toInt = 0 ∧ ((κ.2.2.1 14) (5 * x10.toInt + k1.toInt).toNat).toInt = 0)))) (c12 : r11.toInt = 0) (ex13 : oR κ.2.2.2.2 6 b9 = x13) (mx13 : cto κ.2.2.2.2 x13 < oC κ.2.2.2.2 b9) : ∀ (q7 q8 : Nat → Option Nat) (H : QT) (n : Int) (v : QV), FAMq κ.2.2.2.2 q7 H n → VALq κ.2.2.2.2 sa q7 q8 k0 v → CVq (κ.2.2.1 14) H → 1 ≤ k1.toInt → ∃ w : Int, FPq q7 n w x13 ∧ qReach H v k1.toInt = (decide (k1.toInt ≤ 4) && (qAnc H w).any (fun c => qThere H (8 + c) k1.toInt)) := by
  have q5 : (5 : Int32).toInt = 5 := by decide +kernel
  intro q7 q8 H n v F h C h1
  have kb := h.kb9
  have A := hr1y H C (by decide) (by decide) h1
  rw [show (5 : Int32).toInt = 5 by decide] at A
  have k := h.k9
  rw [ex3] at k
  have B := hr4y H C (by omega) (by omega) h1
  rw [k] at B
  obtain ⟨w, z2, z3⟩ := hi45y q7 q8 H n v F h C h1
  obtain ⟨g1, g2, g3, g4, _, _⟩ := z2.up9 F rfl ex13
  have n5 := F.1
  rw [ex10] at g4
  have D := hr11y H C (by omega) (by omega) h1
  have W := z2.re9 (t := k1.toInt) (K := x10.toInt) F ex13 (by rw [ex10])
  obtain ⟨w1, w2⟩ := W.1 (D.1 (by omega))
  exact ⟨_, w1, z3.trans w2⟩
-- meas@45 @45
theorem vX0_reach_7 (κ : KS) (k0 : Nat) (k1 : Int32) (x3 : Int32) (r4 : Int32) (b9 : Nat) (x10 : Int32) (r11 : Int32) (x13 : Option Nat) (ex3 : oI κ.2.2.2.2 0 k0 = x3) (hr4_0_0 : 0 ≤ r4.toInt) (hr4_0_1 : r4.toInt ≤ 1) (hr4_1 : ((1 ≤ k1.toInt ∧ k1.toInt ≤ 4 ∧ 0 ≤ x3.toInt ∧ x3.toInt ≤ 12) → ((r4.toInt = 1 ∧ ¬ ((κ.2.2.1 14) (5 * x3.toInt + k1.toInt).toNat).toInt = 0) ∨ (r4.toInt = 0 ∧ ((κ.2.2.1 14) (5 * x3.toInt + k1.toInt).toNat).toInt = 0)))) (c5 : r4.toInt = 0) (ex10 : oI κ.2.2.2.2 7 b9 = x10) (hr11_0_0 : 0 ≤ r11.toInt) (hr11_0_1 : r11.toInt ≤ 1) (hr11_1 : ((1 ≤ k1.toInt ∧ k1.toInt ≤ 4 ∧ 0 ≤ x10.toInt ∧ x10.toInt ≤ 12) → ((r11.toInt = 1 ∧ ¬ ((κ.2.2.1 14) (5 * x10.toInt + k1.toInt).toNat).toInt = 0) ∨ (r11.toInt = 0 ∧ ((κ.2.2.1 14) (5 * x10.toInt + k1.toInt).toNat).toInt = 0)))) (c12 : r11.toInt = 0) (mx13 : cto κ.2.2.2.2 x13 < oC κ.2.2.2.2 b9) : (cto κ.2.2.2.2 x13) < (cto κ.2.2.2.2 (some b9)) := by
  show cto _ _ < oC _ _
  assumption
-- post2 @62
theorem vX0_reach_8 (sa : Nat → Nat) (κ : KS) (k0 : Nat) (k1 : Int32) (r1 : Int32) (x3 : Int32) (r4 : Int32) (b9 : Nat) (x10 : Int32) (r11 : Int32) (ht0 : oT κ.2.2.2.2 k0 = 1) (hPV : PV sa κ.2.2.2.2) (hr1y : ∀ H : QT, CVq (κ.2.2.1 14) H → 0 ≤ (5 : Int32).toInt → (5 : Int32).toInt ≤ 12 → 1 ≤ k1.toInt → (r1.toInt = 0 → qTh H (5 : Int32).toInt k1.toInt = false) ∧ (¬ r1.toInt = 0 → qTh H (5 : Int32).toInt k1.toInt = true)) (hr1_0_0 : 0 ≤ r1.toInt) (hr1_0_1 : r1.toInt ≤ 1) (hr1_1 : ((1 ≤ k1.toInt ∧ k1.toInt ≤ 4 ∧ 0 ≤ (5 : Int32).toInt ∧ (5 : Int32).toInt ≤ 12) → ((r1.toInt = 1 ∧ ¬ ((κ.2.2.1 14) (5 * (5 : Int32).toInt + k1.toInt).toNat).toInt = 0) ∨ (r1.toInt = 0 ∧ ((κ.2.2.1 14) (5 * (5 : Int32).toInt + k1.toInt).toNat).toInt = 0)))) (c2 : r1.toInt = 0) (ex3 : oI κ.2.2.2.2 0 k0 = x3) (hr4y : ∀ H : QT, CVq (κ.2.2.1 14) H → 0 ≤ x3.toInt → x3.toInt ≤ 12 → 1 ≤ k1.toInt → (r4.toInt = 0 → qTh H x3.toInt k1.toInt = false) ∧ (¬ r4.toInt = 0 → qTh H x3.toInt k1.toInt = true)) (hr4_0_0 : 0 ≤ r4.toInt) (hr4_0_1 : r4.toInt ≤ 1) (hr4_1 : ((1 ≤ k1.toInt ∧ k1.toInt ≤ 4 ∧ 0 ≤ x3.toInt ∧ x3.toInt ≤ 12) → ((r4.toInt = 1 ∧ ¬ ((κ.2.2.1 14) (5 * x3.toInt + k1.toInt).toNat).toInt = 0) ∨ (r4.toInt = 0 ∧ ((κ.2.2.1 14) (5 * x3.toInt + k1.toInt).toNat).toInt = 0)))) (c5 : r4.toInt = 0) (ex6 : oR κ.2.2.2.2 1 k0 = none) (hi45y : ∀ (q7 q8 : Nat → Option Nat) (H : QT) (n : Int) (v : QV), FAMq κ.2.2.2.2 q7 H n → VALq κ.2.2.2.2 sa q7 q8 k0 v → CVq (κ.2.2.1 14) H → 1 ≤ k1.toInt → ∃ w : Int, FPq q7 n w (some b9) ∧ qReach H v k1.toInt = (decide (k1.toInt ≤ 4) && (qAnc H w).any (fun c => qThere H (8 + c) k1.toInt))) (ex10 : oI κ.2.2.2.2 7 b9 = x10) (hr11y : ∀ H : QT, CVq (κ.2.2.1 14) H → 0 ≤ x10.toInt → x10.toInt ≤ 12 → 1 ≤ k1.toInt → (r11.toInt = 0 → qTh H x10.toInt k1.toInt = false) ∧ (¬ r11.toInt = 0 → qTh H x10.toInt k1.toInt = true)) (hr11_0_0 : 0 ≤ r11.toInt) (hr11_0_1 : r11.toInt ≤ 1) (hr11_1 : ((1 ≤ k1.toInt ∧ k1.toInt ≤ 4 ∧ 0 ≤ x10.toInt ∧ x10.toInt ≤ 12) → ((r11.toInt = 1 ∧ ¬ ((κ.2.2.1 14) (5 * x10.toInt + k1.toInt).toNat).toInt = 0) ∨ (r11.toInt = 0 ∧ ((κ.2.2.1 14) (5 * x10.toInt + k1.toInt).toNat).toInt = 0)))) (c12 : ¬ r11.toInt = 0) : ∀ (q7 q8 : Nat → Option Nat) (H : QT) (n : Int) (v : QV), FAMq κ.2.2.2.2 q7 H n → VALq κ.2.2.2.2 sa q7 q8 k0 v → CVq (κ.2.2.1 14) H → 1 ≤ k1.toInt → ((1 : Int32).toInt = 0 → qReach H v k1.toInt = false) ∧ (¬ (1 : Int32).toInt = 0 → qReach H v k1.toInt = true) := by
  have q1 : (1 : Int32).toInt = 1 := by decide +kernel
  have q5 : (5 : Int32).toInt = 5 := by decide +kernel
  intro q7 q8 H n v F h C h1
  have kb := h.kb9
  have A := hr1y H C (by decide) (by decide) h1
  rw [show (5 : Int32).toInt = 5 by decide] at A
  have k := h.k9
  rw [ex3] at k
  have B := hr4y H C (by omega) (by omega) h1
  rw [k] at B
  obtain ⟨w, z2, z3⟩ := hi45y q7 q8 H n v F h C h1
  obtain ⟨g1, g2, g3, g4, _, _⟩ := z2.up9 F rfl rfl
  have n5 := F.1
  rw [ex10] at g4
  have D := hr11y H C (by omega) (by omega) h1
  have W := z2.re9 (t := k1.toInt) (K := x10.toInt) F rfl (by rw [ex10])
  exact ⟨fun e => absurd e (by decide), fun _ => z3.trans (W.2 (D.2 (by omega)))⟩
-- init2@45 @45
theorem vX0_reach_9 (sa : Nat → Nat) (κ : KS) (k0 : Nat) (k1 : Int32) (r1 : Int32) (x3 : Int32) (r4 : Int32) (b7 : Nat) (x14 : Nat) (x15 : Option Nat) (ht0 : oT κ.2.2.2.2 k0 = 1) (hPV : PV sa κ.2.2.2.2) (hr1y : ∀ H : QT, CVq (κ.2.2.1 14) H → 0 ≤ (5 : Int32).toInt → (5 : Int32).toInt ≤ 12 → 1 ≤ k1.toInt → (r1.toInt = 0 → qTh H (5 : Int32).toInt k1.toInt = false) ∧ (¬ r1.toInt = 0 → qTh H (5 : Int32).toInt k1.toInt = true)) (hr1_0_0 : 0 ≤ r1.toInt) (hr1_0_1 : r1.toInt ≤ 1) (hr1_1 : ((1 ≤ k1.toInt ∧ k1.toInt ≤ 4 ∧ 0 ≤ (5 : Int32).toInt ∧ (5 : Int32).toInt ≤ 12) → ((r1.toInt = 1 ∧ ¬ ((κ.2.2.1 14) (5 * (5 : Int32).toInt + k1.toInt).toNat).toInt = 0) ∨ (r1.toInt = 0 ∧ ((κ.2.2.1 14) (5 * (5 : Int32).toInt + k1.toInt).toNat).toInt = 0)))) (c2 : r1.toInt = 0) (ex3 : oI κ.2.2.2.2 0 k0 = x3) (hr4y : ∀ H : QT, CVq (κ.2.2.1 14) H → 0 ≤ x3.toInt → x3.toInt ≤ 12 → 1 ≤ k1.toInt → (r4.toInt = 0 → qTh H x3.toInt k1.toInt = false) ∧ (¬ r4.toInt = 0 → qTh H x3.toInt k1.toInt = true)) (hr4_0_0 : 0 ≤ r4.toInt) (hr4_0_1 : r4.toInt ≤ 1) (hr4_1 : ((1 ≤ k1.toInt ∧ k1.toInt ≤ 4 ∧ 0 ≤ x3.toInt ∧ x3.toInt ≤ 12) → ((r4.toInt = 1 ∧ ¬ ((κ.2.2.1 14) (5 * x3.toInt + k1.toInt).toNat).toInt = 0) ∨ (r4.toInt = 0 ∧ ((κ.2.2.1 14) (5 * x3.toInt + k1.toInt).toNat).toInt = 0)))) (c5 : r4.toInt = 0) (ex6 : oR κ.2.2.2.2 1 k0 = (some b7)) (ex14 : oR κ.2.2.2.2 9 b7 = some x14) (hx14 : oT κ.2.2.2.2 x14 = 3) (ex15 : oR κ.2.2.2.2 6 x14 = x15) (mx15 : cto κ.2.2.2.2 x15 < oC κ.2.2.2.2 x14) : ∀ (q7 q8 : Nat → Option Nat) (H : QT) (n : Int) (v : QV), FAMq κ.2.2.2.2 q7 H n → VALq κ.2.2.2.2 sa q7 q8 k0 v → CVq (κ.2.2.1 14) H → 1 ≤ k1.toInt → ∃ w : Int, FPq q7 n w x15 ∧ qReach H v k1.toInt = (decide (k1.toInt ≤ 4) && (qAnc H w).any (fun c => qThere H (8 + c) k1.toInt)) := by
  have q5 : (5 : Int32).toInt = 5 := by decide +kernel
  intro q7 q8 H n v F h C h1
  have kb := h.kb9
  have A := hr1y H C (by decide) (by decide) h1
  rw [show (5 : Int32).toInt = 5 by decide] at A
  have k := h.k9
  rw [ex3] at k
  have B := hr4y H C (by omega) (by omega) h1
  rw [k] at B
  exact h.re1 F (A.1 (by omega)) (B.1 (by omega)) ex6 ex14 ex15
-- post2 @72
theorem vX0_reach_10 (sa : Nat → Nat) (κ : KS) (k0 : Nat) (k1 : Int32) (r1 : Int32) (x3 : Int32) (r4 : Int32) (b7 : Nat) (x14 : Nat) (x15 : Option Nat) (ht0 : oT κ.2.2.2.2 k0 = 1) (hPV : PV sa κ.2.2.2.2) (hr1y : ∀ H : QT, CVq (κ.2.2.1 14) H → 0 ≤ (5 : Int32).toInt → (5 : Int32).toInt ≤ 12 → 1 ≤ k1.toInt → (r1.toInt = 0 → qTh H (5 : Int32).toInt k1.toInt = false) ∧ (¬ r1.toInt = 0 → qTh H (5 : Int32).toInt k1.toInt = true)) (hr1_0_0 : 0 ≤ r1.toInt) (hr1_0_1 : r1.toInt ≤ 1) (hr1_1 : ((1 ≤ k1.toInt ∧ k1.toInt ≤ 4 ∧ 0 ≤ (5 : Int32).toInt ∧ (5 : Int32).toInt ≤ 12) → ((r1.toInt = 1 ∧ ¬ ((κ.2.2.1 14) (5 * (5 : Int32).toInt + k1.toInt).toNat).toInt = 0) ∨ (r1.toInt = 0 ∧ ((κ.2.2.1 14) (5 * (5 : Int32).toInt + k1.toInt).toNat).toInt = 0)))) (c2 : r1.toInt = 0) (ex3 : oI κ.2.2.2.2 0 k0 = x3) (hr4y : ∀ H : QT, CVq (κ.2.2.1 14) H → 0 ≤ x3.toInt → x3.toInt ≤ 12 → 1 ≤ k1.toInt → (r4.toInt = 0 → qTh H x3.toInt k1.toInt = false) ∧ (¬ r4.toInt = 0 → qTh H x3.toInt k1.toInt = true)) (hr4_0_0 : 0 ≤ r4.toInt) (hr4_0_1 : r4.toInt ≤ 1) (hr4_1 : ((1 ≤ k1.toInt ∧ k1.toInt ≤ 4 ∧ 0 ≤ x3.toInt ∧ x3.toInt ≤ 12) → ((r4.toInt = 1 ∧ ¬ ((κ.2.2.1 14) (5 * x3.toInt + k1.toInt).toNat).toInt = 0) ∨ (r4.toInt = 0 ∧ ((κ.2.2.1 14) (5 * x3.toInt + k1.toInt).toNat).toInt = 0)))) (c5 : r4.toInt = 0) (ex6 : oR κ.2.2.2.2 1 k0 = (some b7)) (ex14 : oR κ.2.2.2.2 9 b7 = some x14) (hx14 : oT κ.2.2.2.2 x14 = 3) (ex15 : oR κ.2.2.2.2 6 x14 = x15) (mx15 : cto κ.2.2.2.2 x15 < oC κ.2.2.2.2 x14) (hi45y : ∀ (q7 q8 : Nat → Option Nat) (H : QT) (n : Int) (v : QV), FAMq κ.2.2.2.2 q7 H n → VALq κ.2.2.2.2 sa q7 q8 k0 v → CVq (κ.2.2.1 14) H → 1 ≤ k1.toInt → ∃ w : Int, FPq q7 n w none ∧ qReach H v k1.toInt = (decide (k1.toInt ≤ 4) && (qAnc H w).any (fun c => qThere H (8 + c) k1.toInt))) : ∀ (q7 q8 : Nat → Option Nat) (H : QT) (n : Int) (v : QV), FAMq κ.2.2.2.2 q7 H n → VALq κ.2.2.2.2 sa q7 q8 k0 v → CVq (κ.2.2.1 14) H → 1 ≤ k1.toInt → ((0 : Int32).toInt = 0 → qReach H v k1.toInt = false) ∧ (¬ (0 : Int32).toInt = 0 → qReach H v k1.toInt = true) := by
  have q0 : (0 : Int32).toInt = 0 := by decide +kernel
  have q5 : (5 : Int32).toInt = 5 := by decide +kernel
  intro q7 q8 H n v F h C h1
  have kb := h.kb9
  have A := hr1y H C (by decide) (by decide) h1
  rw [show (5 : Int32).toInt = 5 by decide] at A
  have k := h.k9
  rw [ex3] at k
  have B := hr4y H C (by omega) (by omega) h1
  rw [k] at B
  obtain ⟨w, z2, z3⟩ := hi45y q7 q8 H n v F h C h1
  exact ⟨fun _ => z3.trans z2.rz9, fun e => absurd (by decide) e⟩
-- inv2@45 @45
theorem vX0_reach_11 (sa : Nat → Nat) (κ : KS) (k0 : Nat) (k1 : Int32) (r1 : Int32) (x3 : Int32) (r4 : Int32) (b7 : Nat) (x14 : Nat) (x15 : Option Nat) (b17 : Nat) (x18 : Int32) (r19 : Int32) (x21 : Option Nat) (ht0 : oT κ.2.2.2.2 k0 = 1) (hPV : PV sa κ.2.2.2.2) (hr1y : ∀ H : QT, CVq (κ.2.2.1 14) H → 0 ≤ (5 : Int32).toInt → (5 : Int32).toInt ≤ 12 → 1 ≤ k1.toInt → (r1.toInt = 0 → qTh H (5 : Int32).toInt k1.toInt = false) ∧ (¬ r1.toInt = 0 → qTh H (5 : Int32).toInt k1.toInt = true)) (hr1_0_0 : 0 ≤ r1.toInt) (hr1_0_1 : r1.toInt ≤ 1) (hr1_1 : ((1 ≤ k1.toInt ∧ k1.toInt ≤ 4 ∧ 0 ≤ (5 : Int32).toInt ∧ (5 : Int32).toInt ≤ 12) → ((r1.toInt = 1 ∧ ¬ ((κ.2.2.1 14) (5 * (5 : Int32).toInt + k1.toInt).toNat).toInt = 0) ∨ (r1.toInt = 0 ∧ ((κ.2.2.1 14) (5 * (5 : Int32).toInt + k1.toInt).toNat).toInt = 0)))) (c2 : r1.toInt = 0) (ex3 : oI κ.2.2.2.2 0 k0 = x3) (hr4y : ∀ H : QT, CVq (κ.2.2.1 14) H → 0 ≤ x3.toInt → x3.toInt ≤ 12 → 1 ≤ k1.toInt → (r4.toInt = 0 → qTh H x3.toInt k1.toInt = false) ∧ (¬ r4.toInt = 0 → qTh H x3.toInt k1.toInt = true)) (hr4_0_0 : 0 ≤ r4.toInt) (hr4_0_1 : r4.toInt ≤ 1) (hr4_1 : ((1 ≤ k1.toInt ∧ k1.toInt ≤ 4 ∧ 0 ≤ x3.toInt ∧ x3.toInt ≤ 12) → ((r4.toInt = 1 ∧ ¬ ((κ.2.2.1 14) (5 * x3.toInt + k1.toInt).toNat).toInt = 0) ∨ (r4.toInt = 0 ∧ ((κ.2.2.1 14) (5 * x3.toInt + k1.toInt).toNat).toInt = 0)))) (c5 : r4.toInt = 0) (ex6 : oR κ.2.2.2.2 1 k0 = (some b7)) (ex14 : oR κ.2.2.2.2 9 b7 = some x14) (hx14 : oT κ.2.2.2.2 x14 = 3) (ex15 : oR κ.2.2.2.2 6 x14 = x15) (mx15 : cto κ.2.2.2.2 x15 < oC κ.2.2.2.2 x14) (hi45y : ∀ (q7 q8 : Nat → Option Nat) (H : QT) (n : Int) (v : QV), FAMq κ.2.2.2.2 q7 H n → VALq κ.2.2.2.2 sa q7 q8 k0 v → CVq (κ.2.2.1 14) H → 1 ≤ k1.toInt → ∃ w : Int, FPq q7 n w (some b17) ∧ qReach H v k1.toInt = (decide (k1.toInt ≤ 4) && (qAnc H w).any (fun c => qThere H (8 + c) k1.toInt))) (ex18 : oI κ.2.2.2.2 7 b17 = x18) (hr19y : ∀ H : QT, CVq (κ.2.2.1 14) H → 0 ≤ x18.toInt → x18.toInt ≤ 12 → 1 ≤ k1.toInt → (r19.toInt = 0 → qTh H x18.toInt k1.toInt = false) ∧ (¬ r19.toInt = 0 → qTh H x18.toInt k1.toInt = true)) (hr19_0_0 : 0 ≤ r19.toInt) (hr19_0_1 : r19.toInt ≤ 1) (hr19_1 : ((1 ≤ k1.toInt ∧ k1.toInt ≤ 4 ∧ 0 ≤ x18.toInt ∧ x18.toInt ≤ 12) → ((r19.toInt = 1 ∧ ¬ ((κ.2.2.1 14) (5 * x18.toInt + k1.toInt).toNat).toInt = 0) ∨ (r19.toInt = 0 ∧ ((κ.2.2.1 14) (5 * x18.toInt + k1.toInt).toNat).toInt = 0)))) (c20 : r19.toInt = 0) (ex21 : oR κ.2.2.2.2 6 b17 = x21) (mx21 : cto κ.2.2.2.2 x21 < oC κ.2.2.2.2 b17) : ∀ (q7 q8 : Nat → Option Nat) (H : QT) (n : Int) (v : QV), FAMq κ.2.2.2.2 q7 H n → VALq κ.2.2.2.2 sa q7 q8 k0 v → CVq (κ.2.2.1 14) H → 1 ≤ k1.toInt → ∃ w : Int, FPq q7 n w x21 ∧ qReach H v k1.toInt = (decide (k1.toInt ≤ 4) && (qAnc H w).any (fun c => qThere H (8 + c) k1.toInt)) := by
  have q5 : (5 : Int32).toInt = 5 := by decide +kernel
  intro q7 q8 H n v F h C h1
  have kb := h.kb9
  have A := hr1y H C (by decide) (by decide) h1
  rw [show (5 : Int32).toInt = 5 by decide] at A
  have k := h.k9
  rw [ex3] at k
  have B := hr4y H C (by omega) (by omega) h1
  rw [k] at B
  obtain ⟨w, z2, z3⟩ := hi45y q7 q8 H n v F h C h1
  obtain ⟨g1, g2, g3, g4, _, _⟩ := z2.up9 F rfl ex21
  have n5 := F.1
  rw [ex18] at g4
  have D := hr19y H C (by omega) (by omega) h1
  have W := z2.re9 (t := k1.toInt) (K := x18.toInt) F ex21 (by rw [ex18])
  obtain ⟨w1, w2⟩ := W.1 (D.1 (by omega))
  exact ⟨_, w1, z3.trans w2⟩
-- meas@45 @45
theorem vX0_reach_12 (κ : KS) (k0 : Nat) (k1 : Int32) (x3 : Int32) (r4 : Int32) (x14 : Nat) (x15 : Option Nat) (b17 : Nat) (x18 : Int32) (r19 : Int32) (x21 : Option Nat) (ex3 : oI κ.2.2.2.2 0 k0 = x3) (hr4_0_0 : 0 ≤ r4.toInt) (hr4_0_1 : r4.toInt ≤ 1) (hr4_1 : ((1 ≤ k1.toInt ∧ k1.toInt ≤ 4 ∧ 0 ≤ x3.toInt ∧ x3.toInt ≤ 12) → ((r4.toInt = 1 ∧ ¬ ((κ.2.2.1 14) (5 * x3.toInt + k1.toInt).toNat).toInt = 0) ∨ (r4.toInt = 0 ∧ ((κ.2.2.1 14) (5 * x3.toInt + k1.toInt).toNat).toInt = 0)))) (c5 : r4.toInt = 0) (mx15 : cto κ.2.2.2.2 x15 < oC κ.2.2.2.2 x14) (ex18 : oI κ.2.2.2.2 7 b17 = x18) (hr19_0_0 : 0 ≤ r19.toInt) (hr19_0_1 : r19.toInt ≤ 1) (hr19_1 : ((1 ≤ k1.toInt ∧ k1.toInt ≤ 4 ∧ 0 ≤ x18.toInt ∧ x18.toInt ≤ 12) → ((r19.toInt = 1 ∧ ¬ ((κ.2.2.1 14) (5 * x18.toInt + k1.toInt).toNat).toInt = 0) ∨ (r19.toInt = 0 ∧ ((κ.2.2.1 14) (5 * x18.toInt + k1.toInt).toNat).toInt = 0)))) (c20 : r19.toInt = 0) (mx21 : cto κ.2.2.2.2 x21 < oC κ.2.2.2.2 b17) : (cto κ.2.2.2.2 x21) < (cto κ.2.2.2.2 (some b17)) := by
  show cto _ _ < oC _ _
  assumption
-- post2 @62
theorem vX0_reach_13 (sa : Nat → Nat) (κ : KS) (k0 : Nat) (k1 : Int32) (r1 : Int32) (x3 : Int32) (r4 : Int32) (b7 : Nat) (x14 : Nat) (x15 : Option Nat) (b17 : Nat) (x18 : Int32) (r19 : Int32) (ht0 : oT κ.2.2.2.2 k0 = 1) (hPV : PV sa κ.2.2.2.2) (hr1y : ∀ H : QT, CVq (κ.2.2.1 14) H → 0 ≤ (5 : Int32).toInt → (5 : Int32).toInt ≤ 12 → 1 ≤ k1.toInt → (r1.toInt = 0 → qTh H (5 : Int32).toInt k1.toInt = false) ∧ (¬ r1.toInt = 0 → qTh H (5 : Int32).toInt k1.toInt = true)) (hr1_0_0 : 0 ≤ r1.toInt) (hr1_0_1 : r1.toInt ≤ 1) (hr1_1 : ((1 ≤ k1.toInt ∧ k1.toInt ≤ 4 ∧ 0 ≤ (5 : Int32).toInt ∧ (5 : Int32).toInt ≤ 12) → ((r1.toInt = 1 ∧ ¬ ((κ.2.2.1 14) (5 * (5 : Int32).toInt + k1.toInt).toNat).toInt = 0) ∨ (r1.toInt = 0 ∧ ((κ.2.2.1 14) (5 * (5 : Int32).toInt + k1.toInt).toNat).toInt = 0)))) (c2 : r1.toInt = 0) (ex3 : oI κ.2.2.2.2 0 k0 = x3) (hr4y : ∀ H : QT, CVq (κ.2.2.1 14) H → 0 ≤ x3.toInt → x3.toInt ≤ 12 → 1 ≤ k1.toInt → (r4.toInt = 0 → qTh H x3.toInt k1.toInt = false) ∧ (¬ r4.toInt = 0 → qTh H x3.toInt k1.toInt = true)) (hr4_0_0 : 0 ≤ r4.toInt) (hr4_0_1 : r4.toInt ≤ 1) (hr4_1 : ((1 ≤ k1.toInt ∧ k1.toInt ≤ 4 ∧ 0 ≤ x3.toInt ∧ x3.toInt ≤ 12) → ((r4.toInt = 1 ∧ ¬ ((κ.2.2.1 14) (5 * x3.toInt + k1.toInt).toNat).toInt = 0) ∨ (r4.toInt = 0 ∧ ((κ.2.2.1 14) (5 * x3.toInt + k1.toInt).toNat).toInt = 0)))) (c5 : r4.toInt = 0) (ex6 : oR κ.2.2.2.2 1 k0 = (some b7)) (ex14 : oR κ.2.2.2.2 9 b7 = some x14) (hx14 : oT κ.2.2.2.2 x14 = 3) (ex15 : oR κ.2.2.2.2 6 x14 = x15) (mx15 : cto κ.2.2.2.2 x15 < oC κ.2.2.2.2 x14) (hi45y : ∀ (q7 q8 : Nat → Option Nat) (H : QT) (n : Int) (v : QV), FAMq κ.2.2.2.2 q7 H n → VALq κ.2.2.2.2 sa q7 q8 k0 v → CVq (κ.2.2.1 14) H → 1 ≤ k1.toInt → ∃ w : Int, FPq q7 n w (some b17) ∧ qReach H v k1.toInt = (decide (k1.toInt ≤ 4) && (qAnc H w).any (fun c => qThere H (8 + c) k1.toInt))) (ex18 : oI κ.2.2.2.2 7 b17 = x18) (hr19y : ∀ H : QT, CVq (κ.2.2.1 14) H → 0 ≤ x18.toInt → x18.toInt ≤ 12 → 1 ≤ k1.toInt → (r19.toInt = 0 → qTh H x18.toInt k1.toInt = false) ∧ (¬ r19.toInt = 0 → qTh H x18.toInt k1.toInt = true)) (hr19_0_0 : 0 ≤ r19.toInt) (hr19_0_1 : r19.toInt ≤ 1) (hr19_1 : ((1 ≤ k1.toInt ∧ k1.toInt ≤ 4 ∧ 0 ≤ x18.toInt ∧ x18.toInt ≤ 12) → ((r19.toInt = 1 ∧ ¬ ((κ.2.2.1 14) (5 * x18.toInt + k1.toInt).toNat).toInt = 0) ∨ (r19.toInt = 0 ∧ ((κ.2.2.1 14) (5 * x18.toInt + k1.toInt).toNat).toInt = 0)))) (c20 : ¬ r19.toInt = 0) : ∀ (q7 q8 : Nat → Option Nat) (H : QT) (n : Int) (v : QV), FAMq κ.2.2.2.2 q7 H n → VALq κ.2.2.2.2 sa q7 q8 k0 v → CVq (κ.2.2.1 14) H → 1 ≤ k1.toInt → ((1 : Int32).toInt = 0 → qReach H v k1.toInt = false) ∧ (¬ (1 : Int32).toInt = 0 → qReach H v k1.toInt = true) := by
  have q1 : (1 : Int32).toInt = 1 := by decide +kernel
  have q5 : (5 : Int32).toInt = 5 := by decide +kernel
  intro q7 q8 H n v F h C h1
  have kb := h.kb9
  have A := hr1y H C (by decide) (by decide) h1
  rw [show (5 : Int32).toInt = 5 by decide] at A
  have k := h.k9
  rw [ex3] at k
  have B := hr4y H C (by omega) (by omega) h1
  rw [k] at B
  obtain ⟨w, z2, z3⟩ := hi45y q7 q8 H n v F h C h1
  obtain ⟨g1, g2, g3, g4, _, _⟩ := z2.up9 F rfl rfl
  have n5 := F.1
  rw [ex18] at g4
  have D := hr19y H C (by omega) (by omega) h1
  have W := z2.re9 (t := k1.toInt) (K := x18.toInt) F rfl (by rw [ex18])
  exact ⟨fun e => absurd e (by decide), fun _ => z3.trans (W.2 (D.2 (by omega)))⟩
-- post2 @22
theorem vX0_reach_14 (sa : Nat → Nat) (κ : KS) (k0 : Nat) (k1 : Int32) (r1 : Int32) (x3 : Int32) (r4 : Int32) (ht0 : oT κ.2.2.2.2 k0 = 1) (hPV : PV sa κ.2.2.2.2) (hr1y : ∀ H : QT, CVq (κ.2.2.1 14) H → 0 ≤ (5 : Int32).toInt → (5 : Int32).toInt ≤ 12 → 1 ≤ k1.toInt → (r1.toInt = 0 → qTh H (5 : Int32).toInt k1.toInt = false) ∧ (¬ r1.toInt = 0 → qTh H (5 : Int32).toInt k1.toInt = true)) (hr1_0_0 : 0 ≤ r1.toInt) (hr1_0_1 : r1.toInt ≤ 1) (hr1_1 : ((1 ≤ k1.toInt ∧ k1.toInt ≤ 4 ∧ 0 ≤ (5 : Int32).toInt ∧ (5 : Int32).toInt ≤ 12) → ((r1.toInt = 1 ∧ ¬ ((κ.2.2.1 14) (5 * (5 : Int32).toInt + k1.toInt).toNat).toInt = 0) ∨ (r1.toInt = 0 ∧ ((κ.2.2.1 14) (5 * (5 : Int32).toInt + k1.toInt).toNat).toInt = 0)))) (c2 : r1.toInt = 0) (ex3 : oI κ.2.2.2.2 0 k0 = x3) (hr4y : ∀ H : QT, CVq (κ.2.2.1 14) H → 0 ≤ x3.toInt → x3.toInt ≤ 12 → 1 ≤ k1.toInt → (r4.toInt = 0 → qTh H x3.toInt k1.toInt = false) ∧ (¬ r4.toInt = 0 → qTh H x3.toInt k1.toInt = true)) (hr4_0_0 : 0 ≤ r4.toInt) (hr4_0_1 : r4.toInt ≤ 1) (hr4_1 : ((1 ≤ k1.toInt ∧ k1.toInt ≤ 4 ∧ 0 ≤ x3.toInt ∧ x3.toInt ≤ 12) → ((r4.toInt = 1 ∧ ¬ ((κ.2.2.1 14) (5 * x3.toInt + k1.toInt).toNat).toInt = 0) ∨ (r4.toInt = 0 ∧ ((κ.2.2.1 14) (5 * x3.toInt + k1.toInt).toNat).toInt = 0)))) (c5 : ¬ r4.toInt = 0) : ∀ (q7 q8 : Nat → Option Nat) (H : QT) (n : Int) (v : QV), FAMq κ.2.2.2.2 q7 H n → VALq κ.2.2.2.2 sa q7 q8 k0 v → CVq (κ.2.2.1 14) H → 1 ≤ k1.toInt → ((1 : Int32).toInt = 0 → qReach H v k1.toInt = false) ∧ (¬ (1 : Int32).toInt = 0 → qReach H v k1.toInt = true) := by
  have q1 : (1 : Int32).toInt = 1 := by decide +kernel
  have q5 : (5 : Int32).toInt = 5 := by decide +kernel
  intro q7 q8 H n v F h C h1
  have kb := h.kb9
  have A := hr1y H C (by decide) (by decide) h1
  rw [show (5 : Int32).toInt = 5 by decide] at A
  have k := h.k9
  rw [ex3] at k
  have B := hr4y H C (by omega) (by omega) h1
  rw [k] at B
  exact ⟨fun e => absurd e (by decide), fun _ => h.rek F C h1 (B.2 (by omega))⟩
set_option maxHeartbeats 4000000 in
set_option maxRecDepth 100000 in
theorem NX0_reach (l : Launch) (D : va_G) (cy : Nat → ClassId) (ad : Nat → Nat) (A : Nat → Prop) (sz0 : Nat) (sa : Nat → Nat)  (κ : KS) (sz sl : Nat) (hAF : ∀ q, A q → Fr sz0 q) (hAn : ∀ q : Nat, sz ≤ q → A q) (k0 : Nat) (k1 : Int32) (ht0 : oT κ.2.2.2.2 k0 = 1) (hPV : PV sa κ.2.2.2.2) : Met l yX0_reach (Cond.code yX0_reach cX0_reach 4 (some .boolean) :: GWc) ({ frames := 1, cells := 0, slots := 0, locals := 23 }) (PcC D cy ad A sz0 sa [.ref (ad 4), .ref k0, .int k1] κ sz sl) (va_Qi (fun (r : Int32) (u : Unit) => ((0 ≤ r.toInt ∧ r.toInt ≤ 1)) ∧ (∀ (q7 q8 : Nat → Option Nat) (H : QT) (n : Int) (v : QV), FAMq κ.2.2.2.2 q7 H n → VALq κ.2.2.2.2 sa q7 q8 k0 v → CVq (κ.2.2.1 14) H → 1 ≤ k1.toInt → (r.toInt = 0 → qReach H v k1.toInt = false) ∧ (¬ r.toInt = 0 → qReach H v k1.toInt = true))) (fun (u : Unit) (t : State) => Bx D cy ad A sz sl κ (0) (0) t) A) (0) (0) A := by
  refine CM_of (loc0 := [(0, .ref (ad 4)), (1, .ref k0), (2, .int k1)]) (own := RX0) (nm := "reach") (by decide) rfl rfl rfl (Nat.le_of_ble_eq_true rfl) hAF hAn ?_
  intro p e s m below meth c ls hsz hsl C hP hS hl
  refine lv_aload_n C.x C.b dX0_reach_0 rfl (lv_at hl 0 rfl) ?_
  refine lv_iconst (v := 5) C.x C.b dX0_reach_1 (by decide +kernel) ?_
  refine lv_iload_n C.x C.b dX0_reach_2 rfl (lv_at hl 2 rfl) ?_
  refine c_callVi (n := 2) (As := [.int 5, .int k1]) (rest := []) C hP hS hl.1 (NX0_isThere l D cy ad A sz0 sa κ s.heap.size (SLT s.heap) C.f (fun q h => C.a q (Nat.le_trans hS.1 h)) (5 : Int32) k1 hPV) ⟨cw_31, cw_35, by decide +kernel⟩ ⟨cw_32, cw_33, cw_34⟩ rfl (hP.recvS (k := 4) (ci := 2) C.K rfl rfl) rfl rfl (lv_room (Nat.le_of_ble_eq_true rfl)) ⟨Nat.le_of_ble_eq_true rfl, Nat.le_of_ble_eq_true rfl⟩ ⟨(Nat.le_of_ble_eq_true rfl), (Nat.le_of_ble_eq_true rfl)⟩ dX0_reach_3 (fun r1 u H locs hr1 hP hS => ?_)
  obtain ⟨hr1, hr1y⟩ := hr1
  have hr1y : ∀ H : QT, CVq (κ.2.2.1 14) H → 0 ≤ (5 : Int32).toInt → (5 : Int32).toInt ≤ 12 → 1 ≤ k1.toInt → (r1.toInt = 0 → qTh H (5 : Int32).toInt k1.toInt = false) ∧ (¬ r1.toInt = 0 → qTh H (5 : Int32).toInt k1.toInt = true) := hr1y
  have hr1 : (0 ≤ r1.toInt ∧ r1.toInt ≤ 1) ∧ (((1 ≤ k1.toInt ∧ k1.toInt ≤ 4 ∧ 0 ≤ (5 : Int32).toInt ∧ (5 : Int32).toInt ≤ 12) → ((r1.toInt = 1 ∧ ¬ ((κ.2.2.1 14) (5 * (5 : Int32).toInt + k1.toInt).toNat).toInt = 0) ∨ (r1.toInt = 0 ∧ ((κ.2.2.1 14) (5 * (5 : Int32).toInt + k1.toInt).toNat).toInt = 0)))) := hr1
  obtain ⟨hr1_0, hr1_1⟩ := hr1
  obtain ⟨hr1_0_0, hr1_0_1⟩ := hr1_0
  refine lv_if_ne (tgt := 21) C.x C.b dX0_reach_6 (by decide) (fun c2 => ?_) (fun c2 => ?_)
  · have c2 : ¬ r1.toInt = 0 := by have h := z_ne c2; rw [show (0 : Int32).toInt = 0 from by decide +kernel] at h; exact h
    refine lv_iconst (v := 1) C.x C.b dX0_reach_21 (by decide +kernel) ?_
    exact c_retz (ty := .boolean) (hv := rfl) C hsz hsl () ⟨(vX0_reach_1  ), (vX0_reach_2 sa κ k0 k1 r1 ht0 hPV hr1y hr1_0_0 hr1_0_1 hr1_1 c2)⟩ hP hS ⟨(Nat.le_of_ble_eq_true rfl), (Nat.le_of_ble_eq_true rfl)⟩ ⟨(Nat.le_of_ble_eq_true rfl), (Nat.le_of_ble_eq_true rfl)⟩ dX0_reach_22
  · have c2 : r1.toInt = 0 := by have h := z_eq c2; rw [show (0 : Int32).toInt = 0 from by decide +kernel] at h; exact h
    refine lv_aload_n C.x C.b dX0_reach_9 rfl (lv_at hl 0 rfl) ?_
    refine lv_aload_n C.x C.b dX0_reach_10 rfl (lv_at hl 1 rfl) ?_
    obtain ⟨x3, ex3⟩ : ∃ z, oI κ.2.2.2.2 0 k0 = z := ⟨_, rfl⟩
    refine pg_X10_0 (v := x3) C hP (t20 (a := k0) (t := 1) ht0) ex3 cw_55 dX0_reach_11 ?_
    refine lv_iload_n C.x C.b dX0_reach_14 rfl (lv_at hl 2 rfl) ?_
    refine c_callVi (n := 2) (As := [.int x3, .int k1]) (rest := []) C hP hS hl.1 (NX0_isThere l D cy ad A sz0 sa κ H.size (SLT H) C.f (fun q h => C.a q (Nat.le_trans hS.1 h)) x3 k1 hPV) ⟨cw_31, cw_35, by decide +kernel⟩ ⟨cw_32, cw_33, cw_34⟩ rfl (hP.recvS (k := 4) (ci := 2) C.K rfl rfl) rfl rfl (lv_room (Nat.le_of_ble_eq_true rfl)) ⟨Nat.le_of_ble_eq_true rfl, Nat.le_of_ble_eq_true rfl⟩ ⟨(Nat.le_of_ble_eq_true rfl), (Nat.le_of_ble_eq_true rfl)⟩ dX0_reach_15 (fun r4 u H locs hr4 hP hS => ?_)
    obtain ⟨hr4, hr4y⟩ := hr4
    have hr4y : ∀ H : QT, CVq (κ.2.2.1 14) H → 0 ≤ x3.toInt → x3.toInt ≤ 12 → 1 ≤ k1.toInt → (r4.toInt = 0 → qTh H x3.toInt k1.toInt = false) ∧ (¬ r4.toInt = 0 → qTh H x3.toInt k1.toInt = true) := hr4y
    have hr4 : (0 ≤ r4.toInt ∧ r4.toInt ≤ 1) ∧ (((1 ≤ k1.toInt ∧ k1.toInt ≤ 4 ∧ 0 ≤ x3.toInt ∧ x3.toInt ≤ 12) → ((r4.toInt = 1 ∧ ¬ ((κ.2.2.1 14) (5 * x3.toInt + k1.toInt).toNat).toInt = 0) ∨ (r4.toInt = 0 ∧ ((κ.2.2.1 14) (5 * x3.toInt + k1.toInt).toNat).toInt = 0)))) := hr4
    obtain ⟨hr4_0, hr4_1⟩ := hr4
    obtain ⟨hr4_0_0, hr4_0_1⟩ := hr4_0
    refine lv_if_eq (tgt := 23) C.x C.b dX0_reach_18 (by decide) (fun c5 => ?_) (fun c5 => ?_)
    · have c5 : r4.toInt = 0 := by have h := z_eq c5; rw [show (0 : Int32).toInt = 0 from by decide +kernel] at h; exact h
      refine lv_aload_n C.x C.b dX0_reach_23 rfl (lv_at hl 1 rfl) ?_
      obtain ⟨x6, ex6⟩ : ∃ z, oR κ.2.2.2.2 1 k0 = z := ⟨_, rfl⟩
      refine pg_X10_4 (v := x6) C hP (t20 (a := k0) (t := 1) ht0) ex6 cw_56 dX0_reach_24 ?_
      have tx6 : NT κ.2.2.2.2 6 x6 := by rw [← ex6]; exact (hPV.t1 ht0).2.1
      cases x6 with
      | none =>
        refine lv_ifnonnullN C.x C.b dX0_reach_27 ?_
        refine lv_null C.x C.b dX0_reach_30 ?_
        refine lv_goto (tgt := 44) C.x C.b dX0_reach_31 (by decide) ?_
        refine lv_astore_nN (lv' := [(3, .null), (0, .ref (ad 4)), (1, .ref k0), (2, .int k1)]) C.x C.b dX0_reach_44 rfl hl (by decide) rfl (fun ls hl => ?_)
        have lp45 : ∀ (n : Nat) (y8 : Option Nat) (H : Heap) (locs : List Loc) (ls : Array Slot), (cto κ.2.2.2.2 y8) < n → (NT κ.2.2.2.2 3 y8) → ((True) ∧ (∀ (q7 q8 : Nat → Option Nat) (H : QT) (n : Int) (v : QV), FAMq κ.2.2.2.2 q7 H n → VALq κ.2.2.2.2 sa q7 q8 k0 v → CVq (κ.2.2.1 14) H → 1 ≤ k1.toInt → ∃ w : Int, FPq q7 n w y8 ∧ qReach H v k1.toInt = (decide (k1.toInt ≤ 4) && (qAnc H w).any (fun c => qThere H (8 + c) k1.toInt)))) → CH D cy ad A κ H → va_S A s.heap H locs → lv_has ls 4 [(3, va_rf y8), (0, .ref (ad 4)), (1, .ref k0), (2, .int k1)] → W p l e (headSpec (Cond.code yX0_reach cX0_reach 4 (some .boolean) :: GWc) ({ frames := 1, cells := 0, slots := 0, locals := 23 })).room s m #[.ref (ad 4), .ref k0, .int k1] below meth c H locs (0 + 0 + 0) (0 + 0 + 0) (MQ below (va_Qi (fun (r : Int32) (u : Unit) => ((0 ≤ r.toInt ∧ r.toInt ≤ 1)) ∧ (∀ (q7 q8 : Nat → Option Nat) (H : QT) (n : Int) (v : QV), FAMq κ.2.2.2.2 q7 H n → VALq κ.2.2.2.2 sa q7 q8 k0 v → CVq (κ.2.2.1 14) H → 1 ≤ k1.toInt → (r.toInt = 0 → qReach H v k1.toInt = false) ∧ (¬ r.toInt = 0 → qReach H v k1.toInt = true))) (fun (u : Unit) (t : State) => Bx D cy ad A sz sl κ (0) (0) t) A) #[.ref (ad 4), .ref k0, .int k1] s (0) (0) A) (F0 m 45 ls []) := by
          intro n
          induction n with
          | zero => intro y8 H locs ls hn; exact absurd hn (Nat.not_lt_zero _)
          | succ n45 ih45 =>
            intro y8 H locs ls hn45 hf45_0 hi45 hP hS hl
            obtain ⟨hi45, hi45y⟩ := hi45
            refine lq_aload_n C.x C.b dX0_reach_45 rfl (lv_at hl 0 rfl) ?_
            cases y8 with
            | none =>
              refine lv_ifnullN (tgt := 71) C.x C.b dX0_reach_46 (by decide) ?_
              refine lv_iconst (v := 0) C.x C.b dX0_reach_71 (by decide +kernel) ?_
              exact c_retz (ty := .boolean) (hv := rfl) C hsz hsl () ⟨(vX0_reach_4  ), (vX0_reach_5 sa κ k0 k1 r1 x3 r4 ht0 hPV hr1y hr1_0_0 hr1_0_1 hr1_1 c2 ex3 hr4y hr4_0_0 hr4_0_1 hr4_1 c5 ex6 hi45y)⟩ hP hS ⟨(Nat.le_of_ble_eq_true rfl), (Nat.le_of_ble_eq_true rfl)⟩ ⟨(Nat.le_of_ble_eq_true rfl), (Nat.le_of_ble_eq_true rfl)⟩ dX0_reach_72
            | some b9 =>
              have hb9 : oT κ.2.2.2.2 b9 = 3 := hf45_0 b9 rfl
              refine lv_ifnull C.x C.b dX0_reach_46 ?_
              refine lv_aload_n C.x C.b dX0_reach_49 rfl (lv_at hl 1 rfl) ?_
              refine lv_aload_n C.x C.b dX0_reach_50 rfl (lv_at hl 0 rfl) ?_
              obtain ⟨x10, ex10⟩ : ∃ z, oI κ.2.2.2.2 7 b9 = z := ⟨_, rfl⟩
              refine pg_X1_1 (v := x10) C hP (t20 (a := b9) (t := 3) hb9) ex10 cw_59 dX0_reach_51 ?_
              refine lv_iload_n C.x C.b dX0_reach_54 rfl (lv_at hl 3 rfl) ?_
              refine c_callVi (n := 2) (As := [.int x10, .int k1]) (rest := []) C hP hS hl.1 (NX0_isThere l D cy ad A sz0 sa κ H.size (SLT H) C.f (fun q h => C.a q (Nat.le_trans hS.1 h)) x10 k1 hPV) ⟨cw_31, cw_35, by decide +kernel⟩ ⟨cw_32, cw_33, cw_34⟩ rfl (hP.recvS (k := 4) (ci := 2) C.K rfl rfl) rfl rfl (lv_room (Nat.le_of_ble_eq_true rfl)) ⟨Nat.le_of_ble_eq_true rfl, Nat.le_of_ble_eq_true rfl⟩ ⟨(Nat.le_of_ble_eq_true rfl), (Nat.le_of_ble_eq_true rfl)⟩ dX0_reach_55 (fun r11 u H locs hr11 hP hS => ?_)
              obtain ⟨hr11, hr11y⟩ := hr11
              have hr11y : ∀ H : QT, CVq (κ.2.2.1 14) H → 0 ≤ x10.toInt → x10.toInt ≤ 12 → 1 ≤ k1.toInt → (r11.toInt = 0 → qTh H x10.toInt k1.toInt = false) ∧ (¬ r11.toInt = 0 → qTh H x10.toInt k1.toInt = true) := hr11y
              have hr11 : (0 ≤ r11.toInt ∧ r11.toInt ≤ 1) ∧ (((1 ≤ k1.toInt ∧ k1.toInt ≤ 4 ∧ 0 ≤ x10.toInt ∧ x10.toInt ≤ 12) → ((r11.toInt = 1 ∧ ¬ ((κ.2.2.1 14) (5 * x10.toInt + k1.toInt).toNat).toInt = 0) ∨ (r11.toInt = 0 ∧ ((κ.2.2.1 14) (5 * x10.toInt + k1.toInt).toNat).toInt = 0)))) := hr11
              obtain ⟨hr11_0, hr11_1⟩ := hr11
              obtain ⟨hr11_0_0, hr11_0_1⟩ := hr11_0
              refine lv_if_eq (tgt := 63) C.x C.b dX0_reach_58 (by decide) (fun c12 => ?_) (fun c12 => ?_)
              · have c12 : r11.toInt = 0 := by have h := z_eq c12; rw [show (0 : Int32).toInt = 0 from by decide +kernel] at h; exact h
                refine lv_aload_n C.x C.b dX0_reach_63 rfl (lv_at hl 0 rfl) ?_
                obtain ⟨x13, ex13⟩ : ∃ z, oR κ.2.2.2.2 6 b9 = z := ⟨_, rfl⟩
                refine pg_X1_2 (v := x13) C hP (t20 (a := b9) (t := 3) hb9) ex13 cw_58 dX0_reach_64 ?_
                have tx13 : NT κ.2.2.2.2 3 x13 := by rw [← ex13]; exact (hPV.t3 hb9).1.1
                have mx13 : cto κ.2.2.2.2 x13 < oC κ.2.2.2.2 b9 := by rw [← ex13]; exact (hPV.t3 hb9).1.2
                refine lq_astore_n (lv' := [(3, va_rf x13), (0, .ref (ad 4)), (1, .ref k0), (2, .int k1)]) C.x C.b dX0_reach_67 rfl hl (by decide) (by cases x13 <;> rfl) (fun ls hl => ?_)
                refine lv_goto (tgt := 45) C.x C.b dX0_reach_68 (by decide) ?_
                refine W.widen (k := 0 + 0 + 0) (n := 0 + 0 + 0) (Nat.le_of_ble_eq_true rfl) (Nat.le_of_ble_eq_true rfl) ?_
                exact ih45 x13 _ _ _ (Nat.lt_of_lt_of_le (vX0_reach_7 κ k0 k1 x3 r4 b9 x10 r11 x13 ex3 hr4_0_0 hr4_0_1 hr4_1 c5 ex10 hr11_0_0 hr11_0_1 hr11_1 c12 mx13) (Nat.le_of_lt_succ hn45)) tx13 ⟨trivial, (vX0_reach_6 sa κ k0 k1 r1 x3 r4 b9 x10 r11 x13 ht0 hPV hr1y hr1_0_0 hr1_0_1 hr1_1 c2 ex3 hr4y hr4_0_0 hr4_0_1 hr4_1 c5 ex6 hi45y ex10 hr11y hr11_0_0 hr11_0_1 hr11_1 c12 ex13 mx13)⟩ hP hS (lv_sub hl [0, 1, 2, 3] rfl)
              · have c12 : ¬ r11.toInt = 0 := by have h := z_ne c12; rw [show (0 : Int32).toInt = 0 from by decide +kernel] at h; exact h
                refine lv_iconst (v := 1) C.x C.b dX0_reach_61 (by decide +kernel) ?_
                exact c_retz (ty := .boolean) (hv := rfl) C hsz hsl () ⟨(vX0_reach_1  ), (vX0_reach_8 sa κ k0 k1 r1 x3 r4 b9 x10 r11 ht0 hPV hr1y hr1_0_0 hr1_0_1 hr1_1 c2 ex3 hr4y hr4_0_0 hr4_0_1 hr4_1 c5 ex6 hi45y ex10 hr11y hr11_0_0 hr11_0_1 hr11_1 c12)⟩ hP hS ⟨(Nat.le_of_ble_eq_true rfl), (Nat.le_of_ble_eq_true rfl)⟩ ⟨(Nat.le_of_ble_eq_true rfl), (Nat.le_of_ble_eq_true rfl)⟩ dX0_reach_62
        refine W.widen (k := 0 + 0 + 0) (n := 0 + 0 + 0) (Nat.le_of_ble_eq_true rfl) (Nat.le_of_ble_eq_true rfl) ?_
        exact lp45 ((cto κ.2.2.2.2 none) + 1) none _ _ _ (Nat.lt_succ_self _) nt_n ⟨trivial, (vX0_reach_3 sa κ k0 k1 r1 x3 r4 ht0 hPV hr1y hr1_0_0 hr1_0_1 hr1_1 c2 ex3 hr4y hr4_0_0 hr4_0_1 hr4_1 c5 ex6)⟩ hP hS (lv_sub hl [0, 1, 2, 3] rfl)
      | some b7 =>
        have hb7 : oT κ.2.2.2.2 b7 = 6 := tx6 b7 rfl
        refine lv_ifnonnull (tgt := 34) C.x C.b dX0_reach_27 (by decide) ?_
        refine lv_aload_n C.x C.b dX0_reach_34 rfl (lv_at hl 1 rfl) ?_
        refine pg_X10_4 (v := (some b7)) C hP (t20 (a := k0) (t := 1) ht0) ex6 cw_56 dX0_reach_35 ?_
        obtain ⟨x14, ex14, hx14⟩ := (hPV.t6 hb7).1
        refine pg_X9_1 (v := some x14) C hP (t20 (a := b7) (t := 6) hb7) ex14 cw_57 dX0_reach_38 ?_
        obtain ⟨x15, ex15⟩ : ∃ z, oR κ.2.2.2.2 6 x14 = z := ⟨_, rfl⟩
        refine pg_X1_2 (v := x15) C hP (t20 (a := x14) (t := 3) hx14) ex15 cw_58 dX0_reach_41 ?_
        have tx15 : NT κ.2.2.2.2 3 x15 := by rw [← ex15]; exact (hPV.t3 hx14).1.1
        have mx15 : cto κ.2.2.2.2 x15 < oC κ.2.2.2.2 x14 := by rw [← ex15]; exact (hPV.t3 hx14).1.2
        refine lq_astore_n (lv' := [(3, va_rf x15), (0, .ref (ad 4)), (1, .ref k0), (2, .int k1)]) C.x C.b dX0_reach_44 rfl hl (by decide) (by cases x15 <;> rfl) (fun ls hl => ?_)
        have lp45 : ∀ (n : Nat) (y16 : Option Nat) (H : Heap) (locs : List Loc) (ls : Array Slot), (cto κ.2.2.2.2 y16) < n → (NT κ.2.2.2.2 3 y16) → ((True) ∧ (∀ (q7 q8 : Nat → Option Nat) (H : QT) (n : Int) (v : QV), FAMq κ.2.2.2.2 q7 H n → VALq κ.2.2.2.2 sa q7 q8 k0 v → CVq (κ.2.2.1 14) H → 1 ≤ k1.toInt → ∃ w : Int, FPq q7 n w y16 ∧ qReach H v k1.toInt = (decide (k1.toInt ≤ 4) && (qAnc H w).any (fun c => qThere H (8 + c) k1.toInt)))) → CH D cy ad A κ H → va_S A s.heap H locs → lv_has ls 4 [(3, va_rf y16), (0, .ref (ad 4)), (1, .ref k0), (2, .int k1)] → W p l e (headSpec (Cond.code yX0_reach cX0_reach 4 (some .boolean) :: GWc) ({ frames := 1, cells := 0, slots := 0, locals := 23 })).room s m #[.ref (ad 4), .ref k0, .int k1] below meth c H locs (0 + 0 + 0) (0 + 0 + 0) (MQ below (va_Qi (fun (r : Int32) (u : Unit) => ((0 ≤ r.toInt ∧ r.toInt ≤ 1)) ∧ (∀ (q7 q8 : Nat → Option Nat) (H : QT) (n : Int) (v : QV), FAMq κ.2.2.2.2 q7 H n → VALq κ.2.2.2.2 sa q7 q8 k0 v → CVq (κ.2.2.1 14) H → 1 ≤ k1.toInt → (r.toInt = 0 → qReach H v k1.toInt = false) ∧ (¬ r.toInt = 0 → qReach H v k1.toInt = true))) (fun (u : Unit) (t : State) => Bx D cy ad A sz sl κ (0) (0) t) A) #[.ref (ad 4), .ref k0, .int k1] s (0) (0) A) (F0 m 45 ls []) := by
          intro n
          induction n with
          | zero => intro y16 H locs ls hn; exact absurd hn (Nat.not_lt_zero _)
          | succ n45 ih45 =>
            intro y16 H locs ls hn45 hf45_0 hi45 hP hS hl
            obtain ⟨hi45, hi45y⟩ := hi45
            refine lq_aload_n C.x C.b dX0_reach_45 rfl (lv_at hl 0 rfl) ?_
            cases y16 with
            | none =>
              refine lv_ifnullN (tgt := 71) C.x C.b dX0_reach_46 (by decide) ?_
              refine lv_iconst (v := 0) C.x C.b dX0_reach_71 (by decide +kernel) ?_
              exact c_retz (ty := .boolean) (hv := rfl) C hsz hsl () ⟨(vX0_reach_4  ), (vX0_reach_10 sa κ k0 k1 r1 x3 r4 b7 x14 x15 ht0 hPV hr1y hr1_0_0 hr1_0_1 hr1_1 c2 ex3 hr4y hr4_0_0 hr4_0_1 hr4_1 c5 ex6 ex14 hx14 ex15 mx15 hi45y)⟩ hP hS ⟨(Nat.le_of_ble_eq_true rfl), (Nat.le_of_ble_eq_true rfl)⟩ ⟨(Nat.le_of_ble_eq_true rfl), (Nat.le_of_ble_eq_true rfl)⟩ dX0_reach_72
            | some b17 =>
              have hb17 : oT κ.2.2.2.2 b17 = 3 := hf45_0 b17 rfl
              refine lv_ifnull C.x C.b dX0_reach_46 ?_
              refine lv_aload_n C.x C.b dX0_reach_49 rfl (lv_at hl 1 rfl) ?_
              refine lv_aload_n C.x C.b dX0_reach_50 rfl (lv_at hl 0 rfl) ?_
              obtain ⟨x18, ex18⟩ : ∃ z, oI κ.2.2.2.2 7 b17 = z := ⟨_, rfl⟩
              refine pg_X1_1 (v := x18) C hP (t20 (a := b17) (t := 3) hb17) ex18 cw_59 dX0_reach_51 ?_
              refine lv_iload_n C.x C.b dX0_reach_54 rfl (lv_at hl 3 rfl) ?_
              refine c_callVi (n := 2) (As := [.int x18, .int k1]) (rest := []) C hP hS hl.1 (NX0_isThere l D cy ad A sz0 sa κ H.size (SLT H) C.f (fun q h => C.a q (Nat.le_trans hS.1 h)) x18 k1 hPV) ⟨cw_31, cw_35, by decide +kernel⟩ ⟨cw_32, cw_33, cw_34⟩ rfl (hP.recvS (k := 4) (ci := 2) C.K rfl rfl) rfl rfl (lv_room (Nat.le_of_ble_eq_true rfl)) ⟨Nat.le_of_ble_eq_true rfl, Nat.le_of_ble_eq_true rfl⟩ ⟨(Nat.le_of_ble_eq_true rfl), (Nat.le_of_ble_eq_true rfl)⟩ dX0_reach_55 (fun r19 u H locs hr19 hP hS => ?_)
              obtain ⟨hr19, hr19y⟩ := hr19
              have hr19y : ∀ H : QT, CVq (κ.2.2.1 14) H → 0 ≤ x18.toInt → x18.toInt ≤ 12 → 1 ≤ k1.toInt → (r19.toInt = 0 → qTh H x18.toInt k1.toInt = false) ∧ (¬ r19.toInt = 0 → qTh H x18.toInt k1.toInt = true) := hr19y
              have hr19 : (0 ≤ r19.toInt ∧ r19.toInt ≤ 1) ∧ (((1 ≤ k1.toInt ∧ k1.toInt ≤ 4 ∧ 0 ≤ x18.toInt ∧ x18.toInt ≤ 12) → ((r19.toInt = 1 ∧ ¬ ((κ.2.2.1 14) (5 * x18.toInt + k1.toInt).toNat).toInt = 0) ∨ (r19.toInt = 0 ∧ ((κ.2.2.1 14) (5 * x18.toInt + k1.toInt).toNat).toInt = 0)))) := hr19
              obtain ⟨hr19_0, hr19_1⟩ := hr19
              obtain ⟨hr19_0_0, hr19_0_1⟩ := hr19_0
              refine lv_if_eq (tgt := 63) C.x C.b dX0_reach_58 (by decide) (fun c20 => ?_) (fun c20 => ?_)
              · have c20 : r19.toInt = 0 := by have h := z_eq c20; rw [show (0 : Int32).toInt = 0 from by decide +kernel] at h; exact h
                refine lv_aload_n C.x C.b dX0_reach_63 rfl (lv_at hl 0 rfl) ?_
                obtain ⟨x21, ex21⟩ : ∃ z, oR κ.2.2.2.2 6 b17 = z := ⟨_, rfl⟩
                refine pg_X1_2 (v := x21) C hP (t20 (a := b17) (t := 3) hb17) ex21 cw_58 dX0_reach_64 ?_
                have tx21 : NT κ.2.2.2.2 3 x21 := by rw [← ex21]; exact (hPV.t3 hb17).1.1
                have mx21 : cto κ.2.2.2.2 x21 < oC κ.2.2.2.2 b17 := by rw [← ex21]; exact (hPV.t3 hb17).1.2
                refine lq_astore_n (lv' := [(3, va_rf x21), (0, .ref (ad 4)), (1, .ref k0), (2, .int k1)]) C.x C.b dX0_reach_67 rfl hl (by decide) (by cases x21 <;> rfl) (fun ls hl => ?_)
                refine lv_goto (tgt := 45) C.x C.b dX0_reach_68 (by decide) ?_
                refine W.widen (k := 0 + 0 + 0) (n := 0 + 0 + 0) (Nat.le_of_ble_eq_true rfl) (Nat.le_of_ble_eq_true rfl) ?_
                exact ih45 x21 _ _ _ (Nat.lt_of_lt_of_le (vX0_reach_12 κ k0 k1 x3 r4 x14 x15 b17 x18 r19 x21 ex3 hr4_0_0 hr4_0_1 hr4_1 c5 mx15 ex18 hr19_0_0 hr19_0_1 hr19_1 c20 mx21) (Nat.le_of_lt_succ hn45)) tx21 ⟨trivial, (vX0_reach_11 sa κ k0 k1 r1 x3 r4 b7 x14 x15 b17 x18 r19 x21 ht0 hPV hr1y hr1_0_0 hr1_0_1 hr1_1 c2 ex3 hr4y hr4_0_0 hr4_0_1 hr4_1 c5 ex6 ex14 hx14 ex15 mx15 hi45y ex18 hr19y hr19_0_0 hr19_0_1 hr19_1 c20 ex21 mx21)⟩ hP hS (lv_sub hl [0, 1, 2, 3] rfl)
              · have c20 : ¬ r19.toInt = 0 := by have h := z_ne c20; rw [show (0 : Int32).toInt = 0 from by decide +kernel] at h; exact h
                refine lv_iconst (v := 1) C.x C.b dX0_reach_61 (by decide +kernel) ?_
                exact c_retz (ty := .boolean) (hv := rfl) C hsz hsl () ⟨(vX0_reach_1  ), (vX0_reach_13 sa κ k0 k1 r1 x3 r4 b7 x14 x15 b17 x18 r19 ht0 hPV hr1y hr1_0_0 hr1_0_1 hr1_1 c2 ex3 hr4y hr4_0_0 hr4_0_1 hr4_1 c5 ex6 ex14 hx14 ex15 mx15 hi45y ex18 hr19y hr19_0_0 hr19_0_1 hr19_1 c20)⟩ hP hS ⟨(Nat.le_of_ble_eq_true rfl), (Nat.le_of_ble_eq_true rfl)⟩ ⟨(Nat.le_of_ble_eq_true rfl), (Nat.le_of_ble_eq_true rfl)⟩ dX0_reach_62
        refine W.widen (k := 0 + 0 + 0) (n := 0 + 0 + 0) (Nat.le_of_ble_eq_true rfl) (Nat.le_of_ble_eq_true rfl) ?_
        exact lp45 ((cto κ.2.2.2.2 x15) + 1) x15 _ _ _ (Nat.lt_succ_self _) tx15 ⟨trivial, (vX0_reach_9 sa κ k0 k1 r1 x3 r4 b7 x14 x15 ht0 hPV hr1y hr1_0_0 hr1_0_1 hr1_1 c2 ex3 hr4y hr4_0_0 hr4_0_1 hr4_1 c5 ex6 ex14 hx14 ex15 mx15)⟩ hP hS (lv_sub hl [0, 1, 2, 3] rfl)
    · have c5 : ¬ r4.toInt = 0 := by have h := z_ne c5; rw [show (0 : Int32).toInt = 0 from by decide +kernel] at h; exact h
      refine lv_iconst (v := 1) C.x C.b dX0_reach_21 (by decide +kernel) ?_
      exact c_retz (ty := .boolean) (hv := rfl) C hsz hsl () ⟨(vX0_reach_1  ), (vX0_reach_14 sa κ k0 k1 r1 x3 r4 ht0 hPV hr1y hr1_0_0 hr1_0_1 hr1_1 c2 ex3 hr4y hr4_0_0 hr4_0_1 hr4_1 c5)⟩ hP hS ⟨(Nat.le_of_ble_eq_true rfl), (Nat.le_of_ble_eq_true rfl)⟩ ⟨(Nat.le_of_ble_eq_true rfl), (Nat.le_of_ble_eq_true rfl)⟩ dX0_reach_22

-- retz @22
theorem vX0_suit_1   : 0 ≤ (1 : Int32).toInt ∧ (1 : Int32).toInt ≤ 1 := by
  have q1 : (1 : Int32).toInt = 1 := by decide +kernel
  refine ⟨?_, ?_⟩ <;> first | assumption | omega | (subst_vars; omega) | trivial
-- post2 @22
theorem vX0_suit_2 (sa : Nat → Nat) (κ : KS) (k0 : Nat) (k1 : Int32) (r1 : Int32) (ht0 : oT κ.2.2.2.2 k0 = 1) (hPV : PV sa κ.2.2.2.2) (hr1y : ∀ (q7 q8 : Nat → Option Nat) (H : QT) (n : Int) (v : QV), FAMq κ.2.2.2.2 q7 H n → VALq κ.2.2.2.2 sa q7 q8 k0 v → (r1.toInt = 0 → qFits H v k1.toInt = false) ∧ (¬ r1.toInt = 0 → qFits H v k1.toInt = true)) (hr1_0 : 0 ≤ r1.toInt) (hr1_1 : r1.toInt ≤ 1) (c2 : ¬ r1.toInt = 0) : ∀ (q7 q8 : Nat → Option Nat) (H : QT) (n : Int) (v : QV), FAMq κ.2.2.2.2 q7 H n → VALq κ.2.2.2.2 sa q7 q8 k0 v → CVq (κ.2.2.1 14) H → 1 ≤ k1.toInt → ((1 : Int32).toInt = 0 → (qFits H v k1.toInt || qReach H v k1.toInt) = false) ∧ (¬ (1 : Int32).toInt = 0 → (qFits H v k1.toInt || qReach H v k1.toInt) = true) := by
  have q1 : (1 : Int32).toInt = 1 := by decide +kernel
  intro q7 q8 H n v F h C h1
  have A := hr1y q7 q8 H n v F h
  exact ⟨fun e => absurd e (by decide), fun _ => by rw [A.2 (by omega)] <;> rfl⟩
-- retz @22
theorem vX0_suit_3   : 0 ≤ (0 : Int32).toInt ∧ (0 : Int32).toInt ≤ 1 := by
  have q0 : (0 : Int32).toInt = 0 := by decide +kernel
  refine ⟨?_, ?_⟩ <;> first | assumption | omega | (subst_vars; omega) | trivial
-- post2 @22
theorem vX0_suit_4 (sa : Nat → Nat) (κ : KS) (k0 : Nat) (k1 : Int32) (r1 : Int32) (r3 : Int32) (ht0 : oT κ.2.2.2.2 k0 = 1) (hPV : PV sa κ.2.2.2.2) (hr1y : ∀ (q7 q8 : Nat → Option Nat) (H : QT) (n : Int) (v : QV), FAMq κ.2.2.2.2 q7 H n → VALq κ.2.2.2.2 sa q7 q8 k0 v → (r1.toInt = 0 → qFits H v k1.toInt = false) ∧ (¬ r1.toInt = 0 → qFits H v k1.toInt = true)) (hr1_0 : 0 ≤ r1.toInt) (hr1_1 : r1.toInt ≤ 1) (c2 : r1.toInt = 0) (hr3y : ∀ (q7 q8 : Nat → Option Nat) (H : QT) (n : Int) (v : QV), FAMq κ.2.2.2.2 q7 H n → VALq κ.2.2.2.2 sa q7 q8 k0 v → CVq (κ.2.2.1 14) H → 1 ≤ k1.toInt → (r3.toInt = 0 → qReach H v k1.toInt = false) ∧ (¬ r3.toInt = 0 → qReach H v k1.toInt = true)) (hr3_0 : 0 ≤ r3.toInt) (hr3_1 : r3.toInt ≤ 1) (c4 : r3.toInt = 0) : ∀ (q7 q8 : Nat → Option Nat) (H : QT) (n : Int) (v : QV), FAMq κ.2.2.2.2 q7 H n → VALq κ.2.2.2.2 sa q7 q8 k0 v → CVq (κ.2.2.1 14) H → 1 ≤ k1.toInt → ((0 : Int32).toInt = 0 → (qFits H v k1.toInt || qReach H v k1.toInt) = false) ∧ (¬ (0 : Int32).toInt = 0 → (qFits H v k1.toInt || qReach H v k1.toInt) = true) := by
  have q0 : (0 : Int32).toInt = 0 := by decide +kernel
  intro q7 q8 H n v F h C h1
  have A := hr1y q7 q8 H n v F h
  have B := hr3y q7 q8 H n v F h C h1
  exact ⟨fun e => by first | (exfalso; omega) | (rw [A.1 (by omega), B.1 (by omega)] <;> rfl), fun e => by first | (exfalso; omega) | (rw [A.1 (by omega), B.2 (by omega)] <;> rfl)⟩
-- post2 @22
theorem vX0_suit_5 (sa : Nat → Nat) (κ : KS) (k0 : Nat) (k1 : Int32) (r1 : Int32) (r3 : Int32) (ht0 : oT κ.2.2.2.2 k0 = 1) (hPV : PV sa κ.2.2.2.2) (hr1y : ∀ (q7 q8 : Nat → Option Nat) (H : QT) (n : Int) (v : QV), FAMq κ.2.2.2.2 q7 H n → VALq κ.2.2.2.2 sa q7 q8 k0 v → (r1.toInt = 0 → qFits H v k1.toInt = false) ∧ (¬ r1.toInt = 0 → qFits H v k1.toInt = true)) (hr1_0 : 0 ≤ r1.toInt) (hr1_1 : r1.toInt ≤ 1) (c2 : r1.toInt = 0) (hr3y : ∀ (q7 q8 : Nat → Option Nat) (H : QT) (n : Int) (v : QV), FAMq κ.2.2.2.2 q7 H n → VALq κ.2.2.2.2 sa q7 q8 k0 v → CVq (κ.2.2.1 14) H → 1 ≤ k1.toInt → (r3.toInt = 0 → qReach H v k1.toInt = false) ∧ (¬ r3.toInt = 0 → qReach H v k1.toInt = true)) (hr3_0 : 0 ≤ r3.toInt) (hr3_1 : r3.toInt ≤ 1) (c4 : ¬ r3.toInt = 0) : ∀ (q7 q8 : Nat → Option Nat) (H : QT) (n : Int) (v : QV), FAMq κ.2.2.2.2 q7 H n → VALq κ.2.2.2.2 sa q7 q8 k0 v → CVq (κ.2.2.1 14) H → 1 ≤ k1.toInt → ((1 : Int32).toInt = 0 → (qFits H v k1.toInt || qReach H v k1.toInt) = false) ∧ (¬ (1 : Int32).toInt = 0 → (qFits H v k1.toInt || qReach H v k1.toInt) = true) := by
  have q1 : (1 : Int32).toInt = 1 := by decide +kernel
  intro q7 q8 H n v F h C h1
  have A := hr1y q7 q8 H n v F h
  have B := hr3y q7 q8 H n v F h C h1
  exact ⟨fun e => by first | (exfalso; omega) | (rw [A.1 (by omega), B.1 (by omega)] <;> rfl), fun e => by first | (exfalso; omega) | (rw [A.1 (by omega), B.2 (by omega)] <;> rfl)⟩
set_option maxHeartbeats 4000000 in
set_option maxRecDepth 100000 in
theorem NX0_suit (l : Launch) (D : va_G) (cy : Nat → ClassId) (ad : Nat → Nat) (A : Nat → Prop) (sz0 : Nat) (sa : Nat → Nat)  (κ : KS) (sz sl : Nat) (hAF : ∀ q, A q → Fr sz0 q) (hAn : ∀ q : Nat, sz ≤ q → A q) (k0 : Nat) (k1 : Int32) (ht0 : oT κ.2.2.2.2 k0 = 1) (hPV : PV sa κ.2.2.2.2) : Met l yX0_suit (Cond.code yX0_suit cX0_suit 3 (some .boolean) :: GWc) ({ frames := 2, cells := 0, slots := 0, locals := 46 }) (PcC D cy ad A sz0 sa [.ref (ad 4), .ref k0, .int k1] κ sz sl) (va_Qi (fun (r : Int32) (u : Unit) => ((0 ≤ r.toInt ∧ r.toInt ≤ 1)) ∧ (∀ (q7 q8 : Nat → Option Nat) (H : QT) (n : Int) (v : QV), FAMq κ.2.2.2.2 q7 H n → VALq κ.2.2.2.2 sa q7 q8 k0 v → CVq (κ.2.2.1 14) H → 1 ≤ k1.toInt → (r.toInt = 0 → (qFits H v k1.toInt || qReach H v k1.toInt) = false) ∧ (¬ r.toInt = 0 → (qFits H v k1.toInt || qReach H v k1.toInt) = true))) (fun (u : Unit) (t : State) => Bx D cy ad A sz sl κ (0) (0) t) A) (0) (0) A := by
  refine CM_of (loc0 := [(0, .ref (ad 4)), (1, .ref k0), (2, .int k1)]) (own := RX0) (nm := "suit") (by decide) rfl rfl rfl (Nat.le_of_ble_eq_true rfl) hAF hAn ?_
  intro p e s m below meth c ls hsz hsl C hP hS hl
  refine lv_aload_n C.x C.b dX0_suit_0 rfl (lv_at hl 1 rfl) ?_
  refine lv_iload_n C.x C.b dX0_suit_1 rfl (lv_at hl 2 rfl) ?_
  refine c_callVi (n := 1) (As := [.int k1]) (rest := []) C hP hS hl.1 (NX10_fits l D cy ad A sz0 sa κ s.heap.size (SLT s.heap) C.f (fun q h => C.a q (Nat.le_trans hS.1 h)) k0 k1 ht0 hPV) ⟨cw_37, cw_41, by decide +kernel⟩ ⟨cw_38, cw_39, cw_40⟩ rfl (hP.recvP (t := 1) (ci := 12) C.K (t20 (a := k0) (t := 1) ht0) (by decide) rfl rfl) rfl rfl (lv_room (Nat.le_of_ble_eq_true rfl)) ⟨Nat.le_of_ble_eq_true rfl, Nat.le_of_ble_eq_true rfl⟩ ⟨(Nat.le_of_ble_eq_true rfl), (Nat.le_of_ble_eq_true rfl)⟩ dX0_suit_2 (fun r1 u H locs hr1 hP hS => ?_)
  obtain ⟨hr1, hr1y⟩ := hr1
  have hr1y : ∀ (q7 q8 : Nat → Option Nat) (H : QT) (n : Int) (v : QV), FAMq κ.2.2.2.2 q7 H n → VALq κ.2.2.2.2 sa q7 q8 k0 v → (r1.toInt = 0 → qFits H v k1.toInt = false) ∧ (¬ r1.toInt = 0 → qFits H v k1.toInt = true) := hr1y
  have hr1 : (0 ≤ r1.toInt ∧ r1.toInt ≤ 1) := hr1
  obtain ⟨hr1_0, hr1_1⟩ := hr1
  refine lv_if_ne (tgt := 17) C.x C.b dX0_suit_5 (by decide) (fun c2 => ?_) (fun c2 => ?_)
  · have c2 : ¬ r1.toInt = 0 := by have h := z_ne c2; rw [show (0 : Int32).toInt = 0 from by decide +kernel] at h; exact h
    refine lv_iconst (v := 1) C.x C.b dX0_suit_17 (by decide +kernel) ?_
    refine lv_goto (tgt := 22) C.x C.b dX0_suit_18 (by decide) ?_
    exact c_retz (ty := .boolean) (hv := rfl) C hsz hsl () ⟨(vX0_suit_1  ), (vX0_suit_2 sa κ k0 k1 r1 ht0 hPV hr1y hr1_0 hr1_1 c2)⟩ hP hS ⟨(Nat.le_of_ble_eq_true rfl), (Nat.le_of_ble_eq_true rfl)⟩ ⟨(Nat.le_of_ble_eq_true rfl), (Nat.le_of_ble_eq_true rfl)⟩ dX0_suit_22
  · have c2 : r1.toInt = 0 := by have h := z_eq c2; rw [show (0 : Int32).toInt = 0 from by decide +kernel] at h; exact h
    refine lv_aload_n C.x C.b dX0_suit_8 rfl (lv_at hl 0 rfl) ?_
    refine lv_aload_n C.x C.b dX0_suit_9 rfl (lv_at hl 1 rfl) ?_
    refine lv_iload_n C.x C.b dX0_suit_10 rfl (lv_at hl 2 rfl) ?_
    refine c_callVi (n := 2) (As := [.ref k0, .int k1]) (rest := []) C hP hS hl.1 (NX0_reach l D cy ad A sz0 sa κ H.size (SLT H) C.f (fun q h => C.a q (Nat.le_trans hS.1 h)) k0 k1 ht0 hPV) ⟨cw_51, cw_54, by decide +kernel⟩ ⟨cw_52, cw_53, cw_34⟩ rfl (hP.recvS (k := 4) (ci := 2) C.K rfl rfl) rfl rfl (lv_room (Nat.le_of_ble_eq_true rfl)) ⟨Nat.le_of_ble_eq_true rfl, Nat.le_of_ble_eq_true rfl⟩ ⟨(Nat.le_of_ble_eq_true rfl), (Nat.le_of_ble_eq_true rfl)⟩ dX0_suit_11 (fun r3 u H locs hr3 hP hS => ?_)
    obtain ⟨hr3, hr3y⟩ := hr3
    have hr3y : ∀ (q7 q8 : Nat → Option Nat) (H : QT) (n : Int) (v : QV), FAMq κ.2.2.2.2 q7 H n → VALq κ.2.2.2.2 sa q7 q8 k0 v → CVq (κ.2.2.1 14) H → 1 ≤ k1.toInt → (r3.toInt = 0 → qReach H v k1.toInt = false) ∧ (¬ r3.toInt = 0 → qReach H v k1.toInt = true) := hr3y
    have hr3 : (0 ≤ r3.toInt ∧ r3.toInt ≤ 1) := hr3
    obtain ⟨hr3_0, hr3_1⟩ := hr3
    refine lv_if_eq (tgt := 21) C.x C.b dX0_suit_14 (by decide) (fun c4 => ?_) (fun c4 => ?_)
    · have c4 : r3.toInt = 0 := by have h := z_eq c4; rw [show (0 : Int32).toInt = 0 from by decide +kernel] at h; exact h
      refine lv_iconst (v := 0) C.x C.b dX0_suit_21 (by decide +kernel) ?_
      exact c_retz (ty := .boolean) (hv := rfl) C hsz hsl () ⟨(vX0_suit_3  ), (vX0_suit_4 sa κ k0 k1 r1 r3 ht0 hPV hr1y hr1_0 hr1_1 c2 hr3y hr3_0 hr3_1 c4)⟩ hP hS ⟨(Nat.le_of_ble_eq_true rfl), (Nat.le_of_ble_eq_true rfl)⟩ ⟨(Nat.le_of_ble_eq_true rfl), (Nat.le_of_ble_eq_true rfl)⟩ dX0_suit_22
    · have c4 : ¬ r3.toInt = 0 := by have h := z_ne c4; rw [show (0 : Int32).toInt = 0 from by decide +kernel] at h; exact h
      refine lv_iconst (v := 1) C.x C.b dX0_suit_17 (by decide +kernel) ?_
      refine lv_goto (tgt := 22) C.x C.b dX0_suit_18 (by decide) ?_
      exact c_retz (ty := .boolean) (hv := rfl) C hsz hsl () ⟨(vX0_suit_1  ), (vX0_suit_5 sa κ k0 k1 r1 r3 ht0 hPV hr1y hr1_0 hr1_1 c2 hr3y hr3_0 hr3_1 c4)⟩ hP hS ⟨(Nat.le_of_ble_eq_true rfl), (Nat.le_of_ble_eq_true rfl)⟩ ⟨(Nat.le_of_ble_eq_true rfl), (Nat.le_of_ble_eq_true rfl)⟩ dX0_suit_22

-- post2 @84
theorem vX0_toBool_1 (sa : Nat → Nat) (κ : KS) (k0 : Nat) (x1 : Int32) (x6 : Int32) (P9 : PL) (b11 : Nat) (ht0 : oT κ.2.2.2.2 k0 = 1) (hPV : PV sa κ.2.2.2.2) (ex1 : oI κ.2.2.2.2 0 k0 = x1) (c2 : ¬ x1.toInt = 4) (ex3 : oR κ.2.2.2.2 1 k0 = none) (ex6 : oI κ.2.2.2.2 1 k0 = x6) (c7 : ¬ x6.toInt = 0) (hr8_0 : EX κ.2.2.2.2 P9) (hr8_2 : KPx True κ.2.2.2.2 P9) (hr8y : ∀ q7 q8 : Nat → Option Nat, VALq P9 sa q7 q8 b11 (qBool (decide (¬ (1 : Int32).toInt = 0)))) : ∀ (q7 q8 : Nat → Option Nat) (v : QV), VALq κ.2.2.2.2 sa q7 q8 k0 v → ((some b11) = (none : Option Nat) → qCvB v = .inr 10) ∧ (∀ x, (some b11) = some x → ∃ w, qCvB v = .inl w ∧ VALq P9 sa q7 q8 x w) := by
  have q1 : (1 : Int32).toInt = 1 := by decide +kernel
  intro q7 q8 v h
  have k := h.k9
  rw [ex1] at k
  refine ⟨fun e => (by cases e), fun x e => ?_⟩
  obtain rfl := Option.some.inj e
  refine ⟨_, h.b9 (by omega) ?_, hr8y q7 q8⟩
  rw [decide_eq_true (show ¬ (1 : Int32).toInt = 0 by decide)]
  refine (decide_eq_true ?_).symm
  exact Or.inr (Or.inl (by rw [ex6]; omega))
-- post2 @84
theorem vX0_toBool_2 (sa : Nat → Nat) (κ : KS) (k0 : Nat) (x1 : Int32) (x6 : Int32) (x12 : UInt64) (x13 : Int32) (P16 : PL) (b18 : Nat) (ht0 : oT κ.2.2.2.2 k0 = 1) (hPV : PV sa κ.2.2.2.2) (ex1 : oI κ.2.2.2.2 0 k0 = x1) (c2 : ¬ x1.toInt = 4) (ex3 : oR κ.2.2.2.2 1 k0 = none) (ex6 : oI κ.2.2.2.2 1 k0 = x6) (c7 : x6.toInt = 0) (ex12 : oD κ.2.2.2.2 k0 = x12) (fx12 : FN x12) (ex13 : x13 = Op.cmpValue (FP.dcmp x12 FP.dconst0) .l) (c14 : x13.toInt = 0) (hr15_0 : EX κ.2.2.2.2 P16) (hr15_2 : KPx True κ.2.2.2.2 P16) (hr15y : ∀ q7 q8 : Nat → Option Nat, VALq P16 sa q7 q8 b18 (qBool (decide (¬ (0 : Int32).toInt = 0)))) : ∀ (q7 q8 : Nat → Option Nat) (v : QV), VALq κ.2.2.2.2 sa q7 q8 k0 v → ((some b18) = (none : Option Nat) → qCvB v = .inr 10) ∧ (∀ x, (some b18) = some x → ∃ w, qCvB v = .inl w ∧ VALq P16 sa q7 q8 x w) := by
  have q0 : (0 : Int32).toInt = 0 := by decide +kernel
  intro q7 q8 v h
  have k := h.k9
  rw [ex1] at k
  refine ⟨fun e => (by cases e), fun x e => ?_⟩
  obtain rfl := Option.some.inj e
  refine ⟨_, h.b9 (by omega) ?_, hr15y q7 q8⟩
  rw [decide_eq_false (show ¬ ¬ (0 : Int32).toInt = 0 by decide)]
  refine (decide_eq_false ?_).symm
  rintro (a | a | a)
  · have := h.no9 ex3
    omega
  · rw [ex6] at a; omega
  · rw [ex12, ← ex13] at a; omega
-- post2 @84
theorem vX0_toBool_3 (sa : Nat → Nat) (κ : KS) (k0 : Nat) (x1 : Int32) (x6 : Int32) (x12 : UInt64) (x13 : Int32) (P20 : PL) (b22 : Nat) (ht0 : oT κ.2.2.2.2 k0 = 1) (hPV : PV sa κ.2.2.2.2) (ex1 : oI κ.2.2.2.2 0 k0 = x1) (c2 : ¬ x1.toInt = 4) (ex3 : oR κ.2.2.2.2 1 k0 = none) (ex6 : oI κ.2.2.2.2 1 k0 = x6) (c7 : x6.toInt = 0) (ex12 : oD κ.2.2.2.2 k0 = x12) (fx12 : FN x12) (ex13 : x13 = Op.cmpValue (FP.dcmp x12 FP.dconst0) .l) (c14 : ¬ x13.toInt = 0) (hr19_0 : EX κ.2.2.2.2 P20) (hr19_2 : KPx True κ.2.2.2.2 P20) (hr19y : ∀ q7 q8 : Nat → Option Nat, VALq P20 sa q7 q8 b22 (qBool (decide (¬ (1 : Int32).toInt = 0)))) : ∀ (q7 q8 : Nat → Option Nat) (v : QV), VALq κ.2.2.2.2 sa q7 q8 k0 v → ((some b22) = (none : Option Nat) → qCvB v = .inr 10) ∧ (∀ x, (some b22) = some x → ∃ w, qCvB v = .inl w ∧ VALq P20 sa q7 q8 x w) := by
  have q1 : (1 : Int32).toInt = 1 := by decide +kernel
  intro q7 q8 v h
  have k := h.k9
  rw [ex1] at k
  refine ⟨fun e => (by cases e), fun x e => ?_⟩
  obtain rfl := Option.some.inj e
  refine ⟨_, h.b9 (by omega) ?_, hr19y q7 q8⟩
  rw [decide_eq_true (show ¬ (1 : Int32).toInt = 0 by decide)]
  refine (decide_eq_true ?_).symm
  exact Or.inr (Or.inr (by rw [ex12, ← ex13]; omega))
-- post2 @84
theorem vX0_toBool_4 (sa : Nat → Nat) (κ : KS) (k0 : Nat) (x1 : Int32) (b4 : Nat) (P25 : PL) (b27 : Nat) (ht0 : oT κ.2.2.2.2 k0 = 1) (hPV : PV sa κ.2.2.2.2) (ex1 : oI κ.2.2.2.2 0 k0 = x1) (c2 : ¬ x1.toInt = 4) (ex3 : oR κ.2.2.2.2 1 k0 = (some b4)) (hr24_0 : EX κ.2.2.2.2 P25) (hr24_2 : KPx True κ.2.2.2.2 P25) (hr24y : ∀ q7 q8 : Nat → Option Nat, VALq P25 sa q7 q8 b27 (qBool (decide (¬ (1 : Int32).toInt = 0)))) : ∀ (q7 q8 : Nat → Option Nat) (v : QV), VALq κ.2.2.2.2 sa q7 q8 k0 v → ((some b27) = (none : Option Nat) → qCvB v = .inr 10) ∧ (∀ x, (some b27) = some x → ∃ w, qCvB v = .inl w ∧ VALq P25 sa q7 q8 x w) := by
  have q1 : (1 : Int32).toInt = 1 := by decide +kernel
  intro q7 q8 v h
  have k := h.k9
  rw [ex1] at k
  refine ⟨fun e => (by cases e), fun x e => ?_⟩
  obtain rfl := Option.some.inj e
  refine ⟨_, h.b9 (by omega) ?_, hr24y q7 q8⟩
  rw [decide_eq_true (show ¬ (1 : Int32).toInt = 0 by decide)]
  refine (decide_eq_true ?_).symm
  refine Or.inl ?_
  by_cases q : v.1 < 8
  · have z := h.2.2.2.2.2.2.1 q
    rw [ex3] at z; cases z
  · omega
-- post2 @42
theorem vX0_toBool_5 (sa : Nat → Nat) (κ : KS) (k0 : Nat) (x1 : Int32) (x28 : Nat) (r29 : Int32) (P32 : PL) (b34 : Nat) (ht0 : oT κ.2.2.2.2 k0 = 1) (hPV : PV sa κ.2.2.2.2) (ex1 : oI κ.2.2.2.2 0 k0 = x1) (c2 : x1.toInt = 4) (ex28 : oR κ.2.2.2.2 0 k0 = some x28) (hr29y : ∀ s9 t9 : List Int, TXq κ.2.2.2.2 sa x28 s9 → TXq κ.2.2.2.2 sa (sa 400) t9 → (r29.toInt = 0 → ¬ s9 = t9) ∧ (¬ r29.toInt = 0 → s9 = t9)) (hr29_0 : 0 ≤ r29.toInt) (hr29_1 : r29.toInt ≤ 1) (c30 : ¬ r29.toInt = 0) (hr31_0 : EX κ.2.2.2.2 P32) (hr31_2 : KPx True κ.2.2.2.2 P32) (hr31y : ∀ q7 q8 : Nat → Option Nat, VALq P32 sa q7 q8 b34 (qBool (decide (¬ r29.toInt = 0)))) : ∀ (q7 q8 : Nat → Option Nat) (v : QV), VALq κ.2.2.2.2 sa q7 q8 k0 v → ((some b34) = (none : Option Nat) → qCvB v = .inr 10) ∧ (∀ x, (some b34) = some x → ∃ w, qCvB v = .inl w ∧ VALq P32 sa q7 q8 x w) := by
  intro q7 q8 v h
  have k := h.k9
  rw [ex1] at k
  obtain ⟨cc, c6, c7⟩ := h.2.2.2.2.2.1
  rw [ex28] at c6
  obtain rfl := Option.some.inj c6
  have A := hr29y _ _ c7 TXq.true9
  refine ⟨fun e => (by cases e), fun x e => ?_⟩
  obtain rfl := Option.some.inj e
  refine ⟨_, ?_, hr31y q7 q8⟩
  unfold qCvB
  rw [if_pos (by omega), if_pos (A.2 (by omega)), decide_eq_true (by omega)]
-- post2 @42
theorem vX0_toBool_6 (sa : Nat → Nat) (κ : KS) (k0 : Nat) (x1 : Int32) (x28 : Nat) (r29 : Int32) (r35 : Int32) (ht0 : oT κ.2.2.2.2 k0 = 1) (hPV : PV sa κ.2.2.2.2) (ex1 : oI κ.2.2.2.2 0 k0 = x1) (c2 : x1.toInt = 4) (ex28 : oR κ.2.2.2.2 0 k0 = some x28) (hr29y : ∀ s9 t9 : List Int, TXq κ.2.2.2.2 sa x28 s9 → TXq κ.2.2.2.2 sa (sa 400) t9 → (r29.toInt = 0 → ¬ s9 = t9) ∧ (¬ r29.toInt = 0 → s9 = t9)) (hr29_0 : 0 ≤ r29.toInt) (hr29_1 : r29.toInt ≤ 1) (c30 : r29.toInt = 0) (hr35y : ∀ s9 t9 : List Int, TXq κ.2.2.2.2 sa x28 s9 → TXq κ.2.2.2.2 sa (sa 401) t9 → (r35.toInt = 0 → ¬ s9 = t9) ∧ (¬ r35.toInt = 0 → s9 = t9)) (hr35_0 : 0 ≤ r35.toInt) (hr35_1 : r35.toInt ≤ 1) (c36 : r35.toInt = 0) : ∀ (q7 q8 : Nat → Option Nat) (v : QV), VALq κ.2.2.2.2 sa q7 q8 k0 v → (none = (none : Option Nat) → qCvB v = .inr 10) ∧ (∀ x, none = some x → ∃ w, qCvB v = .inl w ∧ VALq κ.2.2.2.2 sa q7 q8 x w) := by
  intro q7 q8 v h
  have k := h.k9
  rw [ex1] at k
  obtain ⟨cc, c6, c7⟩ := h.2.2.2.2.2.1
  rw [ex28] at c6
  obtain rfl := Option.some.inj c6
  have A := hr29y _ _ c7 TXq.true9
  have B := hr35y _ _ c7 TXq.false9
  exact ⟨fun _ => by unfold qCvB; rw [if_pos (by omega), if_neg (A.1 (by omega)), if_neg (B.1 (by omega))], fun x e => by cases e⟩
-- post2 @42
theorem vX0_toBool_7 (sa : Nat → Nat) (κ : KS) (k0 : Nat) (x1 : Int32) (x28 : Nat) (r29 : Int32) (r35 : Int32) (P38 : PL) (b40 : Nat) (ht0 : oT κ.2.2.2.2 k0 = 1) (hPV : PV sa κ.2.2.2.2) (ex1 : oI κ.2.2.2.2 0 k0 = x1) (c2 : x1.toInt = 4) (ex28 : oR κ.2.2.2.2 0 k0 = some x28) (hr29y : ∀ s9 t9 : List Int, TXq κ.2.2.2.2 sa x28 s9 → TXq κ.2.2.2.2 sa (sa 400) t9 → (r29.toInt = 0 → ¬ s9 = t9) ∧ (¬ r29.toInt = 0 → s9 = t9)) (hr29_0 : 0 ≤ r29.toInt) (hr29_1 : r29.toInt ≤ 1) (c30 : r29.toInt = 0) (hr35y : ∀ s9 t9 : List Int, TXq κ.2.2.2.2 sa x28 s9 → TXq κ.2.2.2.2 sa (sa 401) t9 → (r35.toInt = 0 → ¬ s9 = t9) ∧ (¬ r35.toInt = 0 → s9 = t9)) (hr35_0 : 0 ≤ r35.toInt) (hr35_1 : r35.toInt ≤ 1) (c36 : ¬ r35.toInt = 0) (hr37_0 : EX κ.2.2.2.2 P38) (hr37_2 : KPx True κ.2.2.2.2 P38) (hr37y : ∀ q7 q8 : Nat → Option Nat, VALq P38 sa q7 q8 b40 (qBool (decide (¬ r29.toInt = 0)))) : ∀ (q7 q8 : Nat → Option Nat) (v : QV), VALq κ.2.2.2.2 sa q7 q8 k0 v → ((some b40) = (none : Option Nat) → qCvB v = .inr 10) ∧ (∀ x, (some b40) = some x → ∃ w, qCvB v = .inl w ∧ VALq P38 sa q7 q8 x w) := by
  intro q7 q8 v h
  have k := h.k9
  rw [ex1] at k
  obtain ⟨cc, c6, c7⟩ := h.2.2.2.2.2.1
  rw [ex28] at c6
  obtain rfl := Option.some.inj c6
  have A := hr29y _ _ c7 TXq.true9
  have B := hr35y _ _ c7 TXq.false9
  refine ⟨fun e => (by cases e), fun x e => ?_⟩
  obtain rfl := Option.some.inj e
  refine ⟨_, ?_, hr37y q7 q8⟩
  unfold qCvB
  rw [if_pos (by omega), if_neg (A.1 (by omega)), if_pos (B.2 (by omega)), decide_eq_false (by omega)]
set_option maxHeartbeats 4000000 in
set_option maxRecDepth 100000 in
theorem NX0_toBool (l : Launch) (D : va_G) (cy : Nat → ClassId) (ad : Nat → Nat) (A : Nat → Prop) (sz0 : Nat) (sa : Nat → Nat)  (κ : KS) (sz sl : Nat) (hAF : ∀ q, A q → Fr sz0 q) (hAn : ∀ q : Nat, sz ≤ q → A q) (k0 : Nat) (ht0 : oT κ.2.2.2.2 k0 = 1) (hPV : PV sa κ.2.2.2.2) : Met l yX0_toBool (Cond.code yX0_toBool cX0_toBool 2 (some (.object "PhraseDesk$Value")) :: GWc) ({ frames := 3, cells := 1, slots := 5, locals := 66 }) (PcC D cy ad A sz0 sa [.ref k0] κ sz sl) (va_Qq (fun (r : Option Nat) (u : PL) => ((EX κ.2.2.2.2 u) ∧ (PV sa u) ∧ (KPx True κ.2.2.2.2 u) ∧ (NT u 1 r)) ∧ (∀ (q7 q8 : Nat → Option Nat) (v : QV), VALq κ.2.2.2.2 sa q7 q8 k0 v → (r = (none : Option Nat) → qCvB v = .inr 10) ∧ (∀ x, r = some x → ∃ w, qCvB v = .inl w ∧ VALq u sa q7 q8 x w))) (fun (u : PL) (t : State) => Bx D cy ad A sz sl (tP κ u) (1) (5) t) A) (1) (5) A := by
  refine CM_of (loc0 := [(0, .ref k0)]) (own := RX0) (nm := "toBool") (by decide) rfl rfl rfl (Nat.le_of_ble_eq_true rfl) hAF hAn ?_
  intro p e s m below meth c ls hsz hsl C hP hS hl
  refine lv_aload_n C.x C.b dX0_toBool_0 rfl (lv_at hl 0 rfl) ?_
  obtain ⟨x1, ex1⟩ : ∃ z, oI κ.2.2.2.2 0 k0 = z := ⟨_, rfl⟩
  refine pg_X10_0 (v := x1) C hP (t20 (a := k0) (t := 1) ht0) ex1 cw_55 dX0_toBool_1 ?_
  refine lv_iconst (v := 4) C.x C.b dX0_toBool_4 (by decide +kernel) ?_
  refine lv_icmp_ne (tgt := 43) C.x C.b dX0_toBool_5 (by decide) (fun c2 => ?_) (fun c2 => ?_)
  · have c2 : ¬ x1.toInt = 4 := by have h := z_ne c2; rw [show (4 : Int32).toInt = 4 from by decide +kernel] at h; exact h
    refine lv_aload_n C.x C.b dX0_toBool_43 rfl (lv_at hl 0 rfl) ?_
    obtain ⟨x3, ex3⟩ : ∃ z, oR κ.2.2.2.2 1 k0 = z := ⟨_, rfl⟩
    refine pg_X10_4 (v := x3) C hP (t20 (a := k0) (t := 1) ht0) ex3 cw_56 dX0_toBool_44 ?_
    have tx3 : NT κ.2.2.2.2 6 x3 := by rw [← ex3]; exact (hPV.t1 ht0).2.1
    cases x3 with
    | none =>
      refine lv_ifnullN (tgt := 54) C.x C.b dX0_toBool_47 (by decide) ?_
      refine lv_iconst (v := 0) C.x C.b dX0_toBool_54 (by decide +kernel) ?_
      refine lv_istore_n (lv' := [(1, .int 0), (0, .ref k0)]) C.x C.b dX0_toBool_55 rfl hl (by decide) rfl (fun ls hl => ?_)
      refine lv_iload_n C.x C.b dX0_toBool_56 rfl (lv_at hl 0 rfl) ?_
      refine lv_if_ne (tgt := 76) C.x C.b dX0_toBool_57 (by decide) (fun c5 => absurd (by decide +kernel) c5) (fun _ => ?_)
      refine lv_aload_n C.x C.b dX0_toBool_60 rfl (lv_at hl 1 rfl) ?_
      obtain ⟨x6, ex6⟩ : ∃ z, oI κ.2.2.2.2 1 k0 = z := ⟨_, rfl⟩
      refine pg_X10_1 (v := x6) C hP (t20 (a := k0) (t := 1) ht0) ex6 cw_61 dX0_toBool_61 ?_
      refine lv_if_ne (tgt := 76) C.x C.b dX0_toBool_64 (by decide) (fun c7 => ?_) (fun c7 => ?_)
      · have c7 : ¬ x6.toInt = 0 := by have h := z_ne c7; rw [show (0 : Int32).toInt = 0 from by decide +kernel] at h; exact h
        refine lv_iconst (v := 1) C.x C.b dX0_toBool_76 (by decide +kernel) ?_
        refine lv_goto (tgt := 81) C.x C.b dX0_toBool_77 (by decide) ?_
        refine c_callSq (C2 := "") (b := 0) (n := 1) (As := [.int 1]) (rest := []) C hP hS hl.1 (NX10_ofBool l D cy ad A sz0 sa κ s.heap.size (SLT s.heap) C.f (fun q h => C.a q (Nat.le_trans hS.1 h)) (1 : Int32) hPV) ⟨cw_80, cw_82, by decide +kernel⟩ ⟨cw_81, cw_40⟩ rfl rfl (lv_room (Nat.le_of_ble_eq_true rfl)) ⟨Nat.le_of_ble_eq_true rfl, Nat.le_of_ble_eq_true rfl⟩ ⟨(Nat.le_of_ble_eq_true rfl), (Nat.le_of_ble_eq_true rfl)⟩ dX0_toBool_81 (fun r8 u H locs hr8 hP hS => ?_)
        obtain ⟨P9, rfl⟩ : ∃ z, z = u := ⟨_, rfl⟩
        have hP : CH D cy ad A (tP κ P9) H := hP
        obtain ⟨hr8, hr8y⟩ := hr8
        have hr8y : ∀ q7 q8 : Nat → Option Nat, VALq P9 sa q7 q8 (r8.getD 0) (qBool (decide (¬ (1 : Int32).toInt = 0))) := hr8y
        have hr8 : (EX κ.2.2.2.2 P9) ∧ (PV sa P9) ∧ (KPx True κ.2.2.2.2 P9) ∧ (NN P9 1 r8) := hr8
        obtain ⟨hr8_0, hr8_1, hr8_2, hr8_3⟩ := hr8
        have kpz10 : KPx True κ.2.2.2.2 P9 := KPx.rf.trans hr8_2
        obtain ⟨b11, rfl, tb11⟩ := hr8_3
        exact c_retq (v := (some b11)) (Or.inl ⟨_, rfl⟩) C hsz hsl P9 ⟨⟨hr8_0, hr8_1, kpz10, (nt_s tb11)⟩, (vX0_toBool_1 sa κ k0 x1 x6 P9 b11 ht0 hPV ex1 c2 ex3 ex6 c7 hr8_0 hr8_2 hr8y)⟩ hP hS ⟨(Nat.le_of_ble_eq_true rfl), (Nat.le_of_ble_eq_true rfl)⟩ ⟨(Nat.le_of_ble_eq_true rfl), (Nat.le_of_ble_eq_true rfl)⟩ dX0_toBool_84
      · have c7 : x6.toInt = 0 := by have h := z_eq c7; rw [show (0 : Int32).toInt = 0 from by decide +kernel] at h; exact h
        refine lv_aload_n C.x C.b dX0_toBool_67 rfl (lv_at hl 1 rfl) ?_
        obtain ⟨x12, ex12⟩ : ∃ z, oD κ.2.2.2.2 k0 = z := ⟨_, rfl⟩
        refine pg_X10_2 (v := x12) C hP (t20 (a := k0) (t := 1) ht0) ex12 cw_66 dX0_toBool_68 ?_
        have fx12 : FN x12 := by rw [← ex12]; exact (hPV.t1 ht0).2.2
        refine lv_dconst0 C.x C.b dX0_toBool_71 ?_
        refine lv_dcmp C.x C.b dX0_toBool_72 ?_
        refine lv_topi (fun x13 ex13 => ?_)
        refine lv_if_eq (tgt := 80) C.x C.b dX0_toBool_73 (by decide) (fun c14 => ?_) (fun c14 => ?_)
        · have c14 : x13.toInt = 0 := by have h := z_eq c14; rw [show (0 : Int32).toInt = 0 from by decide +kernel] at h; exact h
          refine lv_iconst (v := 0) C.x C.b dX0_toBool_80 (by decide +kernel) ?_
          refine c_callSq (C2 := "") (b := 0) (n := 1) (As := [.int 0]) (rest := []) C hP hS hl.1 (NX10_ofBool l D cy ad A sz0 sa κ s.heap.size (SLT s.heap) C.f (fun q h => C.a q (Nat.le_trans hS.1 h)) (0 : Int32) hPV) ⟨cw_80, cw_82, by decide +kernel⟩ ⟨cw_81, cw_40⟩ rfl rfl (lv_room (Nat.le_of_ble_eq_true rfl)) ⟨Nat.le_of_ble_eq_true rfl, Nat.le_of_ble_eq_true rfl⟩ ⟨(Nat.le_of_ble_eq_true rfl), (Nat.le_of_ble_eq_true rfl)⟩ dX0_toBool_81 (fun r15 u H locs hr15 hP hS => ?_)
          obtain ⟨P16, rfl⟩ : ∃ z, z = u := ⟨_, rfl⟩
          have hP : CH D cy ad A (tP κ P16) H := hP
          obtain ⟨hr15, hr15y⟩ := hr15
          have hr15y : ∀ q7 q8 : Nat → Option Nat, VALq P16 sa q7 q8 (r15.getD 0) (qBool (decide (¬ (0 : Int32).toInt = 0))) := hr15y
          have hr15 : (EX κ.2.2.2.2 P16) ∧ (PV sa P16) ∧ (KPx True κ.2.2.2.2 P16) ∧ (NN P16 1 r15) := hr15
          obtain ⟨hr15_0, hr15_1, hr15_2, hr15_3⟩ := hr15
          have kpz17 : KPx True κ.2.2.2.2 P16 := KPx.rf.trans hr15_2
          obtain ⟨b18, rfl, tb18⟩ := hr15_3
          exact c_retq (v := (some b18)) (Or.inl ⟨_, rfl⟩) C hsz hsl P16 ⟨⟨hr15_0, hr15_1, kpz17, (nt_s tb18)⟩, (vX0_toBool_2 sa κ k0 x1 x6 x12 x13 P16 b18 ht0 hPV ex1 c2 ex3 ex6 c7 ex12 fx12 ex13 c14 hr15_0 hr15_2 hr15y)⟩ hP hS ⟨(Nat.le_of_ble_eq_true rfl), (Nat.le_of_ble_eq_true rfl)⟩ ⟨(Nat.le_of_ble_eq_true rfl), (Nat.le_of_ble_eq_true rfl)⟩ dX0_toBool_84
        · have c14 : ¬ x13.toInt = 0 := by have h := z_ne c14; rw [show (0 : Int32).toInt = 0 from by decide +kernel] at h; exact h
          refine lv_iconst (v := 1) C.x C.b dX0_toBool_76 (by decide +kernel) ?_
          refine lv_goto (tgt := 81) C.x C.b dX0_toBool_77 (by decide) ?_
          refine c_callSq (C2 := "") (b := 0) (n := 1) (As := [.int 1]) (rest := []) C hP hS hl.1 (NX10_ofBool l D cy ad A sz0 sa κ s.heap.size (SLT s.heap) C.f (fun q h => C.a q (Nat.le_trans hS.1 h)) (1 : Int32) hPV) ⟨cw_80, cw_82, by decide +kernel⟩ ⟨cw_81, cw_40⟩ rfl rfl (lv_room (Nat.le_of_ble_eq_true rfl)) ⟨Nat.le_of_ble_eq_true rfl, Nat.le_of_ble_eq_true rfl⟩ ⟨(Nat.le_of_ble_eq_true rfl), (Nat.le_of_ble_eq_true rfl)⟩ dX0_toBool_81 (fun r19 u H locs hr19 hP hS => ?_)
          obtain ⟨P20, rfl⟩ : ∃ z, z = u := ⟨_, rfl⟩
          have hP : CH D cy ad A (tP κ P20) H := hP
          obtain ⟨hr19, hr19y⟩ := hr19
          have hr19y : ∀ q7 q8 : Nat → Option Nat, VALq P20 sa q7 q8 (r19.getD 0) (qBool (decide (¬ (1 : Int32).toInt = 0))) := hr19y
          have hr19 : (EX κ.2.2.2.2 P20) ∧ (PV sa P20) ∧ (KPx True κ.2.2.2.2 P20) ∧ (NN P20 1 r19) := hr19
          obtain ⟨hr19_0, hr19_1, hr19_2, hr19_3⟩ := hr19
          have kpz21 : KPx True κ.2.2.2.2 P20 := KPx.rf.trans hr19_2
          obtain ⟨b22, rfl, tb22⟩ := hr19_3
          exact c_retq (v := (some b22)) (Or.inl ⟨_, rfl⟩) C hsz hsl P20 ⟨⟨hr19_0, hr19_1, kpz21, (nt_s tb22)⟩, (vX0_toBool_3 sa κ k0 x1 x6 x12 x13 P20 b22 ht0 hPV ex1 c2 ex3 ex6 c7 ex12 fx12 ex13 c14 hr19_0 hr19_2 hr19y)⟩ hP hS ⟨(Nat.le_of_ble_eq_true rfl), (Nat.le_of_ble_eq_true rfl)⟩ ⟨(Nat.le_of_ble_eq_true rfl), (Nat.le_of_ble_eq_true rfl)⟩ dX0_toBool_84
    | some b4 =>
      have hb4 : oT κ.2.2.2.2 b4 = 6 := tx3 b4 rfl
      refine lv_ifnull C.x C.b dX0_toBool_47 ?_
      refine lv_iconst (v := 1) C.x C.b dX0_toBool_50 (by decide +kernel) ?_
      refine lv_goto (tgt := 55) C.x C.b dX0_toBool_51 (by decide) ?_
      refine lv_istore_n (lv' := [(1, .int 1), (0, .ref k0)]) C.x C.b dX0_toBool_55 rfl hl (by decide) rfl (fun ls hl => ?_)
      refine lv_iload_n C.x C.b dX0_toBool_56 rfl (lv_at hl 0 rfl) ?_
      refine lv_if_ne (tgt := 76) C.x C.b dX0_toBool_57 (by decide) (fun _ => ?_) (fun c23 => absurd c23 (by decide +kernel))
      refine lv_iconst (v := 1) C.x C.b dX0_toBool_76 (by decide +kernel) ?_
      refine lv_goto (tgt := 81) C.x C.b dX0_toBool_77 (by decide) ?_
      refine c_callSq (C2 := "") (b := 0) (n := 1) (As := [.int 1]) (rest := []) C hP hS hl.1 (NX10_ofBool l D cy ad A sz0 sa κ s.heap.size (SLT s.heap) C.f (fun q h => C.a q (Nat.le_trans hS.1 h)) (1 : Int32) hPV) ⟨cw_80, cw_82, by decide +kernel⟩ ⟨cw_81, cw_40⟩ rfl rfl (lv_room (Nat.le_of_ble_eq_true rfl)) ⟨Nat.le_of_ble_eq_true rfl, Nat.le_of_ble_eq_true rfl⟩ ⟨(Nat.le_of_ble_eq_true rfl), (Nat.le_of_ble_eq_true rfl)⟩ dX0_toBool_81 (fun r24 u H locs hr24 hP hS => ?_)
      obtain ⟨P25, rfl⟩ : ∃ z, z = u := ⟨_, rfl⟩
      have hP : CH D cy ad A (tP κ P25) H := hP
      obtain ⟨hr24, hr24y⟩ := hr24
      have hr24y : ∀ q7 q8 : Nat → Option Nat, VALq P25 sa q7 q8 (r24.getD 0) (qBool (decide (¬ (1 : Int32).toInt = 0))) := hr24y
      have hr24 : (EX κ.2.2.2.2 P25) ∧ (PV sa P25) ∧ (KPx True κ.2.2.2.2 P25) ∧ (NN P25 1 r24) := hr24
      obtain ⟨hr24_0, hr24_1, hr24_2, hr24_3⟩ := hr24
      have kpz26 : KPx True κ.2.2.2.2 P25 := KPx.rf.trans hr24_2
      obtain ⟨b27, rfl, tb27⟩ := hr24_3
      exact c_retq (v := (some b27)) (Or.inl ⟨_, rfl⟩) C hsz hsl P25 ⟨⟨hr24_0, hr24_1, kpz26, (nt_s tb27)⟩, (vX0_toBool_4 sa κ k0 x1 b4 P25 b27 ht0 hPV ex1 c2 ex3 hr24_0 hr24_2 hr24y)⟩ hP hS ⟨(Nat.le_of_ble_eq_true rfl), (Nat.le_of_ble_eq_true rfl)⟩ ⟨(Nat.le_of_ble_eq_true rfl), (Nat.le_of_ble_eq_true rfl)⟩ dX0_toBool_84
  · have c2 : x1.toInt = 4 := by have h := z_eq c2; rw [show (4 : Int32).toInt = 4 from by decide +kernel] at h; exact h
    refine lv_aload_n C.x C.b dX0_toBool_8 rfl (lv_at hl 0 rfl) ?_
    obtain ⟨x28, ex28, hx28⟩ := (hPV.t1 ht0).1
    refine pg_X10_3 (v := some x28) C hP (t20 (a := k0) (t := 1) ht0) ex28 cw_65 dX0_toBool_9 ?_
    refine va_ldcS C.x C.b C.o C.t.1 dX0_toBool_12 ?_
    refine c_callVi (n := 1) (As := [.ref (sa 400)]) (rest := []) C hP hS hl.1 (NJ0_equals_9ea2d l D cy ad A sz0 sa κ s.heap.size (SLT s.heap) C.f (fun q h => C.a q (Nat.le_trans hS.1 h)) x28 (sa 400) hx28 (SOK.any (P := κ.2.2.2.2) (sa := sa) (c := (sa 400)) (by unfold KC; simp)) hPV) ⟨cw_67, cw_71, by decide +kernel⟩ ⟨cw_68, cw_69, cw_70⟩ rfl (c_srecv C hP hS hx28) rfl rfl (lv_room (Nat.le_of_ble_eq_true rfl)) ⟨Nat.le_of_ble_eq_true rfl, Nat.le_of_ble_eq_true rfl⟩ ⟨(Nat.le_of_ble_eq_true rfl), (Nat.le_of_ble_eq_true rfl)⟩ dX0_toBool_14 (fun r29 u H locs hr29 hP hS => ?_)
    obtain ⟨hr29, hr29y⟩ := hr29
    have hr29y : ∀ s9 t9 : List Int, TXq κ.2.2.2.2 sa x28 s9 → TXq κ.2.2.2.2 sa (sa 400) t9 → (r29.toInt = 0 → ¬ s9 = t9) ∧ (¬ r29.toInt = 0 → s9 = t9) := hr29y
    have hr29 : (0 ≤ r29.toInt ∧ r29.toInt ≤ 1) := hr29
    obtain ⟨hr29_0, hr29_1⟩ := hr29
    refine lv_istore_n (lv' := [(1, .int r29), (0, .ref k0)]) C.x C.b dX0_toBool_17 rfl hl (by decide) rfl (fun ls hl => ?_)
    refine lv_iload_n C.x C.b dX0_toBool_18 rfl (lv_at hl 0 rfl) ?_
    refine lv_if_ne (tgt := 34) C.x C.b dX0_toBool_19 (by decide) (fun c30 => ?_) (fun c30 => ?_)
    · have c30 : ¬ r29.toInt = 0 := by have h := z_ne c30; rw [show (0 : Int32).toInt = 0 from by decide +kernel] at h; exact h
      refine lv_iload_n C.x C.b dX0_toBool_34 rfl (lv_at hl 0 rfl) ?_
      refine c_callSq (C2 := "") (b := 0) (n := 1) (As := [.int r29]) (rest := []) C hP hS hl.1 (NX10_ofBool l D cy ad A sz0 sa κ H.size (SLT H) C.f (fun q h => C.a q (Nat.le_trans hS.1 h)) r29 hPV) ⟨cw_80, cw_82, by decide +kernel⟩ ⟨cw_81, cw_40⟩ rfl rfl (lv_room (Nat.le_of_ble_eq_true rfl)) ⟨Nat.le_of_ble_eq_true rfl, Nat.le_of_ble_eq_true rfl⟩ ⟨(Nat.le_of_ble_eq_true rfl), (Nat.le_of_ble_eq_true rfl)⟩ dX0_toBool_35 (fun r31 u H locs hr31 hP hS => ?_)
      obtain ⟨P32, rfl⟩ : ∃ z, z = u := ⟨_, rfl⟩
      have hP : CH D cy ad A (tP κ P32) H := hP
      obtain ⟨hr31, hr31y⟩ := hr31
      have hr31y : ∀ q7 q8 : Nat → Option Nat, VALq P32 sa q7 q8 (r31.getD 0) (qBool (decide (¬ r29.toInt = 0))) := hr31y
      have hr31 : (EX κ.2.2.2.2 P32) ∧ (PV sa P32) ∧ (KPx True κ.2.2.2.2 P32) ∧ (NN P32 1 r31) := hr31
      obtain ⟨hr31_0, hr31_1, hr31_2, hr31_3⟩ := hr31
      have kpz33 : KPx True κ.2.2.2.2 P32 := KPx.rf.trans hr31_2
      obtain ⟨b34, rfl, tb34⟩ := hr31_3
      refine lv_goto (tgt := 42) C.x C.b dX0_toBool_38 (by decide) ?_
      exact c_retq (v := (some b34)) (Or.inl ⟨_, rfl⟩) C hsz hsl P32 ⟨⟨hr31_0, hr31_1, kpz33, (nt_s tb34)⟩, (vX0_toBool_5 sa κ k0 x1 x28 r29 P32 b34 ht0 hPV ex1 c2 ex28 hr29y hr29_0 hr29_1 c30 hr31_0 hr31_2 hr31y)⟩ hP hS ⟨(Nat.le_of_ble_eq_true rfl), (Nat.le_of_ble_eq_true rfl)⟩ ⟨(Nat.le_of_ble_eq_true rfl), (Nat.le_of_ble_eq_true rfl)⟩ dX0_toBool_42
    · have c30 : r29.toInt = 0 := by have h := z_eq c30; rw [show (0 : Int32).toInt = 0 from by decide +kernel] at h; exact h
      refine lv_aload_n C.x C.b dX0_toBool_22 rfl (lv_at hl 1 rfl) ?_
      refine pg_X10_3 (v := (some x28)) C hP (t20 (a := k0) (t := 1) ht0) ex28 cw_65 dX0_toBool_23 ?_
      refine va_ldcS C.x C.b C.o C.t.2.1 dX0_toBool_26 ?_
      refine c_callVi (n := 1) (As := [.ref (sa 401)]) (rest := []) C hP hS hl.1 (NJ0_equals_9ea2d l D cy ad A sz0 sa κ H.size (SLT H) C.f (fun q h => C.a q (Nat.le_trans hS.1 h)) x28 (sa 401) hx28 (SOK.any (P := κ.2.2.2.2) (sa := sa) (c := (sa 401)) (by unfold KC; simp)) hPV) ⟨cw_67, cw_71, by decide +kernel⟩ ⟨cw_68, cw_69, cw_70⟩ rfl (c_srecv C hP hS hx28) rfl rfl (lv_room (Nat.le_of_ble_eq_true rfl)) ⟨Nat.le_of_ble_eq_true rfl, Nat.le_of_ble_eq_true rfl⟩ ⟨(Nat.le_of_ble_eq_true rfl), (Nat.le_of_ble_eq_true rfl)⟩ dX0_toBool_28 (fun r35 u H locs hr35 hP hS => ?_)
      obtain ⟨hr35, hr35y⟩ := hr35
      have hr35y : ∀ s9 t9 : List Int, TXq κ.2.2.2.2 sa x28 s9 → TXq κ.2.2.2.2 sa (sa 401) t9 → (r35.toInt = 0 → ¬ s9 = t9) ∧ (¬ r35.toInt = 0 → s9 = t9) := hr35y
      have hr35 : (0 ≤ r35.toInt ∧ r35.toInt ≤ 1) := hr35
      obtain ⟨hr35_0, hr35_1⟩ := hr35
      refine lv_if_eq (tgt := 41) C.x C.b dX0_toBool_31 (by decide) (fun c36 => ?_) (fun c36 => ?_)
      · have c36 : r35.toInt = 0 := by have h := z_eq c36; rw [show (0 : Int32).toInt = 0 from by decide +kernel] at h; exact h
        refine lv_null C.x C.b dX0_toBool_41 ?_
        have hP : CH D cy ad A (tP κ κ.2.2.2.2) H := CH.cong hP rfl rfl rfl rfl rfl rfl rfl rfl rfl rfl rfl rfl rfl rfl rfl rfl rfl rfl rfl rfl rfl rfl rfl rfl rfl rfl rfl
        exact c_retq (v := none) (Or.inl ⟨_, rfl⟩) C hsz hsl κ.2.2.2.2 ⟨⟨EX.rf, hPV, KPx.rf, nt_n⟩, (vX0_toBool_6 sa κ k0 x1 x28 r29 r35 ht0 hPV ex1 c2 ex28 hr29y hr29_0 hr29_1 c30 hr35y hr35_0 hr35_1 c36)⟩ hP hS ⟨(Nat.le_of_ble_eq_true rfl), (Nat.le_of_ble_eq_true rfl)⟩ ⟨(Nat.le_of_ble_eq_true rfl), (Nat.le_of_ble_eq_true rfl)⟩ dX0_toBool_42
      · have c36 : ¬ r35.toInt = 0 := by have h := z_ne c36; rw [show (0 : Int32).toInt = 0 from by decide +kernel] at h; exact h
        refine lv_iload_n C.x C.b dX0_toBool_34 rfl (lv_at hl 0 rfl) ?_
        refine c_callSq (C2 := "") (b := 0) (n := 1) (As := [.int r29]) (rest := []) C hP hS hl.1 (NX10_ofBool l D cy ad A sz0 sa κ H.size (SLT H) C.f (fun q h => C.a q (Nat.le_trans hS.1 h)) r29 hPV) ⟨cw_80, cw_82, by decide +kernel⟩ ⟨cw_81, cw_40⟩ rfl rfl (lv_room (Nat.le_of_ble_eq_true rfl)) ⟨Nat.le_of_ble_eq_true rfl, Nat.le_of_ble_eq_true rfl⟩ ⟨(Nat.le_of_ble_eq_true rfl), (Nat.le_of_ble_eq_true rfl)⟩ dX0_toBool_35 (fun r37 u H locs hr37 hP hS => ?_)
        obtain ⟨P38, rfl⟩ : ∃ z, z = u := ⟨_, rfl⟩
        have hP : CH D cy ad A (tP κ P38) H := hP
        obtain ⟨hr37, hr37y⟩ := hr37
        have hr37y : ∀ q7 q8 : Nat → Option Nat, VALq P38 sa q7 q8 (r37.getD 0) (qBool (decide (¬ r29.toInt = 0))) := hr37y
        have hr37 : (EX κ.2.2.2.2 P38) ∧ (PV sa P38) ∧ (KPx True κ.2.2.2.2 P38) ∧ (NN P38 1 r37) := hr37
        obtain ⟨hr37_0, hr37_1, hr37_2, hr37_3⟩ := hr37
        have kpz39 : KPx True κ.2.2.2.2 P38 := KPx.rf.trans hr37_2
        obtain ⟨b40, rfl, tb40⟩ := hr37_3
        refine lv_goto (tgt := 42) C.x C.b dX0_toBool_38 (by decide) ?_
        exact c_retq (v := (some b40)) (Or.inl ⟨_, rfl⟩) C hsz hsl P38 ⟨⟨hr37_0, hr37_1, kpz39, (nt_s tb40)⟩, (vX0_toBool_7 sa κ k0 x1 x28 r29 r35 P38 b40 ht0 hPV ex1 c2 ex28 hr29y hr29_0 hr29_1 c30 hr35y hr35_0 hr35_1 c36 hr37_0 hr37_2 hr37y)⟩ hP hS ⟨(Nat.le_of_ble_eq_true rfl), (Nat.le_of_ble_eq_true rfl)⟩ ⟨(Nat.le_of_ble_eq_true rfl), (Nat.le_of_ble_eq_true rfl)⟩ dX0_toBool_42

-- nw@60 @60
theorem vX0_toInt_1 (n4 : Nat) (r5 : Int32) (x8 : Int32) (len4 : n4 ≤ 40) (hr5 : r5.toInt = ((n4 : Nat) : Int)) (c6 : r5.toInt ≤ 0) (ex8 : x8 = r5 - (0 : Int32)) : x8.toInt = r5.toInt - 0 := by
  have q0 : (0 : Int32).toInt = 0 := by decide +kernel
  have w1 : (0 : Int32).toInt = 0 := by decide +kernel
  rw [ex8, z_sub (by omega) (by omega)]; first | done | omega
-- post2 @75
theorem vX0_toInt_2 (sa : Nat → Nat) (κ : KS) (k0 : Nat) (x1 : Int32) (x3 : Nat) (n4 : Nat) (r5 : Int32) (x8 : Int32) (ht0 : oT κ.2.2.2.2 k0 = 1) (hPV : PV sa κ.2.2.2.2) (ex1 : oI κ.2.2.2.2 0 k0 = x1) (c2 : x1.toInt = 4) (ex3 : oR κ.2.2.2.2 0 k0 = some x3) (len4 : n4 ≤ 40) (hr5y : ∀ s9 : List Int, TXq κ.2.2.2.2 sa x3 s9 → r5.toInt = (s9.length : Int)) (hr5 : r5.toInt = ((n4 : Nat) : Int)) (c6 : r5.toInt ≤ 0) (ex8 : x8 = r5 - (0 : Int32)) (tx8 : x8.toInt = r5.toInt - 0) (c9 : x8.toInt < 1) : ∀ (q7 q8 : Nat → Option Nat) (v : QV), VALq κ.2.2.2.2 sa q7 q8 k0 v → (none = (none : Option Nat) → qCvI v = none) ∧ (∀ x, none = some x → ∃ m : Int32, qCvI v = some m.toInt ∧ VALq κ.2.2.2.2 sa q7 q8 x (qInt m)) := by
  have q0 : (0 : Int32).toInt = 0 := by decide +kernel
  intro q7 q8 v h
  have k := h.k9
  rw [ex1] at k
  have z0 : (0 : Int32).toInt = 0 := by decide
  have z1 : (1 : Int32).toInt = 1 := by decide
  obtain ⟨cc, w6, w7⟩ := h.2.2.2.2.2.1
  rw [ex3] at w6
  obtain rfl := Option.some.inj w6
  have L := hr5y _ w7
  have ch := h.q9.2.2.2.2.2.2.1
  have hh : ¬ v.2.2.1.head? = some 45 := q_head0 (by omega)
  have J : INL v.2.2.1 0 0 0 0 := INL.start (by decide) (Or.inr ⟨rfl, by omega⟩) rfl rfl
  exact ⟨fun _ => (q_cvt9 (by omega)).trans (QI.none9 (r := 0) (J.fin0 hh (Or.inr rfl) (fun e => absurd e (by decide)) (Or.inr ⟨rfl, rfl⟩))), fun x e => (by cases e)⟩
-- nw@68 @68
theorem vX0_toInt_3 (n4 : Nat) (r5 : Int32) (x8 : Int32) (x10 : Int32) (len4 : n4 ≤ 40) (hr5 : r5.toInt = ((n4 : Nat) : Int)) (c6 : r5.toInt ≤ 0) (ex8 : x8 = r5 - (0 : Int32)) (tx8 : x8.toInt = r5.toInt - 0) (c9 : 1 ≤ x8.toInt) (ex10 : x10 = r5 - (0 : Int32)) : x10.toInt = r5.toInt - 0 := by
  have q0 : (0 : Int32).toInt = 0 := by decide +kernel
  have w1 : (0 : Int32).toInt = 0 := by decide +kernel
  rw [ex10, z_sub (by omega) (by omega)]; first | done | omega
-- init@83 @83
theorem vX0_toInt_4   : 0 ≤ (0 : Int32).toInt := by
  have q0 : (0 : Int32).toInt = 0 := by decide +kernel
  first | assumption | omega | (subst_vars; omega) | trivial
-- init2@83 @83
theorem vX0_toInt_5 (sa : Nat → Nat) (κ : KS) (k0 : Nat) (x1 : Int32) (x3 : Nat) (n4 : Nat) (r5 : Int32) (x8 : Int32) (x10 : Int32) (ht0 : oT κ.2.2.2.2 k0 = 1) (hPV : PV sa κ.2.2.2.2) (ex1 : oI κ.2.2.2.2 0 k0 = x1) (c2 : x1.toInt = 4) (ex3 : oR κ.2.2.2.2 0 k0 = some x3) (len4 : n4 ≤ 40) (hr5y : ∀ s9 : List Int, TXq κ.2.2.2.2 sa x3 s9 → r5.toInt = (s9.length : Int)) (hr5 : r5.toInt = ((n4 : Nat) : Int)) (c6 : r5.toInt ≤ 0) (ex8 : x8 = r5 - (0 : Int32)) (tx8 : x8.toInt = r5.toInt - 0) (c9 : 1 ≤ x8.toInt) (ex10 : x10 = r5 - (0 : Int32)) (tx10 : x10.toInt = r5.toInt - 0) (c11 : x10.toInt ≤ 9) : ∀ (q7 q8 : Nat → Option Nat) (v : QV), VALq κ.2.2.2.2 sa q7 q8 k0 v → v.1 = 4 ∧ INL v.2.2.1 (0 : Int32).toInt (0 : Int32).toInt (0 : Int32).toInt 1 := by
  have q0 : (0 : Int32).toInt = 0 := by decide +kernel
  intro q7 q8 v h
  have k := h.k9
  rw [ex1] at k
  have z0 : (0 : Int32).toInt = 0 := by decide
  have z1 : (1 : Int32).toInt = 1 := by decide
  obtain ⟨cc, w6, w7⟩ := h.2.2.2.2.2.1
  rw [ex3] at w6
  obtain rfl := Option.some.inj w6
  have L := hr5y _ w7
  have ch := h.q9.2.2.2.2.2.2.1
  have hh : ¬ v.2.2.1.head? = some 45 := q_head0 (by omega)
  exact ⟨by omega, INL.start (by omega) (Or.inl ⟨rfl, by omega, by omega⟩) (by decide) rfl⟩
-- post2 @147
theorem vX0_toInt_6 (sa : Nat → Nat) (κ : KS) (k0 : Nat) (x1 : Int32) (x3 : Nat) (n4 : Nat) (r5 : Int32) (x8 : Int32) (x10 : Int32) (y12 : Int32) (y13 : Int32) (P17 : PL) (b19 : Nat) (ht0 : oT κ.2.2.2.2 k0 = 1) (hPV : PV sa κ.2.2.2.2) (ex1 : oI κ.2.2.2.2 0 k0 = x1) (c2 : x1.toInt = 4) (ex3 : oR κ.2.2.2.2 0 k0 = some x3) (len4 : n4 ≤ 40) (hr5y : ∀ s9 : List Int, TXq κ.2.2.2.2 sa x3 s9 → r5.toInt = (s9.length : Int)) (hr5 : r5.toInt = ((n4 : Nat) : Int)) (c6 : r5.toInt ≤ 0) (ex8 : x8 = r5 - (0 : Int32)) (tx8 : x8.toInt = r5.toInt - 0) (c9 : 1 ≤ x8.toInt) (ex10 : x10 = r5 - (0 : Int32)) (tx10 : x10.toInt = r5.toInt - 0) (c11 : x10.toInt ≤ 9) (hi83 : 0 ≤ y13.toInt) (hi83y : ∀ (q7 q8 : Nat → Option Nat) (v : QV), VALq κ.2.2.2.2 sa q7 q8 k0 v → v.1 = 4 ∧ INL v.2.2.1 (0 : Int32).toInt y12.toInt y13.toInt 1) (c14 : r5.toInt ≤ y13.toInt) (hr16_0 : EX κ.2.2.2.2 P17) (hr16_2 : KPx True κ.2.2.2.2 P17) (hr16y : ∀ q7 q8 : Nat → Option Nat, VALq P17 sa q7 q8 b19 (qInt y12)) : ∀ (q7 q8 : Nat → Option Nat) (v : QV), VALq κ.2.2.2.2 sa q7 q8 k0 v → ((some b19) = (none : Option Nat) → qCvI v = none) ∧ (∀ x, (some b19) = some x → ∃ m : Int32, qCvI v = some m.toInt ∧ VALq P17 sa q7 q8 x (qInt m)) := by
  have q0 : (0 : Int32).toInt = 0 := by decide +kernel
  intro q7 q8 v h
  have k := h.k9
  rw [ex1] at k
  have z0 : (0 : Int32).toInt = 0 := by decide
  have z1 : (1 : Int32).toInt = 1 := by decide
  obtain ⟨cc, w6, w7⟩ := h.2.2.2.2.2.1
  rw [ex3] at w6
  obtain rfl := Option.some.inj w6
  have L := hr5y _ w7
  have ch := h.q9.2.2.2.2.2.2.1
  have hh : ¬ v.2.2.1.head? = some 45 := q_head0 (by omega)
  obtain ⟨h4, I⟩ := hi83y q7 q8 v h
  rw [z0] at I
  have vb := I.vb9 (by decide) (by decide)
  refine ⟨fun e => (by cases e), fun x e => ?_⟩
  obtain rfl := Option.some.inj e
  exact ⟨y12, (q_cvt9 h4).trans (QI.some9 (I.fin0 hh (Or.inl (by omega)) (fun _ => rfl) (Or.inl ⟨rfl, rfl⟩))), hr16y q7 q8⟩
-- pre:J0_charAt_5068e@92 @92
theorem vX0_toInt_7 (n4 : Nat) (r5 : Int32) (x8 : Int32) (x10 : Int32) (y13 : Int32) (len4 : n4 ≤ 40) (hr5 : r5.toInt = ((n4 : Nat) : Int)) (c6 : r5.toInt ≤ 0) (ex8 : x8 = r5 - (0 : Int32)) (tx8 : x8.toInt = r5.toInt - 0) (c9 : 1 ≤ x8.toInt) (ex10 : x10 = r5 - (0 : Int32)) (tx10 : x10.toInt = r5.toInt - 0) (c11 : x10.toInt ≤ 9) (hi83 : 0 ≤ y13.toInt) (c14 : y13.toInt < r5.toInt) : 0 ≤ y13.toInt ∧ y13.toInt < ((n4 : Nat) : Int) := by
  have q0 : (0 : Int32).toInt = 0 := by decide +kernel
  refine ⟨?_, ?_⟩ <;> first | assumption | omega | (subst_vars; omega) | trivial
-- post2 @112
theorem vX0_toInt_8 (sa : Nat → Nat) (κ : KS) (k0 : Nat) (x1 : Int32) (x3 : Nat) (n4 : Nat) (r5 : Int32) (x8 : Int32) (x10 : Int32) (y12 : Int32) (y13 : Int32) (r20 : Int32) (ht0 : oT κ.2.2.2.2 k0 = 1) (hPV : PV sa κ.2.2.2.2) (ex1 : oI κ.2.2.2.2 0 k0 = x1) (c2 : x1.toInt = 4) (ex3 : oR κ.2.2.2.2 0 k0 = some x3) (len4 : n4 ≤ 40) (hr5y : ∀ s9 : List Int, TXq κ.2.2.2.2 sa x3 s9 → r5.toInt = (s9.length : Int)) (hr5 : r5.toInt = ((n4 : Nat) : Int)) (c6 : r5.toInt ≤ 0) (ex8 : x8 = r5 - (0 : Int32)) (tx8 : x8.toInt = r5.toInt - 0) (c9 : 1 ≤ x8.toInt) (ex10 : x10 = r5 - (0 : Int32)) (tx10 : x10.toInt = r5.toInt - 0) (c11 : x10.toInt ≤ 9) (hi83 : 0 ≤ y13.toInt) (hi83y : ∀ (q7 q8 : Nat → Option Nat) (v : QV), VALq κ.2.2.2.2 sa q7 q8 k0 v → v.1 = 4 ∧ INL v.2.2.1 (0 : Int32).toInt y12.toInt y13.toInt 1) (c14 : y13.toInt < r5.toInt) (hr20y : ∀ s9 : List Int, TXq κ.2.2.2.2 sa x3 s9 → CHS s9 → r20.toInt = s9.getD y13.toInt.toNat 0) (hr20_0 : 0 ≤ r20.toInt) (hr20_1 : r20.toInt ≤ 65535) (c21 : r20.toInt < 48) : ∀ (q7 q8 : Nat → Option Nat) (v : QV), VALq κ.2.2.2.2 sa q7 q8 k0 v → (none = (none : Option Nat) → qCvI v = none) ∧ (∀ x, none = some x → ∃ m : Int32, qCvI v = some m.toInt ∧ VALq κ.2.2.2.2 sa q7 q8 x (qInt m)) := by
  have q0 : (0 : Int32).toInt = 0 := by decide +kernel
  intro q7 q8 v h
  have k := h.k9
  rw [ex1] at k
  have z0 : (0 : Int32).toInt = 0 := by decide
  have z1 : (1 : Int32).toInt = 1 := by decide
  obtain ⟨cc, w6, w7⟩ := h.2.2.2.2.2.1
  rw [ex3] at w6
  obtain rfl := Option.some.inj w6
  have L := hr5y _ w7
  have ch := h.q9.2.2.2.2.2.2.1
  have hh : ¬ v.2.2.1.head? = some 45 := q_head0 (by omega)
  obtain ⟨h4, I⟩ := hi83y q7 q8 v h
  rw [z0] at I
  have D := hr20y _ w7 ch
  have J := I.step (g2 := 0) (v2 := 0) (by decide) (by decide) (by omega) rfl (Or.inr ⟨rfl, by rw [← D]; omega⟩) (fun e => absurd e (by decide))
  exact ⟨fun _ => (q_cvt9 (by omega)).trans (QI.none9 (r := 0) (J.fin0 hh (Or.inr rfl) (fun e => absurd e (by decide)) (Or.inr ⟨rfl, rfl⟩))), fun x e => (by cases e)⟩
-- nw@126 @126
theorem vX0_toInt_9 (n4 : Nat) (r5 : Int32) (x8 : Int32) (x10 : Int32) (y13 : Int32) (x26 : Int32) (len4 : n4 ≤ 40) (hr5 : r5.toInt = ((n4 : Nat) : Int)) (c6 : r5.toInt ≤ 0) (ex8 : x8 = r5 - (0 : Int32)) (tx8 : x8.toInt = r5.toInt - 0) (c9 : 1 ≤ x8.toInt) (ex10 : x10 = r5 - (0 : Int32)) (tx10 : x10.toInt = r5.toInt - 0) (c11 : x10.toInt ≤ 9) (hi83 : 0 ≤ y13.toInt) (c14 : y13.toInt < r5.toInt) (ex26 : x26 = y13 + (1 : Int32)) : x26.toInt = y13.toInt + 1 := by
  have q0 : (0 : Int32).toInt = 0 := by decide +kernel
  have q1 : (1 : Int32).toInt = 1 := by decide +kernel
  have z9 : (1 : Int32).toInt = 1 := by decide +kernel
  rw [ex26, z_add (by omega) (by omega)]; first | done | omega
-- inv@83 @83
theorem vX0_toInt_10 (n4 : Nat) (r5 : Int32) (x8 : Int32) (x10 : Int32) (y13 : Int32) (x26 : Int32) (len4 : n4 ≤ 40) (hr5 : r5.toInt = ((n4 : Nat) : Int)) (c6 : r5.toInt ≤ 0) (ex8 : x8 = r5 - (0 : Int32)) (tx8 : x8.toInt = r5.toInt - 0) (c9 : 1 ≤ x8.toInt) (ex10 : x10 = r5 - (0 : Int32)) (tx10 : x10.toInt = r5.toInt - 0) (c11 : x10.toInt ≤ 9) (hi83 : 0 ≤ y13.toInt) (c14 : y13.toInt < r5.toInt) (ex26 : x26 = y13 + (1 : Int32)) (tx26 : x26.toInt = y13.toInt + 1) : 0 ≤ x26.toInt := by
  have q0 : (0 : Int32).toInt = 0 := by decide +kernel
  have q1 : (1 : Int32).toInt = 1 := by decide +kernel
  first | assumption | omega | (subst_vars; omega) | trivial
-- inv2@83 @83
theorem vX0_toInt_11 (sa : Nat → Nat) (κ : KS) (k0 : Nat) (x1 : Int32) (x3 : Nat) (n4 : Nat) (r5 : Int32) (x8 : Int32) (x10 : Int32) (y12 : Int32) (y13 : Int32) (r20 : Int32) (x23 : Int32) (x24 : Int32) (x25 : Int32) (x26 : Int32) (ht0 : oT κ.2.2.2.2 k0 = 1) (hPV : PV sa κ.2.2.2.2) (ex1 : oI κ.2.2.2.2 0 k0 = x1) (c2 : x1.toInt = 4) (ex3 : oR κ.2.2.2.2 0 k0 = some x3) (len4 : n4 ≤ 40) (hr5y : ∀ s9 : List Int, TXq κ.2.2.2.2 sa x3 s9 → r5.toInt = (s9.length : Int)) (hr5 : r5.toInt = ((n4 : Nat) : Int)) (c6 : r5.toInt ≤ 0) (ex8 : x8 = r5 - (0 : Int32)) (tx8 : x8.toInt = r5.toInt - 0) (c9 : 1 ≤ x8.toInt) (ex10 : x10 = r5 - (0 : Int32)) (tx10 : x10.toInt = r5.toInt - 0) (c11 : x10.toInt ≤ 9) (hi83 : 0 ≤ y13.toInt) (hi83y : ∀ (q7 q8 : Nat → Option Nat) (v : QV), VALq κ.2.2.2.2 sa q7 q8 k0 v → v.1 = 4 ∧ INL v.2.2.1 (0 : Int32).toInt y12.toInt y13.toInt 1) (c14 : y13.toInt < r5.toInt) (hr20y : ∀ s9 : List Int, TXq κ.2.2.2.2 sa x3 s9 → CHS s9 → r20.toInt = s9.getD y13.toInt.toNat 0) (hr20_0 : 0 ≤ r20.toInt) (hr20_1 : r20.toInt ≤ 65535) (c21 : 48 ≤ r20.toInt) (c22 : r20.toInt ≤ 57) (ex23 : x23 = y12 * (10 : Int32)) (ex24 : x24 = r20 - (48 : Int32)) (ex25 : x25 = x23 + x24) (ex26 : x26 = y13 + (1 : Int32)) (tx26 : x26.toInt = y13.toInt + 1) : ∀ (q7 q8 : Nat → Option Nat) (v : QV), VALq κ.2.2.2.2 sa q7 q8 k0 v → v.1 = 4 ∧ INL v.2.2.1 (0 : Int32).toInt x25.toInt x26.toInt 1 := by
  have q0 : (0 : Int32).toInt = 0 := by decide +kernel
  have q1 : (1 : Int32).toInt = 1 := by decide +kernel
  have q10 : (10 : Int32).toInt = 10 := by decide +kernel
  have q48 : (48 : Int32).toInt = 48 := by decide +kernel
  intro q7 q8 v h
  have k := h.k9
  rw [ex1] at k
  have z0 : (0 : Int32).toInt = 0 := by decide
  have z1 : (1 : Int32).toInt = 1 := by decide
  obtain ⟨cc, w6, w7⟩ := h.2.2.2.2.2.1
  rw [ex3] at w6
  obtain rfl := Option.some.inj w6
  have L := hr5y _ w7
  have ch := h.q9.2.2.2.2.2.2.1
  have hh : ¬ v.2.2.1.head? = some 45 := q_head0 (by omega)
  obtain ⟨h4, I⟩ := hi83y q7 q8 v h
  rw [z0] at I
  have D := hr20y _ w7 ch
  have vb := I.vb (by decide) (by decide) (by omega)
  have w48 : (48 : Int32).toInt = 48 := by decide
  have ea : x23.toInt = 10 * y12.toInt := by rw [ex23, Int32.mul_comm]; exact z_mulc 10 (by decide) (by omega) (by omega)
  have eb : x24.toInt = r20.toInt - 48 := by rw [ex24, z_sub (by omega) (by omega), w48]
  have ec : x25.toInt = x23.toInt + x24.toInt := by rw [ex25, z_add (by omega) (by omega)]
  rw [z0]
  exact ⟨h4, I.step (by decide) (by decide) (by omega) (by omega) (Or.inl ⟨rfl, by rw [← D]; omega, by rw [← D]; omega⟩) (fun _ => by rw [← D]; omega)⟩
-- meas@83 @83
theorem vX0_toInt_12 (n4 : Nat) (r5 : Int32) (x8 : Int32) (x10 : Int32) (y13 : Int32) (x26 : Int32) (len4 : n4 ≤ 40) (hr5 : r5.toInt = ((n4 : Nat) : Int)) (c6 : r5.toInt ≤ 0) (ex8 : x8 = r5 - (0 : Int32)) (tx8 : x8.toInt = r5.toInt - 0) (c9 : 1 ≤ x8.toInt) (ex10 : x10 = r5 - (0 : Int32)) (tx10 : x10.toInt = r5.toInt - 0) (c11 : x10.toInt ≤ 9) (hi83 : 0 ≤ y13.toInt) (c14 : y13.toInt < r5.toInt) (ex26 : x26 = y13 + (1 : Int32)) (tx26 : x26.toInt = y13.toInt + 1) : (r5.toInt - x26.toInt).toNat < (r5.toInt - y13.toInt).toNat := by
  have q0 : (0 : Int32).toInt = 0 := by decide +kernel
  have q1 : (1 : Int32).toInt = 1 := by decide +kernel
  first | assumption | omega | (subst_vars; omega) | trivial
-- post2 @112
theorem vX0_toInt_13 (sa : Nat → Nat) (κ : KS) (k0 : Nat) (x1 : Int32) (x3 : Nat) (n4 : Nat) (r5 : Int32) (x8 : Int32) (x10 : Int32) (y12 : Int32) (y13 : Int32) (r20 : Int32) (ht0 : oT κ.2.2.2.2 k0 = 1) (hPV : PV sa κ.2.2.2.2) (ex1 : oI κ.2.2.2.2 0 k0 = x1) (c2 : x1.toInt = 4) (ex3 : oR κ.2.2.2.2 0 k0 = some x3) (len4 : n4 ≤ 40) (hr5y : ∀ s9 : List Int, TXq κ.2.2.2.2 sa x3 s9 → r5.toInt = (s9.length : Int)) (hr5 : r5.toInt = ((n4 : Nat) : Int)) (c6 : r5.toInt ≤ 0) (ex8 : x8 = r5 - (0 : Int32)) (tx8 : x8.toInt = r5.toInt - 0) (c9 : 1 ≤ x8.toInt) (ex10 : x10 = r5 - (0 : Int32)) (tx10 : x10.toInt = r5.toInt - 0) (c11 : x10.toInt ≤ 9) (hi83 : 0 ≤ y13.toInt) (hi83y : ∀ (q7 q8 : Nat → Option Nat) (v : QV), VALq κ.2.2.2.2 sa q7 q8 k0 v → v.1 = 4 ∧ INL v.2.2.1 (0 : Int32).toInt y12.toInt y13.toInt 1) (c14 : y13.toInt < r5.toInt) (hr20y : ∀ s9 : List Int, TXq κ.2.2.2.2 sa x3 s9 → CHS s9 → r20.toInt = s9.getD y13.toInt.toNat 0) (hr20_0 : 0 ≤ r20.toInt) (hr20_1 : r20.toInt ≤ 65535) (c21 : 48 ≤ r20.toInt) (c22 : 57 < r20.toInt) : ∀ (q7 q8 : Nat → Option Nat) (v : QV), VALq κ.2.2.2.2 sa q7 q8 k0 v → (none = (none : Option Nat) → qCvI v = none) ∧ (∀ x, none = some x → ∃ m : Int32, qCvI v = some m.toInt ∧ VALq κ.2.2.2.2 sa q7 q8 x (qInt m)) := by
  have q0 : (0 : Int32).toInt = 0 := by decide +kernel
  intro q7 q8 v h
  have k := h.k9
  rw [ex1] at k
  have z0 : (0 : Int32).toInt = 0 := by decide
  have z1 : (1 : Int32).toInt = 1 := by decide
  obtain ⟨cc, w6, w7⟩ := h.2.2.2.2.2.1
  rw [ex3] at w6
  obtain rfl := Option.some.inj w6
  have L := hr5y _ w7
  have ch := h.q9.2.2.2.2.2.2.1
  have hh : ¬ v.2.2.1.head? = some 45 := q_head0 (by omega)
  obtain ⟨h4, I⟩ := hi83y q7 q8 v h
  rw [z0] at I
  have D := hr20y _ w7 ch
  have J := I.step (g2 := 0) (v2 := 0) (by decide) (by decide) (by omega) rfl (Or.inr ⟨rfl, by rw [← D]; omega⟩) (fun e => absurd e (by decide))
  exact ⟨fun _ => (q_cvt9 (by omega)).trans (QI.none9 (r := 0) (J.fin0 hh (Or.inr rfl) (fun e => absurd e (by decide)) (Or.inr ⟨rfl, rfl⟩))), fun x e => (by cases e)⟩
-- post2 @75
theorem vX0_toInt_14 (sa : Nat → Nat) (κ : KS) (k0 : Nat) (x1 : Int32) (x3 : Nat) (n4 : Nat) (r5 : Int32) (x8 : Int32) (x10 : Int32) (ht0 : oT κ.2.2.2.2 k0 = 1) (hPV : PV sa κ.2.2.2.2) (ex1 : oI κ.2.2.2.2 0 k0 = x1) (c2 : x1.toInt = 4) (ex3 : oR κ.2.2.2.2 0 k0 = some x3) (len4 : n4 ≤ 40) (hr5y : ∀ s9 : List Int, TXq κ.2.2.2.2 sa x3 s9 → r5.toInt = (s9.length : Int)) (hr5 : r5.toInt = ((n4 : Nat) : Int)) (c6 : r5.toInt ≤ 0) (ex8 : x8 = r5 - (0 : Int32)) (tx8 : x8.toInt = r5.toInt - 0) (c9 : 1 ≤ x8.toInt) (ex10 : x10 = r5 - (0 : Int32)) (tx10 : x10.toInt = r5.toInt - 0) (c11 : 9 < x10.toInt) : ∀ (q7 q8 : Nat → Option Nat) (v : QV), VALq κ.2.2.2.2 sa q7 q8 k0 v → (none = (none : Option Nat) → qCvI v = none) ∧ (∀ x, none = some x → ∃ m : Int32, qCvI v = some m.toInt ∧ VALq κ.2.2.2.2 sa q7 q8 x (qInt m)) := by
  have q0 : (0 : Int32).toInt = 0 := by decide +kernel
  intro q7 q8 v h
  have k := h.k9
  rw [ex1] at k
  have z0 : (0 : Int32).toInt = 0 := by decide
  have z1 : (1 : Int32).toInt = 1 := by decide
  obtain ⟨cc, w6, w7⟩ := h.2.2.2.2.2.1
  rw [ex3] at w6
  obtain rfl := Option.some.inj w6
  have L := hr5y _ w7
  have ch := h.q9.2.2.2.2.2.2.1
  have hh : ¬ v.2.2.1.head? = some 45 := q_head0 (by omega)
  have J : INL v.2.2.1 0 0 0 0 := INL.start (by decide) (Or.inr ⟨rfl, by omega⟩) rfl rfl
  exact ⟨fun _ => (q_cvt9 (by omega)).trans (QI.none9 (r := 0) (J.fin0 hh (Or.inr rfl) (fun e => absurd e (by decide)) (Or.inr ⟨rfl, rfl⟩))), fun x e => (by cases e)⟩
-- pre:J0_charAt_5068e@32 @32
theorem vX0_toInt_15 (n4 : Nat) (r5 : Int32) (len4 : n4 ≤ 40) (hr5 : r5.toInt = ((n4 : Nat) : Int)) (c6 : 0 < r5.toInt) : 0 ≤ (0 : Int32).toInt ∧ (0 : Int32).toInt < ((n4 : Nat) : Int) := by
  have q0 : (0 : Int32).toInt = 0 := by decide +kernel
  refine ⟨?_, ?_⟩ <;> first | assumption | omega | (subst_vars; omega) | trivial
-- nw@60 @60
theorem vX0_toInt_16 (n4 : Nat) (r5 : Int32) (x30 : Int32) (len4 : n4 ≤ 40) (hr5 : r5.toInt = ((n4 : Nat) : Int)) (c6 : 0 < r5.toInt) (ex30 : x30 = r5 - (0 : Int32)) : x30.toInt = r5.toInt - 0 := by
  have q0 : (0 : Int32).toInt = 0 := by decide +kernel
  have w1 : (0 : Int32).toInt = 0 := by decide +kernel
  rw [ex30, z_sub (by omega) (by omega)]; first | done | omega
-- post2 @75
theorem vX0_toInt_17 (sa : Nat → Nat) (κ : KS) (k0 : Nat) (x1 : Int32) (x3 : Nat) (n4 : Nat) (r5 : Int32) (r27 : Int32) (x30 : Int32) (ht0 : oT κ.2.2.2.2 k0 = 1) (hPV : PV sa κ.2.2.2.2) (ex1 : oI κ.2.2.2.2 0 k0 = x1) (c2 : x1.toInt = 4) (ex3 : oR κ.2.2.2.2 0 k0 = some x3) (len4 : n4 ≤ 40) (hr5y : ∀ s9 : List Int, TXq κ.2.2.2.2 sa x3 s9 → r5.toInt = (s9.length : Int)) (hr5 : r5.toInt = ((n4 : Nat) : Int)) (c6 : 0 < r5.toInt) (hr27y : ∀ s9 : List Int, TXq κ.2.2.2.2 sa x3 s9 → CHS s9 → r27.toInt = s9.getD (0 : Int32).toInt.toNat 0) (hr27_0 : 0 ≤ r27.toInt) (hr27_1 : r27.toInt ≤ 65535) (c28 : ¬ r27.toInt = 45) (ex30 : x30 = r5 - (0 : Int32)) (tx30 : x30.toInt = r5.toInt - 0) (c31 : x30.toInt < 1) : ∀ (q7 q8 : Nat → Option Nat) (v : QV), VALq κ.2.2.2.2 sa q7 q8 k0 v → (none = (none : Option Nat) → qCvI v = none) ∧ (∀ x, none = some x → ∃ m : Int32, qCvI v = some m.toInt ∧ VALq κ.2.2.2.2 sa q7 q8 x (qInt m)) := by
  have q0 : (0 : Int32).toInt = 0 := by decide +kernel
  intro q7 q8 v h
  have k := h.k9
  rw [ex1] at k
  have z0 : (0 : Int32).toInt = 0 := by decide
  have z1 : (1 : Int32).toInt = 1 := by decide
  obtain ⟨cc, w6, w7⟩ := h.2.2.2.2.2.1
  rw [ex3] at w6
  obtain rfl := Option.some.inj w6
  have L := hr5y _ w7
  have ch := h.q9.2.2.2.2.2.2.1
  have hd := hr27y _ w7 ch
  rw [show (0 : Int32).toInt.toNat = 0 by decide] at hd
  have hh : ¬ v.2.2.1.head? = some 45 := by
    rw [q_head (by omega), ← hd]
    intro e
    have := Option.some.inj e
    omega
  have J : INL v.2.2.1 0 0 0 0 := INL.start (by decide) (Or.inr ⟨rfl, by omega⟩) rfl rfl
  exact ⟨fun _ => (q_cvt9 (by omega)).trans (QI.none9 (r := 0) (J.fin0 hh (Or.inr rfl) (fun e => absurd e (by decide)) (Or.inr ⟨rfl, rfl⟩))), fun x e => (by cases e)⟩
-- nw@68 @68
theorem vX0_toInt_18 (n4 : Nat) (r5 : Int32) (x30 : Int32) (x32 : Int32) (len4 : n4 ≤ 40) (hr5 : r5.toInt = ((n4 : Nat) : Int)) (c6 : 0 < r5.toInt) (ex30 : x30 = r5 - (0 : Int32)) (tx30 : x30.toInt = r5.toInt - 0) (c31 : 1 ≤ x30.toInt) (ex32 : x32 = r5 - (0 : Int32)) : x32.toInt = r5.toInt - 0 := by
  have q0 : (0 : Int32).toInt = 0 := by decide +kernel
  have w1 : (0 : Int32).toInt = 0 := by decide +kernel
  rw [ex32, z_sub (by omega) (by omega)]; first | done | omega
-- init2@83 @83
theorem vX0_toInt_19 (sa : Nat → Nat) (κ : KS) (k0 : Nat) (x1 : Int32) (x3 : Nat) (n4 : Nat) (r5 : Int32) (r27 : Int32) (x30 : Int32) (x32 : Int32) (ht0 : oT κ.2.2.2.2 k0 = 1) (hPV : PV sa κ.2.2.2.2) (ex1 : oI κ.2.2.2.2 0 k0 = x1) (c2 : x1.toInt = 4) (ex3 : oR κ.2.2.2.2 0 k0 = some x3) (len4 : n4 ≤ 40) (hr5y : ∀ s9 : List Int, TXq κ.2.2.2.2 sa x3 s9 → r5.toInt = (s9.length : Int)) (hr5 : r5.toInt = ((n4 : Nat) : Int)) (c6 : 0 < r5.toInt) (hr27y : ∀ s9 : List Int, TXq κ.2.2.2.2 sa x3 s9 → CHS s9 → r27.toInt = s9.getD (0 : Int32).toInt.toNat 0) (hr27_0 : 0 ≤ r27.toInt) (hr27_1 : r27.toInt ≤ 65535) (c28 : ¬ r27.toInt = 45) (ex30 : x30 = r5 - (0 : Int32)) (tx30 : x30.toInt = r5.toInt - 0) (c31 : 1 ≤ x30.toInt) (ex32 : x32 = r5 - (0 : Int32)) (tx32 : x32.toInt = r5.toInt - 0) (c33 : x32.toInt ≤ 9) : ∀ (q7 q8 : Nat → Option Nat) (v : QV), VALq κ.2.2.2.2 sa q7 q8 k0 v → v.1 = 4 ∧ INL v.2.2.1 (0 : Int32).toInt (0 : Int32).toInt (0 : Int32).toInt 1 := by
  have q0 : (0 : Int32).toInt = 0 := by decide +kernel
  intro q7 q8 v h
  have k := h.k9
  rw [ex1] at k
  have z0 : (0 : Int32).toInt = 0 := by decide
  have z1 : (1 : Int32).toInt = 1 := by decide
  obtain ⟨cc, w6, w7⟩ := h.2.2.2.2.2.1
  rw [ex3] at w6
  obtain rfl := Option.some.inj w6
  have L := hr5y _ w7
  have ch := h.q9.2.2.2.2.2.2.1
  have hd := hr27y _ w7 ch
  rw [show (0 : Int32).toInt.toNat = 0 by decide] at hd
  have hh : ¬ v.2.2.1.head? = some 45 := by
    rw [q_head (by omega), ← hd]
    intro e
    have := Option.some.inj e
    omega
  exact ⟨by omega, INL.start (by omega) (Or.inl ⟨rfl, by omega, by omega⟩) (by decide) rfl⟩
-- post2 @147
theorem vX0_toInt_20 (sa : Nat → Nat) (κ : KS) (k0 : Nat) (x1 : Int32) (x3 : Nat) (n4 : Nat) (r5 : Int32) (r27 : Int32) (x30 : Int32) (x32 : Int32) (y34 : Int32) (y35 : Int32) (P39 : PL) (b41 : Nat) (ht0 : oT κ.2.2.2.2 k0 = 1) (hPV : PV sa κ.2.2.2.2) (ex1 : oI κ.2.2.2.2 0 k0 = x1) (c2 : x1.toInt = 4) (ex3 : oR κ.2.2.2.2 0 k0 = some x3) (len4 : n4 ≤ 40) (hr5y : ∀ s9 : List Int, TXq κ.2.2.2.2 sa x3 s9 → r5.toInt = (s9.length : Int)) (hr5 : r5.toInt = ((n4 : Nat) : Int)) (c6 : 0 < r5.toInt) (hr27y : ∀ s9 : List Int, TXq κ.2.2.2.2 sa x3 s9 → CHS s9 → r27.toInt = s9.getD (0 : Int32).toInt.toNat 0) (hr27_0 : 0 ≤ r27.toInt) (hr27_1 : r27.toInt ≤ 65535) (c28 : ¬ r27.toInt = 45) (ex30 : x30 = r5 - (0 : Int32)) (tx30 : x30.toInt = r5.toInt - 0) (c31 : 1 ≤ x30.toInt) (ex32 : x32 = r5 - (0 : Int32)) (tx32 : x32.toInt = r5.toInt - 0) (c33 : x32.toInt ≤ 9) (hi83 : 0 ≤ y35.toInt) (hi83y : ∀ (q7 q8 : Nat → Option Nat) (v : QV), VALq κ.2.2.2.2 sa q7 q8 k0 v → v.1 = 4 ∧ INL v.2.2.1 (0 : Int32).toInt y34.toInt y35.toInt 1) (c36 : r5.toInt ≤ y35.toInt) (hr38_0 : EX κ.2.2.2.2 P39) (hr38_2 : KPx True κ.2.2.2.2 P39) (hr38y : ∀ q7 q8 : Nat → Option Nat, VALq P39 sa q7 q8 b41 (qInt y34)) : ∀ (q7 q8 : Nat → Option Nat) (v : QV), VALq κ.2.2.2.2 sa q7 q8 k0 v → ((some b41) = (none : Option Nat) → qCvI v = none) ∧ (∀ x, (some b41) = some x → ∃ m : Int32, qCvI v = some m.toInt ∧ VALq P39 sa q7 q8 x (qInt m)) := by
  have q0 : (0 : Int32).toInt = 0 := by decide +kernel
  intro q7 q8 v h
  have k := h.k9
  rw [ex1] at k
  have z0 : (0 : Int32).toInt = 0 := by decide
  have z1 : (1 : Int32).toInt = 1 := by decide
  obtain ⟨cc, w6, w7⟩ := h.2.2.2.2.2.1
  rw [ex3] at w6
  obtain rfl := Option.some.inj w6
  have L := hr5y _ w7
  have ch := h.q9.2.2.2.2.2.2.1
  have hd := hr27y _ w7 ch
  rw [show (0 : Int32).toInt.toNat = 0 by decide] at hd
  have hh : ¬ v.2.2.1.head? = some 45 := by
    rw [q_head (by omega), ← hd]
    intro e
    have := Option.some.inj e
    omega
  obtain ⟨h4, I⟩ := hi83y q7 q8 v h
  rw [z0] at I
  have vb := I.vb9 (by decide) (by decide)
  refine ⟨fun e => (by cases e), fun x e => ?_⟩
  obtain rfl := Option.some.inj e
  exact ⟨y34, (q_cvt9 h4).trans (QI.some9 (I.fin0 hh (Or.inl (by omega)) (fun _ => rfl) (Or.inl ⟨rfl, rfl⟩))), hr38y q7 q8⟩
-- pre:J0_charAt_5068e@92 @92
theorem vX0_toInt_21 (n4 : Nat) (r5 : Int32) (x30 : Int32) (x32 : Int32) (y35 : Int32) (len4 : n4 ≤ 40) (hr5 : r5.toInt = ((n4 : Nat) : Int)) (c6 : 0 < r5.toInt) (ex30 : x30 = r5 - (0 : Int32)) (tx30 : x30.toInt = r5.toInt - 0) (c31 : 1 ≤ x30.toInt) (ex32 : x32 = r5 - (0 : Int32)) (tx32 : x32.toInt = r5.toInt - 0) (c33 : x32.toInt ≤ 9) (hi83 : 0 ≤ y35.toInt) (c36 : y35.toInt < r5.toInt) : 0 ≤ y35.toInt ∧ y35.toInt < ((n4 : Nat) : Int) := by
  have q0 : (0 : Int32).toInt = 0 := by decide +kernel
  refine ⟨?_, ?_⟩ <;> first | assumption | omega | (subst_vars; omega) | trivial
-- post2 @112
theorem vX0_toInt_22 (sa : Nat → Nat) (κ : KS) (k0 : Nat) (x1 : Int32) (x3 : Nat) (n4 : Nat) (r5 : Int32) (r27 : Int32) (x30 : Int32) (x32 : Int32) (y34 : Int32) (y35 : Int32) (r42 : Int32) (ht0 : oT κ.2.2.2.2 k0 = 1) (hPV : PV sa κ.2.2.2.2) (ex1 : oI κ.2.2.2.2 0 k0 = x1) (c2 : x1.toInt = 4) (ex3 : oR κ.2.2.2.2 0 k0 = some x3) (len4 : n4 ≤ 40) (hr5y : ∀ s9 : List Int, TXq κ.2.2.2.2 sa x3 s9 → r5.toInt = (s9.length : Int)) (hr5 : r5.toInt = ((n4 : Nat) : Int)) (c6 : 0 < r5.toInt) (hr27y : ∀ s9 : List Int, TXq κ.2.2.2.2 sa x3 s9 → CHS s9 → r27.toInt = s9.getD (0 : Int32).toInt.toNat 0) (hr27_0 : 0 ≤ r27.toInt) (hr27_1 : r27.toInt ≤ 65535) (c28 : ¬ r27.toInt = 45) (ex30 : x30 = r5 - (0 : Int32)) (tx30 : x30.toInt = r5.toInt - 0) (c31 : 1 ≤ x30.toInt) (ex32 : x32 = r5 - (0 : Int32)) (tx32 : x32.toInt = r5.toInt - 0) (c33 : x32.toInt ≤ 9) (hi83 : 0 ≤ y35.toInt) (hi83y : ∀ (q7 q8 : Nat → Option Nat) (v : QV), VALq κ.2.2.2.2 sa q7 q8 k0 v → v.1 = 4 ∧ INL v.2.2.1 (0 : Int32).toInt y34.toInt y35.toInt 1) (c36 : y35.toInt < r5.toInt) (hr42y : ∀ s9 : List Int, TXq κ.2.2.2.2 sa x3 s9 → CHS s9 → r42.toInt = s9.getD y35.toInt.toNat 0) (hr42_0 : 0 ≤ r42.toInt) (hr42_1 : r42.toInt ≤ 65535) (c43 : r42.toInt < 48) : ∀ (q7 q8 : Nat → Option Nat) (v : QV), VALq κ.2.2.2.2 sa q7 q8 k0 v → (none = (none : Option Nat) → qCvI v = none) ∧ (∀ x, none = some x → ∃ m : Int32, qCvI v = some m.toInt ∧ VALq κ.2.2.2.2 sa q7 q8 x (qInt m)) := by
  have q0 : (0 : Int32).toInt = 0 := by decide +kernel
  intro q7 q8 v h
  have k := h.k9
  rw [ex1] at k
  have z0 : (0 : Int32).toInt = 0 := by decide
  have z1 : (1 : Int32).toInt = 1 := by decide
  obtain ⟨cc, w6, w7⟩ := h.2.2.2.2.2.1
  rw [ex3] at w6
  obtain rfl := Option.some.inj w6
  have L := hr5y _ w7
  have ch := h.q9.2.2.2.2.2.2.1
  have hd := hr27y _ w7 ch
  rw [show (0 : Int32).toInt.toNat = 0 by decide] at hd
  have hh : ¬ v.2.2.1.head? = some 45 := by
    rw [q_head (by omega), ← hd]
    intro e
    have := Option.some.inj e
    omega
  obtain ⟨h4, I⟩ := hi83y q7 q8 v h
  rw [z0] at I
  have D := hr42y _ w7 ch
  have J := I.step (g2 := 0) (v2 := 0) (by decide) (by decide) (by omega) rfl (Or.inr ⟨rfl, by rw [← D]; omega⟩) (fun e => absurd e (by decide))
  exact ⟨fun _ => (q_cvt9 (by omega)).trans (QI.none9 (r := 0) (J.fin0 hh (Or.inr rfl) (fun e => absurd e (by decide)) (Or.inr ⟨rfl, rfl⟩))), fun x e => (by cases e)⟩
-- nw@126 @126
theorem vX0_toInt_23 (n4 : Nat) (r5 : Int32) (x30 : Int32) (x32 : Int32) (y35 : Int32) (x48 : Int32) (len4 : n4 ≤ 40) (hr5 : r5.toInt = ((n4 : Nat) : Int)) (c6 : 0 < r5.toInt) (ex30 : x30 = r5 - (0 : Int32)) (tx30 : x30.toInt = r5.toInt - 0) (c31 : 1 ≤ x30.toInt) (ex32 : x32 = r5 - (0 : Int32)) (tx32 : x32.toInt = r5.toInt - 0) (c33 : x32.toInt ≤ 9) (hi83 : 0 ≤ y35.toInt) (c36 : y35.toInt < r5.toInt) (ex48 : x48 = y35 + (1 : Int32)) : x48.toInt = y35.toInt + 1 := by
  have q0 : (0 : Int32).toInt = 0 := by decide +kernel
  have q1 : (1 : Int32).toInt = 1 := by decide +kernel
  have z9 : (1 : Int32).toInt = 1 := by decide +kernel
  rw [ex48, z_add (by omega) (by omega)]; first | done | omega
-- inv@83 @83
theorem vX0_toInt_24 (n4 : Nat) (r5 : Int32) (x30 : Int32) (x32 : Int32) (y35 : Int32) (x48 : Int32) (len4 : n4 ≤ 40) (hr5 : r5.toInt = ((n4 : Nat) : Int)) (c6 : 0 < r5.toInt) (ex30 : x30 = r5 - (0 : Int32)) (tx30 : x30.toInt = r5.toInt - 0) (c31 : 1 ≤ x30.toInt) (ex32 : x32 = r5 - (0 : Int32)) (tx32 : x32.toInt = r5.toInt - 0) (c33 : x32.toInt ≤ 9) (hi83 : 0 ≤ y35.toInt) (c36 : y35.toInt < r5.toInt) (ex48 : x48 = y35 + (1 : Int32)) (tx48 : x48.toInt = y35.toInt + 1) : 0 ≤ x48.toInt := by
  have q0 : (0 : Int32).toInt = 0 := by decide +kernel
  have q1 : (1 : Int32).toInt = 1 := by decide +kernel
  first | assumption | omega | (subst_vars; omega) | trivial
-- inv2@83 @83
theorem vX0_toInt_25 (sa : Nat → Nat) (κ : KS) (k0 : Nat) (x1 : Int32) (x3 : Nat) (n4 : Nat) (r5 : Int32) (r27 : Int32) (x30 : Int32) (x32 : Int32) (y34 : Int32) (y35 : Int32) (r42 : Int32) (x45 : Int32) (x46 : Int32) (x47 : Int32) (x48 : Int32) (ht0 : oT κ.2.2.2.2 k0 = 1) (hPV : PV sa κ.2.2.2.2) (ex1 : oI κ.2.2.2.2 0 k0 = x1) (c2 : x1.toInt = 4) (ex3 : oR κ.2.2.2.2 0 k0 = some x3) (len4 : n4 ≤ 40) (hr5y : ∀ s9 : List Int, TXq κ.2.2.2.2 sa x3 s9 → r5.toInt = (s9.length : Int)) (hr5 : r5.toInt = ((n4 : Nat) : Int)) (c6 : 0 < r5.toInt) (hr27y : ∀ s9 : List Int, TXq κ.2.2.2.2 sa x3 s9 → CHS s9 → r27.toInt = s9.getD (0 : Int32).toInt.toNat 0) (hr27_0 : 0 ≤ r27.toInt) (hr27_1 : r27.toInt ≤ 65535) (c28 : ¬ r27.toInt = 45) (ex30 : x30 = r5 - (0 : Int32)) (tx30 : x30.toInt = r5.toInt - 0) (c31 : 1 ≤ x30.toInt) (ex32 : x32 = r5 - (0 : Int32)) (tx32 : x32.toInt = r5.toInt - 0) (c33 : x32.toInt ≤ 9) (hi83 : 0 ≤ y35.toInt) (hi83y : ∀ (q7 q8 : Nat → Option Nat) (v : QV), VALq κ.2.2.2.2 sa q7 q8 k0 v → v.1 = 4 ∧ INL v.2.2.1 (0 : Int32).toInt y34.toInt y35.toInt 1) (c36 : y35.toInt < r5.toInt) (hr42y : ∀ s9 : List Int, TXq κ.2.2.2.2 sa x3 s9 → CHS s9 → r42.toInt = s9.getD y35.toInt.toNat 0) (hr42_0 : 0 ≤ r42.toInt) (hr42_1 : r42.toInt ≤ 65535) (c43 : 48 ≤ r42.toInt) (c44 : r42.toInt ≤ 57) (ex45 : x45 = y34 * (10 : Int32)) (ex46 : x46 = r42 - (48 : Int32)) (ex47 : x47 = x45 + x46) (ex48 : x48 = y35 + (1 : Int32)) (tx48 : x48.toInt = y35.toInt + 1) : ∀ (q7 q8 : Nat → Option Nat) (v : QV), VALq κ.2.2.2.2 sa q7 q8 k0 v → v.1 = 4 ∧ INL v.2.2.1 (0 : Int32).toInt x47.toInt x48.toInt 1 := by
  have q0 : (0 : Int32).toInt = 0 := by decide +kernel
  have q1 : (1 : Int32).toInt = 1 := by decide +kernel
  have q10 : (10 : Int32).toInt = 10 := by decide +kernel
  have q48 : (48 : Int32).toInt = 48 := by decide +kernel
  intro q7 q8 v h
  have k := h.k9
  rw [ex1] at k
  have z0 : (0 : Int32).toInt = 0 := by decide
  have z1 : (1 : Int32).toInt = 1 := by decide
  obtain ⟨cc, w6, w7⟩ := h.2.2.2.2.2.1
  rw [ex3] at w6
  obtain rfl := Option.some.inj w6
  have L := hr5y _ w7
  have ch := h.q9.2.2.2.2.2.2.1
  have hd := hr27y _ w7 ch
  rw [show (0 : Int32).toInt.toNat = 0 by decide] at hd
  have hh : ¬ v.2.2.1.head? = some 45 := by
    rw [q_head (by omega), ← hd]
    intro e
    have := Option.some.inj e
    omega
  obtain ⟨h4, I⟩ := hi83y q7 q8 v h
  rw [z0] at I
  have D := hr42y _ w7 ch
  have vb := I.vb (by decide) (by decide) (by omega)
  have w48 : (48 : Int32).toInt = 48 := by decide
  have ea : x45.toInt = 10 * y34.toInt := by rw [ex45, Int32.mul_comm]; exact z_mulc 10 (by decide) (by omega) (by omega)
  have eb : x46.toInt = r42.toInt - 48 := by rw [ex46, z_sub (by omega) (by omega), w48]
  have ec : x47.toInt = x45.toInt + x46.toInt := by rw [ex47, z_add (by omega) (by omega)]
  rw [z0]
  exact ⟨h4, I.step (by decide) (by decide) (by omega) (by omega) (Or.inl ⟨rfl, by rw [← D]; omega, by rw [← D]; omega⟩) (fun _ => by rw [← D]; omega)⟩
-- meas@83 @83
theorem vX0_toInt_26 (n4 : Nat) (r5 : Int32) (x30 : Int32) (x32 : Int32) (y35 : Int32) (x48 : Int32) (len4 : n4 ≤ 40) (hr5 : r5.toInt = ((n4 : Nat) : Int)) (c6 : 0 < r5.toInt) (ex30 : x30 = r5 - (0 : Int32)) (tx30 : x30.toInt = r5.toInt - 0) (c31 : 1 ≤ x30.toInt) (ex32 : x32 = r5 - (0 : Int32)) (tx32 : x32.toInt = r5.toInt - 0) (c33 : x32.toInt ≤ 9) (hi83 : 0 ≤ y35.toInt) (c36 : y35.toInt < r5.toInt) (ex48 : x48 = y35 + (1 : Int32)) (tx48 : x48.toInt = y35.toInt + 1) : (r5.toInt - x48.toInt).toNat < (r5.toInt - y35.toInt).toNat := by
  have q0 : (0 : Int32).toInt = 0 := by decide +kernel
  have q1 : (1 : Int32).toInt = 1 := by decide +kernel
  first | assumption | omega | (subst_vars; omega) | trivial
-- post2 @112
theorem vX0_toInt_27 (sa : Nat → Nat) (κ : KS) (k0 : Nat) (x1 : Int32) (x3 : Nat) (n4 : Nat) (r5 : Int32) (r27 : Int32) (x30 : Int32) (x32 : Int32) (y34 : Int32) (y35 : Int32) (r42 : Int32) (ht0 : oT κ.2.2.2.2 k0 = 1) (hPV : PV sa κ.2.2.2.2) (ex1 : oI κ.2.2.2.2 0 k0 = x1) (c2 : x1.toInt = 4) (ex3 : oR κ.2.2.2.2 0 k0 = some x3) (len4 : n4 ≤ 40) (hr5y : ∀ s9 : List Int, TXq κ.2.2.2.2 sa x3 s9 → r5.toInt = (s9.length : Int)) (hr5 : r5.toInt = ((n4 : Nat) : Int)) (c6 : 0 < r5.toInt) (hr27y : ∀ s9 : List Int, TXq κ.2.2.2.2 sa x3 s9 → CHS s9 → r27.toInt = s9.getD (0 : Int32).toInt.toNat 0) (hr27_0 : 0 ≤ r27.toInt) (hr27_1 : r27.toInt ≤ 65535) (c28 : ¬ r27.toInt = 45) (ex30 : x30 = r5 - (0 : Int32)) (tx30 : x30.toInt = r5.toInt - 0) (c31 : 1 ≤ x30.toInt) (ex32 : x32 = r5 - (0 : Int32)) (tx32 : x32.toInt = r5.toInt - 0) (c33 : x32.toInt ≤ 9) (hi83 : 0 ≤ y35.toInt) (hi83y : ∀ (q7 q8 : Nat → Option Nat) (v : QV), VALq κ.2.2.2.2 sa q7 q8 k0 v → v.1 = 4 ∧ INL v.2.2.1 (0 : Int32).toInt y34.toInt y35.toInt 1) (c36 : y35.toInt < r5.toInt) (hr42y : ∀ s9 : List Int, TXq κ.2.2.2.2 sa x3 s9 → CHS s9 → r42.toInt = s9.getD y35.toInt.toNat 0) (hr42_0 : 0 ≤ r42.toInt) (hr42_1 : r42.toInt ≤ 65535) (c43 : 48 ≤ r42.toInt) (c44 : 57 < r42.toInt) : ∀ (q7 q8 : Nat → Option Nat) (v : QV), VALq κ.2.2.2.2 sa q7 q8 k0 v → (none = (none : Option Nat) → qCvI v = none) ∧ (∀ x, none = some x → ∃ m : Int32, qCvI v = some m.toInt ∧ VALq κ.2.2.2.2 sa q7 q8 x (qInt m)) := by
  have q0 : (0 : Int32).toInt = 0 := by decide +kernel
  intro q7 q8 v h
  have k := h.k9
  rw [ex1] at k
  have z0 : (0 : Int32).toInt = 0 := by decide
  have z1 : (1 : Int32).toInt = 1 := by decide
  obtain ⟨cc, w6, w7⟩ := h.2.2.2.2.2.1
  rw [ex3] at w6
  obtain rfl := Option.some.inj w6
  have L := hr5y _ w7
  have ch := h.q9.2.2.2.2.2.2.1
  have hd := hr27y _ w7 ch
  rw [show (0 : Int32).toInt.toNat = 0 by decide] at hd
  have hh : ¬ v.2.2.1.head? = some 45 := by
    rw [q_head (by omega), ← hd]
    intro e
    have := Option.some.inj e
    omega
  obtain ⟨h4, I⟩ := hi83y q7 q8 v h
  rw [z0] at I
  have D := hr42y _ w7 ch
  have J := I.step (g2 := 0) (v2 := 0) (by decide) (by decide) (by omega) rfl (Or.inr ⟨rfl, by rw [← D]; omega⟩) (fun e => absurd e (by decide))
  exact ⟨fun _ => (q_cvt9 (by omega)).trans (QI.none9 (r := 0) (J.fin0 hh (Or.inr rfl) (fun e => absurd e (by decide)) (Or.inr ⟨rfl, rfl⟩))), fun x e => (by cases e)⟩
-- post2 @75
theorem vX0_toInt_28 (sa : Nat → Nat) (κ : KS) (k0 : Nat) (x1 : Int32) (x3 : Nat) (n4 : Nat) (r5 : Int32) (r27 : Int32) (x30 : Int32) (x32 : Int32) (ht0 : oT κ.2.2.2.2 k0 = 1) (hPV : PV sa κ.2.2.2.2) (ex1 : oI κ.2.2.2.2 0 k0 = x1) (c2 : x1.toInt = 4) (ex3 : oR κ.2.2.2.2 0 k0 = some x3) (len4 : n4 ≤ 40) (hr5y : ∀ s9 : List Int, TXq κ.2.2.2.2 sa x3 s9 → r5.toInt = (s9.length : Int)) (hr5 : r5.toInt = ((n4 : Nat) : Int)) (c6 : 0 < r5.toInt) (hr27y : ∀ s9 : List Int, TXq κ.2.2.2.2 sa x3 s9 → CHS s9 → r27.toInt = s9.getD (0 : Int32).toInt.toNat 0) (hr27_0 : 0 ≤ r27.toInt) (hr27_1 : r27.toInt ≤ 65535) (c28 : ¬ r27.toInt = 45) (ex30 : x30 = r5 - (0 : Int32)) (tx30 : x30.toInt = r5.toInt - 0) (c31 : 1 ≤ x30.toInt) (ex32 : x32 = r5 - (0 : Int32)) (tx32 : x32.toInt = r5.toInt - 0) (c33 : 9 < x32.toInt) : ∀ (q7 q8 : Nat → Option Nat) (v : QV), VALq κ.2.2.2.2 sa q7 q8 k0 v → (none = (none : Option Nat) → qCvI v = none) ∧ (∀ x, none = some x → ∃ m : Int32, qCvI v = some m.toInt ∧ VALq κ.2.2.2.2 sa q7 q8 x (qInt m)) := by
  have q0 : (0 : Int32).toInt = 0 := by decide +kernel
  intro q7 q8 v h
  have k := h.k9
  rw [ex1] at k
  have z0 : (0 : Int32).toInt = 0 := by decide
  have z1 : (1 : Int32).toInt = 1 := by decide
  obtain ⟨cc, w6, w7⟩ := h.2.2.2.2.2.1
  rw [ex3] at w6
  obtain rfl := Option.some.inj w6
  have L := hr5y _ w7
  have ch := h.q9.2.2.2.2.2.2.1
  have hd := hr27y _ w7 ch
  rw [show (0 : Int32).toInt.toNat = 0 by decide] at hd
  have hh : ¬ v.2.2.1.head? = some 45 := by
    rw [q_head (by omega), ← hd]
    intro e
    have := Option.some.inj e
    omega
  have J : INL v.2.2.1 0 0 0 0 := INL.start (by decide) (Or.inr ⟨rfl, by omega⟩) rfl rfl
  exact ⟨fun _ => (q_cvt9 (by omega)).trans (QI.none9 (r := 0) (J.fin0 hh (Or.inr rfl) (fun e => absurd e (by decide)) (Or.inr ⟨rfl, rfl⟩))), fun x e => (by cases e)⟩
-- nw@60 @60
theorem vX0_toInt_29 (n4 : Nat) (r5 : Int32) (x50 : Int32) (len4 : n4 ≤ 40) (hr5 : r5.toInt = ((n4 : Nat) : Int)) (c6 : 0 < r5.toInt) (ex50 : x50 = r5 - (1 : Int32)) : x50.toInt = r5.toInt - 1 := by
  have q1 : (1 : Int32).toInt = 1 := by decide +kernel
  have w1 : (1 : Int32).toInt = 1 := by decide +kernel
  rw [ex50, z_sub (by omega) (by omega)]; first | done | omega
-- post2 @75
theorem vX0_toInt_30 (sa : Nat → Nat) (κ : KS) (k0 : Nat) (x1 : Int32) (x3 : Nat) (n4 : Nat) (r5 : Int32) (r27 : Int32) (x50 : Int32) (ht0 : oT κ.2.2.2.2 k0 = 1) (hPV : PV sa κ.2.2.2.2) (ex1 : oI κ.2.2.2.2 0 k0 = x1) (c2 : x1.toInt = 4) (ex3 : oR κ.2.2.2.2 0 k0 = some x3) (len4 : n4 ≤ 40) (hr5y : ∀ s9 : List Int, TXq κ.2.2.2.2 sa x3 s9 → r5.toInt = (s9.length : Int)) (hr5 : r5.toInt = ((n4 : Nat) : Int)) (c6 : 0 < r5.toInt) (hr27y : ∀ s9 : List Int, TXq κ.2.2.2.2 sa x3 s9 → CHS s9 → r27.toInt = s9.getD (0 : Int32).toInt.toNat 0) (hr27_0 : 0 ≤ r27.toInt) (hr27_1 : r27.toInt ≤ 65535) (c28 : r27.toInt = 45) (ex50 : x50 = r5 - (1 : Int32)) (tx50 : x50.toInt = r5.toInt - 1) (c51 : x50.toInt < 1) : ∀ (q7 q8 : Nat → Option Nat) (v : QV), VALq κ.2.2.2.2 sa q7 q8 k0 v → (none = (none : Option Nat) → qCvI v = none) ∧ (∀ x, none = some x → ∃ m : Int32, qCvI v = some m.toInt ∧ VALq κ.2.2.2.2 sa q7 q8 x (qInt m)) := by
  have q0 : (0 : Int32).toInt = 0 := by decide +kernel
  have q1 : (1 : Int32).toInt = 1 := by decide +kernel
  intro q7 q8 v h
  have k := h.k9
  rw [ex1] at k
  have z0 : (0 : Int32).toInt = 0 := by decide
  have z1 : (1 : Int32).toInt = 1 := by decide
  obtain ⟨cc, w6, w7⟩ := h.2.2.2.2.2.1
  rw [ex3] at w6
  obtain rfl := Option.some.inj w6
  have L := hr5y _ w7
  have ch := h.q9.2.2.2.2.2.2.1
  have hd := hr27y _ w7 ch
  rw [show (0 : Int32).toInt.toNat = 0 by decide] at hd
  have hh : v.2.2.1.head? = some 45 := by rw [q_head (by omega), ← hd, c28]
  have J : INL v.2.2.1 1 0 1 0 := INL.start (by decide) (Or.inr ⟨rfl, by omega⟩) rfl rfl
  exact ⟨fun _ => (q_cvt9 (by omega)).trans (QI.none9 (r := 0) (J.fin1 hh (Or.inr rfl) (fun e => absurd e (by decide)) (Or.inr ⟨rfl, rfl⟩))), fun x e => (by cases e)⟩
-- nw@68 @68
theorem vX0_toInt_31 (n4 : Nat) (r5 : Int32) (x50 : Int32) (x52 : Int32) (len4 : n4 ≤ 40) (hr5 : r5.toInt = ((n4 : Nat) : Int)) (c6 : 0 < r5.toInt) (ex50 : x50 = r5 - (1 : Int32)) (tx50 : x50.toInt = r5.toInt - 1) (c51 : 1 ≤ x50.toInt) (ex52 : x52 = r5 - (1 : Int32)) : x52.toInt = r5.toInt - 1 := by
  have q1 : (1 : Int32).toInt = 1 := by decide +kernel
  have w1 : (1 : Int32).toInt = 1 := by decide +kernel
  rw [ex52, z_sub (by omega) (by omega)]; first | done | omega
-- init@83 @83
theorem vX0_toInt_32   : 0 ≤ (1 : Int32).toInt := by
  have q1 : (1 : Int32).toInt = 1 := by decide +kernel
  first | assumption | omega | (subst_vars; omega) | trivial
-- init2@83 @83
theorem vX0_toInt_33 (sa : Nat → Nat) (κ : KS) (k0 : Nat) (x1 : Int32) (x3 : Nat) (n4 : Nat) (r5 : Int32) (r27 : Int32) (x50 : Int32) (x52 : Int32) (ht0 : oT κ.2.2.2.2 k0 = 1) (hPV : PV sa κ.2.2.2.2) (ex1 : oI κ.2.2.2.2 0 k0 = x1) (c2 : x1.toInt = 4) (ex3 : oR κ.2.2.2.2 0 k0 = some x3) (len4 : n4 ≤ 40) (hr5y : ∀ s9 : List Int, TXq κ.2.2.2.2 sa x3 s9 → r5.toInt = (s9.length : Int)) (hr5 : r5.toInt = ((n4 : Nat) : Int)) (c6 : 0 < r5.toInt) (hr27y : ∀ s9 : List Int, TXq κ.2.2.2.2 sa x3 s9 → CHS s9 → r27.toInt = s9.getD (0 : Int32).toInt.toNat 0) (hr27_0 : 0 ≤ r27.toInt) (hr27_1 : r27.toInt ≤ 65535) (c28 : r27.toInt = 45) (ex50 : x50 = r5 - (1 : Int32)) (tx50 : x50.toInt = r5.toInt - 1) (c51 : 1 ≤ x50.toInt) (ex52 : x52 = r5 - (1 : Int32)) (tx52 : x52.toInt = r5.toInt - 1) (c53 : x52.toInt ≤ 9) : ∀ (q7 q8 : Nat → Option Nat) (v : QV), VALq κ.2.2.2.2 sa q7 q8 k0 v → v.1 = 4 ∧ INL v.2.2.1 (1 : Int32).toInt (0 : Int32).toInt (1 : Int32).toInt 1 := by
  have q0 : (0 : Int32).toInt = 0 := by decide +kernel
  have q1 : (1 : Int32).toInt = 1 := by decide +kernel
  intro q7 q8 v h
  have k := h.k9
  rw [ex1] at k
  have z0 : (0 : Int32).toInt = 0 := by decide
  have z1 : (1 : Int32).toInt = 1 := by decide
  obtain ⟨cc, w6, w7⟩ := h.2.2.2.2.2.1
  rw [ex3] at w6
  obtain rfl := Option.some.inj w6
  have L := hr5y _ w7
  have ch := h.q9.2.2.2.2.2.2.1
  have hd := hr27y _ w7 ch
  rw [show (0 : Int32).toInt.toNat = 0 by decide] at hd
  have hh : v.2.2.1.head? = some 45 := by rw [q_head (by omega), ← hd, c28]
  exact ⟨by omega, INL.start (by omega) (Or.inl ⟨rfl, by omega, by omega⟩) (by decide) rfl⟩
-- post2 @147
theorem vX0_toInt_34 (sa : Nat → Nat) (κ : KS) (k0 : Nat) (x1 : Int32) (x3 : Nat) (n4 : Nat) (r5 : Int32) (r27 : Int32) (x50 : Int32) (x52 : Int32) (y54 : Int32) (y55 : Int32) (x58 : Int32) (P60 : PL) (b62 : Nat) (ht0 : oT κ.2.2.2.2 k0 = 1) (hPV : PV sa κ.2.2.2.2) (ex1 : oI κ.2.2.2.2 0 k0 = x1) (c2 : x1.toInt = 4) (ex3 : oR κ.2.2.2.2 0 k0 = some x3) (len4 : n4 ≤ 40) (hr5y : ∀ s9 : List Int, TXq κ.2.2.2.2 sa x3 s9 → r5.toInt = (s9.length : Int)) (hr5 : r5.toInt = ((n4 : Nat) : Int)) (c6 : 0 < r5.toInt) (hr27y : ∀ s9 : List Int, TXq κ.2.2.2.2 sa x3 s9 → CHS s9 → r27.toInt = s9.getD (0 : Int32).toInt.toNat 0) (hr27_0 : 0 ≤ r27.toInt) (hr27_1 : r27.toInt ≤ 65535) (c28 : r27.toInt = 45) (ex50 : x50 = r5 - (1 : Int32)) (tx50 : x50.toInt = r5.toInt - 1) (c51 : 1 ≤ x50.toInt) (ex52 : x52 = r5 - (1 : Int32)) (tx52 : x52.toInt = r5.toInt - 1) (c53 : x52.toInt ≤ 9) (hi83 : 0 ≤ y55.toInt) (hi83y : ∀ (q7 q8 : Nat → Option Nat) (v : QV), VALq κ.2.2.2.2 sa q7 q8 k0 v → v.1 = 4 ∧ INL v.2.2.1 (1 : Int32).toInt y54.toInt y55.toInt 1) (c56 : r5.toInt ≤ y55.toInt) (ex58 : x58 = -y54) (hr59_0 : EX κ.2.2.2.2 P60) (hr59_2 : KPx True κ.2.2.2.2 P60) (hr59y : ∀ q7 q8 : Nat → Option Nat, VALq P60 sa q7 q8 b62 (qInt x58)) : ∀ (q7 q8 : Nat → Option Nat) (v : QV), VALq κ.2.2.2.2 sa q7 q8 k0 v → ((some b62) = (none : Option Nat) → qCvI v = none) ∧ (∀ x, (some b62) = some x → ∃ m : Int32, qCvI v = some m.toInt ∧ VALq P60 sa q7 q8 x (qInt m)) := by
  have q0 : (0 : Int32).toInt = 0 := by decide +kernel
  have q1 : (1 : Int32).toInt = 1 := by decide +kernel
  intro q7 q8 v h
  have k := h.k9
  rw [ex1] at k
  have z0 : (0 : Int32).toInt = 0 := by decide
  have z1 : (1 : Int32).toInt = 1 := by decide
  obtain ⟨cc, w6, w7⟩ := h.2.2.2.2.2.1
  rw [ex3] at w6
  obtain rfl := Option.some.inj w6
  have L := hr5y _ w7
  have ch := h.q9.2.2.2.2.2.2.1
  have hd := hr27y _ w7 ch
  rw [show (0 : Int32).toInt.toNat = 0 by decide] at hd
  have hh : v.2.2.1.head? = some 45 := by rw [q_head (by omega), ← hd, c28]
  obtain ⟨h4, I⟩ := hi83y q7 q8 v h
  rw [z1] at I
  have vb := I.vb9 (by decide) (by decide)
  refine ⟨fun e => (by cases e), fun x e => ?_⟩
  obtain rfl := Option.some.inj e
  exact ⟨x58, (q_cvt9 h4).trans (QI.some9 (I.fin1 hh (Or.inl (by omega)) (fun _ => (by rw [ex58]; exact q_ng (by omega))) (Or.inl ⟨rfl, rfl⟩))), hr59y q7 q8⟩
-- pre:J0_charAt_5068e@92 @92
theorem vX0_toInt_35 (n4 : Nat) (r5 : Int32) (x50 : Int32) (x52 : Int32) (y55 : Int32) (len4 : n4 ≤ 40) (hr5 : r5.toInt = ((n4 : Nat) : Int)) (c6 : 0 < r5.toInt) (ex50 : x50 = r5 - (1 : Int32)) (tx50 : x50.toInt = r5.toInt - 1) (c51 : 1 ≤ x50.toInt) (ex52 : x52 = r5 - (1 : Int32)) (tx52 : x52.toInt = r5.toInt - 1) (c53 : x52.toInt ≤ 9) (hi83 : 0 ≤ y55.toInt) (c56 : y55.toInt < r5.toInt) : 0 ≤ y55.toInt ∧ y55.toInt < ((n4 : Nat) : Int) := by
  have q1 : (1 : Int32).toInt = 1 := by decide +kernel
  refine ⟨?_, ?_⟩ <;> first | assumption | omega | (subst_vars; omega) | trivial
-- post2 @112
theorem vX0_toInt_36 (sa : Nat → Nat) (κ : KS) (k0 : Nat) (x1 : Int32) (x3 : Nat) (n4 : Nat) (r5 : Int32) (r27 : Int32) (x50 : Int32) (x52 : Int32) (y54 : Int32) (y55 : Int32) (r63 : Int32) (ht0 : oT κ.2.2.2.2 k0 = 1) (hPV : PV sa κ.2.2.2.2) (ex1 : oI κ.2.2.2.2 0 k0 = x1) (c2 : x1.toInt = 4) (ex3 : oR κ.2.2.2.2 0 k0 = some x3) (len4 : n4 ≤ 40) (hr5y : ∀ s9 : List Int, TXq κ.2.2.2.2 sa x3 s9 → r5.toInt = (s9.length : Int)) (hr5 : r5.toInt = ((n4 : Nat) : Int)) (c6 : 0 < r5.toInt) (hr27y : ∀ s9 : List Int, TXq κ.2.2.2.2 sa x3 s9 → CHS s9 → r27.toInt = s9.getD (0 : Int32).toInt.toNat 0) (hr27_0 : 0 ≤ r27.toInt) (hr27_1 : r27.toInt ≤ 65535) (c28 : r27.toInt = 45) (ex50 : x50 = r5 - (1 : Int32)) (tx50 : x50.toInt = r5.toInt - 1) (c51 : 1 ≤ x50.toInt) (ex52 : x52 = r5 - (1 : Int32)) (tx52 : x52.toInt = r5.toInt - 1) (c53 : x52.toInt ≤ 9) (hi83 : 0 ≤ y55.toInt) (hi83y : ∀ (q7 q8 : Nat → Option Nat) (v : QV), VALq κ.2.2.2.2 sa q7 q8 k0 v → v.1 = 4 ∧ INL v.2.2.1 (1 : Int32).toInt y54.toInt y55.toInt 1) (c56 : y55.toInt < r5.toInt) (hr63y : ∀ s9 : List Int, TXq κ.2.2.2.2 sa x3 s9 → CHS s9 → r63.toInt = s9.getD y55.toInt.toNat 0) (hr63_0 : 0 ≤ r63.toInt) (hr63_1 : r63.toInt ≤ 65535) (c64 : r63.toInt < 48) : ∀ (q7 q8 : Nat → Option Nat) (v : QV), VALq κ.2.2.2.2 sa q7 q8 k0 v → (none = (none : Option Nat) → qCvI v = none) ∧ (∀ x, none = some x → ∃ m : Int32, qCvI v = some m.toInt ∧ VALq κ.2.2.2.2 sa q7 q8 x (qInt m)) := by
  have q0 : (0 : Int32).toInt = 0 := by decide +kernel
  have q1 : (1 : Int32).toInt = 1 := by decide +kernel
  intro q7 q8 v h
  have k := h.k9
  rw [ex1] at k
  have z0 : (0 : Int32).toInt = 0 := by decide
  have z1 : (1 : Int32).toInt = 1 := by decide
  obtain ⟨cc, w6, w7⟩ := h.2.2.2.2.2.1
  rw [ex3] at w6
  obtain rfl := Option.some.inj w6
  have L := hr5y _ w7
  have ch := h.q9.2.2.2.2.2.2.1
  have hd := hr27y _ w7 ch
  rw [show (0 : Int32).toInt.toNat = 0 by decide] at hd
  have hh : v.2.2.1.head? = some 45 := by rw [q_head (by omega), ← hd, c28]
  obtain ⟨h4, I⟩ := hi83y q7 q8 v h
  rw [z1] at I
  have D := hr63y _ w7 ch
  have J := I.step (g2 := 0) (v2 := 0) (by decide) (by decide) (by omega) rfl (Or.inr ⟨rfl, by rw [← D]; omega⟩) (fun e => absurd e (by decide))
  exact ⟨fun _ => (q_cvt9 (by omega)).trans (QI.none9 (r := 0) (J.fin1 hh (Or.inr rfl) (fun e => absurd e (by decide)) (Or.inr ⟨rfl, rfl⟩))), fun x e => (by cases e)⟩
-- nw@126 @126
theorem vX0_toInt_37 (n4 : Nat) (r5 : Int32) (x50 : Int32) (x52 : Int32) (y55 : Int32) (x69 : Int32) (len4 : n4 ≤ 40) (hr5 : r5.toInt = ((n4 : Nat) : Int)) (c6 : 0 < r5.toInt) (ex50 : x50 = r5 - (1 : Int32)) (tx50 : x50.toInt = r5.toInt - 1) (c51 : 1 ≤ x50.toInt) (ex52 : x52 = r5 - (1 : Int32)) (tx52 : x52.toInt = r5.toInt - 1) (c53 : x52.toInt ≤ 9) (hi83 : 0 ≤ y55.toInt) (c56 : y55.toInt < r5.toInt) (ex69 : x69 = y55 + (1 : Int32)) : x69.toInt = y55.toInt + 1 := by
  have q1 : (1 : Int32).toInt = 1 := by decide +kernel
  have z9 : (1 : Int32).toInt = 1 := by decide +kernel
  rw [ex69, z_add (by omega) (by omega)]; first | done | omega
-- inv@83 @83
theorem vX0_toInt_38 (n4 : Nat) (r5 : Int32) (x50 : Int32) (x52 : Int32) (y55 : Int32) (x69 : Int32) (len4 : n4 ≤ 40) (hr5 : r5.toInt = ((n4 : Nat) : Int)) (c6 : 0 < r5.toInt) (ex50 : x50 = r5 - (1 : Int32)) (tx50 : x50.toInt = r5.toInt - 1) (c51 : 1 ≤ x50.toInt) (ex52 : x52 = r5 - (1 : Int32)) (tx52 : x52.toInt = r5.toInt - 1) (c53 : x52.toInt ≤ 9) (hi83 : 0 ≤ y55.toInt) (c56 : y55.toInt < r5.toInt) (ex69 : x69 = y55 + (1 : Int32)) (tx69 : x69.toInt = y55.toInt + 1) : 0 ≤ x69.toInt := by
  have q1 : (1 : Int32).toInt = 1 := by decide +kernel
  first | assumption | omega | (subst_vars; omega) | trivial
-- inv2@83 @83
theorem vX0_toInt_39 (sa : Nat → Nat) (κ : KS) (k0 : Nat) (x1 : Int32) (x3 : Nat) (n4 : Nat) (r5 : Int32) (r27 : Int32) (x50 : Int32) (x52 : Int32) (y54 : Int32) (y55 : Int32) (r63 : Int32) (x66 : Int32) (x67 : Int32) (x68 : Int32) (x69 : Int32) (ht0 : oT κ.2.2.2.2 k0 = 1) (hPV : PV sa κ.2.2.2.2) (ex1 : oI κ.2.2.2.2 0 k0 = x1) (c2 : x1.toInt = 4) (ex3 : oR κ.2.2.2.2 0 k0 = some x3) (len4 : n4 ≤ 40) (hr5y : ∀ s9 : List Int, TXq κ.2.2.2.2 sa x3 s9 → r5.toInt = (s9.length : Int)) (hr5 : r5.toInt = ((n4 : Nat) : Int)) (c6 : 0 < r5.toInt) (hr27y : ∀ s9 : List Int, TXq κ.2.2.2.2 sa x3 s9 → CHS s9 → r27.toInt = s9.getD (0 : Int32).toInt.toNat 0) (hr27_0 : 0 ≤ r27.toInt) (hr27_1 : r27.toInt ≤ 65535) (c28 : r27.toInt = 45) (ex50 : x50 = r5 - (1 : Int32)) (tx50 : x50.toInt = r5.toInt - 1) (c51 : 1 ≤ x50.toInt) (ex52 : x52 = r5 - (1 : Int32)) (tx52 : x52.toInt = r5.toInt - 1) (c53 : x52.toInt ≤ 9) (hi83 : 0 ≤ y55.toInt) (hi83y : ∀ (q7 q8 : Nat → Option Nat) (v : QV), VALq κ.2.2.2.2 sa q7 q8 k0 v → v.1 = 4 ∧ INL v.2.2.1 (1 : Int32).toInt y54.toInt y55.toInt 1) (c56 : y55.toInt < r5.toInt) (hr63y : ∀ s9 : List Int, TXq κ.2.2.2.2 sa x3 s9 → CHS s9 → r63.toInt = s9.getD y55.toInt.toNat 0) (hr63_0 : 0 ≤ r63.toInt) (hr63_1 : r63.toInt ≤ 65535) (c64 : 48 ≤ r63.toInt) (c65 : r63.toInt ≤ 57) (ex66 : x66 = y54 * (10 : Int32)) (ex67 : x67 = r63 - (48 : Int32)) (ex68 : x68 = x66 + x67) (ex69 : x69 = y55 + (1 : Int32)) (tx69 : x69.toInt = y55.toInt + 1) : ∀ (q7 q8 : Nat → Option Nat) (v : QV), VALq κ.2.2.2.2 sa q7 q8 k0 v → v.1 = 4 ∧ INL v.2.2.1 (1 : Int32).toInt x68.toInt x69.toInt 1 := by
  have q0 : (0 : Int32).toInt = 0 := by decide +kernel
  have q1 : (1 : Int32).toInt = 1 := by decide +kernel
  have q10 : (10 : Int32).toInt = 10 := by decide +kernel
  have q48 : (48 : Int32).toInt = 48 := by decide +kernel
  intro q7 q8 v h
  have k := h.k9
  rw [ex1] at k
  have z0 : (0 : Int32).toInt = 0 := by decide
  have z1 : (1 : Int32).toInt = 1 := by decide
  obtain ⟨cc, w6, w7⟩ := h.2.2.2.2.2.1
  rw [ex3] at w6
  obtain rfl := Option.some.inj w6
  have L := hr5y _ w7
  have ch := h.q9.2.2.2.2.2.2.1
  have hd := hr27y _ w7 ch
  rw [show (0 : Int32).toInt.toNat = 0 by decide] at hd
  have hh : v.2.2.1.head? = some 45 := by rw [q_head (by omega), ← hd, c28]
  obtain ⟨h4, I⟩ := hi83y q7 q8 v h
  rw [z1] at I
  have D := hr63y _ w7 ch
  have vb := I.vb (by decide) (by decide) (by omega)
  have w48 : (48 : Int32).toInt = 48 := by decide
  have ea : x66.toInt = 10 * y54.toInt := by rw [ex66, Int32.mul_comm]; exact z_mulc 10 (by decide) (by omega) (by omega)
  have eb : x67.toInt = r63.toInt - 48 := by rw [ex67, z_sub (by omega) (by omega), w48]
  have ec : x68.toInt = x66.toInt + x67.toInt := by rw [ex68, z_add (by omega) (by omega)]
  rw [z1]
  exact ⟨h4, I.step (by decide) (by decide) (by omega) (by omega) (Or.inl ⟨rfl, by rw [← D]; omega, by rw [← D]; omega⟩) (fun _ => by rw [← D]; omega)⟩
-- meas@83 @83
theorem vX0_toInt_40 (n4 : Nat) (r5 : Int32) (x50 : Int32) (x52 : Int32) (y55 : Int32) (x69 : Int32) (len4 : n4 ≤ 40) (hr5 : r5.toInt = ((n4 : Nat) : Int)) (c6 : 0 < r5.toInt) (ex50 : x50 = r5 - (1 : Int32)) (tx50 : x50.toInt = r5.toInt - 1) (c51 : 1 ≤ x50.toInt) (ex52 : x52 = r5 - (1 : Int32)) (tx52 : x52.toInt = r5.toInt - 1) (c53 : x52.toInt ≤ 9) (hi83 : 0 ≤ y55.toInt) (c56 : y55.toInt < r5.toInt) (ex69 : x69 = y55 + (1 : Int32)) (tx69 : x69.toInt = y55.toInt + 1) : (r5.toInt - x69.toInt).toNat < (r5.toInt - y55.toInt).toNat := by
  have q1 : (1 : Int32).toInt = 1 := by decide +kernel
  first | assumption | omega | (subst_vars; omega) | trivial
-- post2 @112
theorem vX0_toInt_41 (sa : Nat → Nat) (κ : KS) (k0 : Nat) (x1 : Int32) (x3 : Nat) (n4 : Nat) (r5 : Int32) (r27 : Int32) (x50 : Int32) (x52 : Int32) (y54 : Int32) (y55 : Int32) (r63 : Int32) (ht0 : oT κ.2.2.2.2 k0 = 1) (hPV : PV sa κ.2.2.2.2) (ex1 : oI κ.2.2.2.2 0 k0 = x1) (c2 : x1.toInt = 4) (ex3 : oR κ.2.2.2.2 0 k0 = some x3) (len4 : n4 ≤ 40) (hr5y : ∀ s9 : List Int, TXq κ.2.2.2.2 sa x3 s9 → r5.toInt = (s9.length : Int)) (hr5 : r5.toInt = ((n4 : Nat) : Int)) (c6 : 0 < r5.toInt) (hr27y : ∀ s9 : List Int, TXq κ.2.2.2.2 sa x3 s9 → CHS s9 → r27.toInt = s9.getD (0 : Int32).toInt.toNat 0) (hr27_0 : 0 ≤ r27.toInt) (hr27_1 : r27.toInt ≤ 65535) (c28 : r27.toInt = 45) (ex50 : x50 = r5 - (1 : Int32)) (tx50 : x50.toInt = r5.toInt - 1) (c51 : 1 ≤ x50.toInt) (ex52 : x52 = r5 - (1 : Int32)) (tx52 : x52.toInt = r5.toInt - 1) (c53 : x52.toInt ≤ 9) (hi83 : 0 ≤ y55.toInt) (hi83y : ∀ (q7 q8 : Nat → Option Nat) (v : QV), VALq κ.2.2.2.2 sa q7 q8 k0 v → v.1 = 4 ∧ INL v.2.2.1 (1 : Int32).toInt y54.toInt y55.toInt 1) (c56 : y55.toInt < r5.toInt) (hr63y : ∀ s9 : List Int, TXq κ.2.2.2.2 sa x3 s9 → CHS s9 → r63.toInt = s9.getD y55.toInt.toNat 0) (hr63_0 : 0 ≤ r63.toInt) (hr63_1 : r63.toInt ≤ 65535) (c64 : 48 ≤ r63.toInt) (c65 : 57 < r63.toInt) : ∀ (q7 q8 : Nat → Option Nat) (v : QV), VALq κ.2.2.2.2 sa q7 q8 k0 v → (none = (none : Option Nat) → qCvI v = none) ∧ (∀ x, none = some x → ∃ m : Int32, qCvI v = some m.toInt ∧ VALq κ.2.2.2.2 sa q7 q8 x (qInt m)) := by
  have q0 : (0 : Int32).toInt = 0 := by decide +kernel
  have q1 : (1 : Int32).toInt = 1 := by decide +kernel
  intro q7 q8 v h
  have k := h.k9
  rw [ex1] at k
  have z0 : (0 : Int32).toInt = 0 := by decide
  have z1 : (1 : Int32).toInt = 1 := by decide
  obtain ⟨cc, w6, w7⟩ := h.2.2.2.2.2.1
  rw [ex3] at w6
  obtain rfl := Option.some.inj w6
  have L := hr5y _ w7
  have ch := h.q9.2.2.2.2.2.2.1
  have hd := hr27y _ w7 ch
  rw [show (0 : Int32).toInt.toNat = 0 by decide] at hd
  have hh : v.2.2.1.head? = some 45 := by rw [q_head (by omega), ← hd, c28]
  obtain ⟨h4, I⟩ := hi83y q7 q8 v h
  rw [z1] at I
  have D := hr63y _ w7 ch
  have J := I.step (g2 := 0) (v2 := 0) (by decide) (by decide) (by omega) rfl (Or.inr ⟨rfl, by rw [← D]; omega⟩) (fun e => absurd e (by decide))
  exact ⟨fun _ => (q_cvt9 (by omega)).trans (QI.none9 (r := 0) (J.fin1 hh (Or.inr rfl) (fun e => absurd e (by decide)) (Or.inr ⟨rfl, rfl⟩))), fun x e => (by cases e)⟩
-- post2 @75
theorem vX0_toInt_42 (sa : Nat → Nat) (κ : KS) (k0 : Nat) (x1 : Int32) (x3 : Nat) (n4 : Nat) (r5 : Int32) (r27 : Int32) (x50 : Int32) (x52 : Int32) (ht0 : oT κ.2.2.2.2 k0 = 1) (hPV : PV sa κ.2.2.2.2) (ex1 : oI κ.2.2.2.2 0 k0 = x1) (c2 : x1.toInt = 4) (ex3 : oR κ.2.2.2.2 0 k0 = some x3) (len4 : n4 ≤ 40) (hr5y : ∀ s9 : List Int, TXq κ.2.2.2.2 sa x3 s9 → r5.toInt = (s9.length : Int)) (hr5 : r5.toInt = ((n4 : Nat) : Int)) (c6 : 0 < r5.toInt) (hr27y : ∀ s9 : List Int, TXq κ.2.2.2.2 sa x3 s9 → CHS s9 → r27.toInt = s9.getD (0 : Int32).toInt.toNat 0) (hr27_0 : 0 ≤ r27.toInt) (hr27_1 : r27.toInt ≤ 65535) (c28 : r27.toInt = 45) (ex50 : x50 = r5 - (1 : Int32)) (tx50 : x50.toInt = r5.toInt - 1) (c51 : 1 ≤ x50.toInt) (ex52 : x52 = r5 - (1 : Int32)) (tx52 : x52.toInt = r5.toInt - 1) (c53 : 9 < x52.toInt) : ∀ (q7 q8 : Nat → Option Nat) (v : QV), VALq κ.2.2.2.2 sa q7 q8 k0 v → (none = (none : Option Nat) → qCvI v = none) ∧ (∀ x, none = some x → ∃ m : Int32, qCvI v = some m.toInt ∧ VALq κ.2.2.2.2 sa q7 q8 x (qInt m)) := by
  have q0 : (0 : Int32).toInt = 0 := by decide +kernel
  have q1 : (1 : Int32).toInt = 1 := by decide +kernel
  intro q7 q8 v h
  have k := h.k9
  rw [ex1] at k
  have z0 : (0 : Int32).toInt = 0 := by decide
  have z1 : (1 : Int32).toInt = 1 := by decide
  obtain ⟨cc, w6, w7⟩ := h.2.2.2.2.2.1
  rw [ex3] at w6
  obtain rfl := Option.some.inj w6
  have L := hr5y _ w7
  have ch := h.q9.2.2.2.2.2.2.1
  have hd := hr27y _ w7 ch
  rw [show (0 : Int32).toInt.toNat = 0 by decide] at hd
  have hh : v.2.2.1.head? = some 45 := by rw [q_head (by omega), ← hd, c28]
  have J : INL v.2.2.1 1 0 1 0 := INL.start (by decide) (Or.inr ⟨rfl, by omega⟩) rfl rfl
  exact ⟨fun _ => (q_cvt9 (by omega)).trans (QI.none9 (r := 0) (J.fin1 hh (Or.inr rfl) (fun e => absurd e (by decide)) (Or.inr ⟨rfl, rfl⟩))), fun x e => (by cases e)⟩
-- post2 @15
theorem vX0_toInt_43 (sa : Nat → Nat) (κ : KS) (k0 : Nat) (x1 : Int32) (x70 : Int32) (P72 : PL) (b74 : Nat) (ht0 : oT κ.2.2.2.2 k0 = 1) (hPV : PV sa κ.2.2.2.2) (ex1 : oI κ.2.2.2.2 0 k0 = x1) (c2 : ¬ x1.toInt = 4) (ex70 : oI κ.2.2.2.2 1 k0 = x70) (hr71_0 : EX κ.2.2.2.2 P72) (hr71_2 : KPx True κ.2.2.2.2 P72) (hr71y : ∀ q7 q8 : Nat → Option Nat, VALq P72 sa q7 q8 b74 (qInt x70)) : ∀ (q7 q8 : Nat → Option Nat) (v : QV), VALq κ.2.2.2.2 sa q7 q8 k0 v → ((some b74) = (none : Option Nat) → qCvI v = none) ∧ (∀ x, (some b74) = some x → ∃ m : Int32, qCvI v = some m.toInt ∧ VALq P72 sa q7 q8 x (qInt m)) := by
  intro q7 q8 v h
  have k := h.k9
  rw [ex1] at k
  have z0 : (0 : Int32).toInt = 0 := by decide
  have z1 : (1 : Int32).toInt = 1 := by decide
  refine ⟨fun e => (by cases e), fun x e => ?_⟩
  obtain rfl := Option.some.inj e
  exact ⟨x70, (h.i9 (by omega)).trans (by rw [ex70]), hr71y q7 q8⟩
set_option maxHeartbeats 4000000 in
set_option maxRecDepth 100000 in
theorem NX0_toInt (l : Launch) (D : va_G) (cy : Nat → ClassId) (ad : Nat → Nat) (A : Nat → Prop) (sz0 : Nat) (sa : Nat → Nat)  (κ : KS) (sz sl : Nat) (hAF : ∀ q, A q → Fr sz0 q) (hAn : ∀ q : Nat, sz ≤ q → A q) (k0 : Nat) (ht0 : oT κ.2.2.2.2 k0 = 1) (hPV : PV sa κ.2.2.2.2) : Met l yX0_toInt (Cond.code yX0_toInt cX0_toInt 8 (some (.object "PhraseDesk$Value")) :: GWc) ({ frames := 4, cells := 1, slots := 5, locals := 85 }) (PcC D cy ad A sz0 sa [.ref k0] κ sz sl) (va_Qq (fun (r : Option Nat) (u : PL) => ((EX κ.2.2.2.2 u) ∧ (PV sa u) ∧ (KPx True κ.2.2.2.2 u) ∧ (NT u 1 r)) ∧ (∀ (q7 q8 : Nat → Option Nat) (v : QV), VALq κ.2.2.2.2 sa q7 q8 k0 v → (r = (none : Option Nat) → qCvI v = none) ∧ (∀ x, r = some x → ∃ m : Int32, qCvI v = some m.toInt ∧ VALq u sa q7 q8 x (qInt m)))) (fun (u : PL) (t : State) => Bx D cy ad A sz sl (tP κ u) (1) (5) t) A) (1) (5) A := by
  refine CM_of (loc0 := [(0, .ref k0)]) (own := RX0) (nm := "toInt") (by decide) rfl rfl rfl (Nat.le_of_ble_eq_true rfl) hAF hAn ?_
  intro p e s m below meth c ls hsz hsl C hP hS hl
  refine lv_aload_n C.x C.b dX0_toInt_0 rfl (lv_at hl 0 rfl) ?_
  obtain ⟨x1, ex1⟩ : ∃ z, oI κ.2.2.2.2 0 k0 = z := ⟨_, rfl⟩
  refine pg_X10_0 (v := x1) C hP (t20 (a := k0) (t := 1) ht0) ex1 cw_55 dX0_toInt_1 ?_
  refine lv_iconst (v := 4) C.x C.b dX0_toInt_4 (by decide +kernel) ?_
  refine lv_icmp_eq (tgt := 16) C.x C.b dX0_toInt_5 (by decide) (fun c2 => ?_) (fun c2 => ?_)
  · have c2 : x1.toInt = 4 := by have h := z_eq c2; rw [show (4 : Int32).toInt = 4 from by decide +kernel] at h; exact h
    refine lv_aload_n C.x C.b dX0_toInt_16 rfl (lv_at hl 0 rfl) ?_
    obtain ⟨x3, ex3, hx3⟩ := (hPV.t1 ht0).1
    refine pg_X10_3 (v := some x3) C hP (t20 (a := k0) (t := 1) ht0) ex3 cw_65 dX0_toInt_17 ?_
    refine lv_astore_n (lv' := [(1, .ref x3), (0, .ref k0)]) C.x C.b dX0_toInt_20 rfl hl (by decide) rfl (fun ls hl => ?_)
    refine lv_aload_n C.x C.b dX0_toInt_21 rfl (lv_at hl 0 rfl) ?_
    obtain ⟨n4, sln4, len4⟩ := hx3.sl hPV C
    refine c_callVi (n := 0) (As := []) (rest := []) C hP hS hl.1 (NJ0_length_8abf5 l D cy ad A sz0 sa κ s.heap.size (SLT s.heap) C.f (fun q h => C.a q (Nat.le_trans hS.1 h)) x3 n4 sln4 hPV) ⟨cw_98, cw_101, by decide +kernel⟩ ⟨cw_99, cw_100, cw_70⟩ rfl (c_srecv C hP hS hx3) rfl rfl (lv_room (Nat.le_of_ble_eq_true rfl)) ⟨Nat.le_of_ble_eq_true rfl, Nat.le_of_ble_eq_true rfl⟩ ⟨(Nat.le_of_ble_eq_true rfl), (Nat.le_of_ble_eq_true rfl)⟩ dX0_toInt_22 (fun r5 u H locs hr5 hP hS => ?_)
    obtain ⟨hr5, hr5y⟩ := hr5
    have hr5y : ∀ s9 : List Int, TXq κ.2.2.2.2 sa x3 s9 → r5.toInt = (s9.length : Int) := hr5y
    have hr5 : (r5.toInt = ((n4 : Nat) : Int)) := hr5
    refine lv_istore_n (lv' := [(2, .int r5), (1, .ref x3), (0, .ref k0)]) C.x C.b dX0_toInt_25 rfl hl (by decide) rfl (fun ls hl => ?_)
    refine lv_iload_n C.x C.b dX0_toInt_26 rfl (lv_at hl 0 rfl) ?_
    refine lv_if_le (tgt := 44) C.x C.b dX0_toInt_27 (by decide) (fun c6 => ?_) (fun c6 => ?_)
    · have c6 : r5.toInt ≤ 0 := by have h := z_le c6; rw [show (0 : Int32).toInt = 0 from by decide +kernel] at h; exact h
      refine lv_iconst (v := 0) C.x C.b dX0_toInt_44 (by decide +kernel) ?_
      refine lv_istore_n (lv' := [(3, .int 0), (2, .int r5), (1, .ref x3), (0, .ref k0)]) C.x C.b dX0_toInt_45 rfl hl (by decide) rfl (fun ls hl => ?_)
      refine lv_iload_n C.x C.b dX0_toInt_46 rfl (lv_at hl 0 rfl) ?_
      refine lv_if_eq (tgt := 54) C.x C.b dX0_toInt_47 (by decide) (fun _ => ?_) (fun c7 => absurd (by decide +kernel) c7)
      refine lv_iconst (v := 0) C.x C.b dX0_toInt_54 (by decide +kernel) ?_
      refine lv_istore (lv' := [(4, .int 0), (3, .int 0), (2, .int r5), (1, .ref x3), (0, .ref k0)]) C.x C.b dX0_toInt_55 hl (by decide) rfl (fun ls hl => ?_)
      refine lv_iload_n C.x C.b dX0_toInt_57 rfl (lv_at hl 2 rfl) ?_
      refine lv_iload C.x C.b dX0_toInt_58 (lv_at hl 0 rfl) ?_
      refine lv_isub C.x C.b dX0_toInt_60 ?_
      refine lv_topi (fun x8 ex8 => ?_)
      have tx8 : x8.toInt = r5.toInt - 0 := (vX0_toInt_1 n4 r5 x8 len4 hr5 c6 ex8)
      refine lv_iconst (v := 1) C.x C.b dX0_toInt_61 (by decide +kernel) ?_
      refine lv_icmp_lt (tgt := 74) C.x C.b dX0_toInt_62 (by decide) (fun c9 => ?_) (fun c9 => ?_)
      · have c9 : x8.toInt < 1 := by have h := z_lt c9; rw [show (1 : Int32).toInt = 1 from by decide +kernel] at h; exact h
        refine lv_null C.x C.b dX0_toInt_74 ?_
        have hP : CH D cy ad A (tP κ κ.2.2.2.2) H := CH.cong hP rfl rfl rfl rfl rfl rfl rfl rfl rfl rfl rfl rfl rfl rfl rfl rfl rfl rfl rfl rfl rfl rfl rfl rfl rfl rfl rfl
        exact c_retq (v := none) (Or.inl ⟨_, rfl⟩) C hsz hsl κ.2.2.2.2 ⟨⟨EX.rf, hPV, KPx.rf, nt_n⟩, (vX0_toInt_2 sa κ k0 x1 x3 n4 r5 x8 ht0 hPV ex1 c2 ex3 len4 hr5y hr5 c6 ex8 tx8 c9)⟩ hP hS ⟨(Nat.le_of_ble_eq_true rfl), (Nat.le_of_ble_eq_true rfl)⟩ ⟨(Nat.le_of_ble_eq_true rfl), (Nat.le_of_ble_eq_true rfl)⟩ dX0_toInt_75
      · have c9 : 1 ≤ x8.toInt := by have h := z_nlt c9; rw [show (1 : Int32).toInt = 1 from by decide +kernel] at h; exact h
        refine lv_iload_n C.x C.b dX0_toInt_65 rfl (lv_at hl 2 rfl) ?_
        refine lv_iload C.x C.b dX0_toInt_66 (lv_at hl 0 rfl) ?_
        refine lv_isub C.x C.b dX0_toInt_68 ?_
        refine lv_topi (fun x10 ex10 => ?_)
        have tx10 : x10.toInt = r5.toInt - 0 := (vX0_toInt_3 n4 r5 x8 x10 len4 hr5 c6 ex8 tx8 c9 ex10)
        refine lv_bipush (v := 9) C.x C.b dX0_toInt_69 (by decide +kernel) ?_
        refine lv_icmp_le (tgt := 76) C.x C.b dX0_toInt_71 (by decide) (fun c11 => ?_) (fun c11 => ?_)
        · have c11 : x10.toInt ≤ 9 := by have h := z_le c11; rw [show (9 : Int32).toInt = 9 from by decide +kernel] at h; exact h
          refine lv_iconst (v := 0) C.x C.b dX0_toInt_76 (by decide +kernel) ?_
          refine lv_istore (lv' := [(5, .int 0), (4, .int 0), (3, .int 0), (2, .int r5), (1, .ref x3), (0, .ref k0)]) C.x C.b dX0_toInt_77 hl (by decide) rfl (fun ls hl => ?_)
          refine lv_iload C.x C.b dX0_toInt_79 (lv_at hl 1 rfl) ?_
          refine lv_istore (lv' := [(6, .int 0), (5, .int 0), (4, .int 0), (3, .int 0), (2, .int r5), (1, .ref x3), (0, .ref k0)]) C.x C.b dX0_toInt_81 hl (by decide) rfl (fun ls hl => ?_)
          have lp83 : ∀ (n : Nat) (y12 : Int32) (y13 : Int32) (H : Heap) (locs : List Loc) (ls : Array Slot), (r5.toInt - y13.toInt).toNat < n → ((0 ≤ y13.toInt) ∧ (∀ (q7 q8 : Nat → Option Nat) (v : QV), VALq κ.2.2.2.2 sa q7 q8 k0 v → v.1 = 4 ∧ INL v.2.2.1 (0 : Int32).toInt y12.toInt y13.toInt 1)) → CH D cy ad A κ H → va_S A s.heap H locs → lv_has ls 8 [(6, .int y13), (5, .int y12), (4, .int 0), (3, .int 0), (2, .int r5), (1, .ref x3), (0, .ref k0)] → W p l e (headSpec (Cond.code yX0_toInt cX0_toInt 8 (some (.object "PhraseDesk$Value")) :: GWc) ({ frames := 4, cells := 1, slots := 5, locals := 85 })).room s m #[.ref k0] below meth c H locs (0 + 0) (0 + 0) (MQ below (va_Qq (fun (r : Option Nat) (u : PL) => ((EX κ.2.2.2.2 u) ∧ (PV sa u) ∧ (KPx True κ.2.2.2.2 u) ∧ (NT u 1 r)) ∧ (∀ (q7 q8 : Nat → Option Nat) (v : QV), VALq κ.2.2.2.2 sa q7 q8 k0 v → (r = (none : Option Nat) → qCvI v = none) ∧ (∀ x, r = some x → ∃ m : Int32, qCvI v = some m.toInt ∧ VALq u sa q7 q8 x (qInt m)))) (fun (u : PL) (t : State) => Bx D cy ad A sz sl (tP κ u) (1) (5) t) A) #[.ref k0] s (1) (5) A) (F0 m 83 ls []) := by
            intro n
            induction n with
            | zero => intro y12 y13 H locs ls hn; exact absurd hn (Nat.not_lt_zero _)
            | succ n83 ih83 =>
              intro y12 y13 H locs ls hn83  hi83 hP hS hl
              obtain ⟨hi83, hi83y⟩ := hi83
              refine lv_iload C.x C.b dX0_toInt_83 (lv_at hl 0 rfl) ?_
              refine lv_iload_n C.x C.b dX0_toInt_85 rfl (lv_at hl 4 rfl) ?_
              refine lv_icmp_ge (tgt := 132) C.x C.b dX0_toInt_86 (by decide) (fun c14 => ?_) (fun c14 => ?_)
              · have c14 : r5.toInt ≤ y13.toInt := by have h := z_le c14; exact h
                refine lv_iload_n C.x C.b dX0_toInt_132 rfl (lv_at hl 3 rfl) ?_
                refine lv_if_eq (tgt := 142) C.x C.b dX0_toInt_133 (by decide) (fun _ => ?_) (fun c15 => absurd (by decide +kernel) c15)
                refine lv_iload C.x C.b dX0_toInt_142 (lv_at hl 1 rfl) ?_
                refine c_callSq (C2 := "") (b := 0) (n := 1) (As := [.int y12]) (rest := []) C hP hS hl.1 (NX10_ofInt l D cy ad A sz0 sa κ H.size (SLT H) C.f (fun q h => C.a q (Nat.le_trans hS.1 h)) y12 hPV) ⟨cw_95, cw_97, by decide +kernel⟩ ⟨cw_96, cw_40⟩ rfl rfl (lv_room (Nat.le_of_ble_eq_true rfl)) ⟨Nat.le_of_ble_eq_true rfl, Nat.le_of_ble_eq_true rfl⟩ ⟨(Nat.le_of_ble_eq_true rfl), (Nat.le_of_ble_eq_true rfl)⟩ dX0_toInt_144 (fun r16 u H locs hr16 hP hS => ?_)
                obtain ⟨P17, rfl⟩ : ∃ z, z = u := ⟨_, rfl⟩
                have hP : CH D cy ad A (tP κ P17) H := hP
                obtain ⟨hr16, hr16y⟩ := hr16
                have hr16y : ∀ q7 q8 : Nat → Option Nat, VALq P17 sa q7 q8 (r16.getD 0) (qInt y12) := hr16y
                have hr16 : (EX κ.2.2.2.2 P17) ∧ (PV sa P17) ∧ (KPx True κ.2.2.2.2 P17) ∧ (NN P17 1 r16) := hr16
                obtain ⟨hr16_0, hr16_1, hr16_2, hr16_3⟩ := hr16
                have kpz18 : KPx True κ.2.2.2.2 P17 := KPx.rf.trans hr16_2
                obtain ⟨b19, rfl, tb19⟩ := hr16_3
                exact c_retq (v := (some b19)) (Or.inl ⟨_, rfl⟩) C hsz hsl P17 ⟨⟨hr16_0, hr16_1, kpz18, (nt_s tb19)⟩, (vX0_toInt_6 sa κ k0 x1 x3 n4 r5 x8 x10 y12 y13 P17 b19 ht0 hPV ex1 c2 ex3 len4 hr5y hr5 c6 ex8 tx8 c9 ex10 tx10 c11 hi83 hi83y c14 hr16_0 hr16_2 hr16y)⟩ hP hS ⟨(Nat.le_of_ble_eq_true rfl), (Nat.le_of_ble_eq_true rfl)⟩ ⟨(Nat.le_of_ble_eq_true rfl), (Nat.le_of_ble_eq_true rfl)⟩ dX0_toInt_147
              · have c14 : y13.toInt < r5.toInt := by have h := z_nle c14; exact h
                refine lv_aload_n C.x C.b dX0_toInt_89 rfl (lv_at hl 5 rfl) ?_
                refine lv_iload C.x C.b dX0_toInt_90 (lv_at hl 0 rfl) ?_
                refine c_callVi (n := 1) (As := [.int y13]) (rest := []) C hP hS hl.1 (NJ0_charAt_5068e l D cy ad A sz0 sa κ H.size (SLT H) C.f (fun q h => C.a q (Nat.le_trans hS.1 h)) x3 n4 y13 sln4 hPV (vX0_toInt_7 n4 r5 x8 x10 y13 len4 hr5 c6 ex8 tx8 c9 ex10 tx10 c11 hi83 c14)) ⟨cw_106, cw_109, by decide +kernel⟩ ⟨cw_107, cw_108, cw_70⟩ rfl (c_srecv C hP hS hx3) rfl rfl (lv_room (Nat.le_of_ble_eq_true rfl)) ⟨Nat.le_of_ble_eq_true rfl, Nat.le_of_ble_eq_true rfl⟩ ⟨(Nat.le_of_ble_eq_true rfl), (Nat.le_of_ble_eq_true rfl)⟩ dX0_toInt_92 (fun r20 u H locs hr20 hP hS => ?_)
                obtain ⟨hr20, hr20y⟩ := hr20
                have hr20y : ∀ s9 : List Int, TXq κ.2.2.2.2 sa x3 s9 → CHS s9 → r20.toInt = s9.getD y13.toInt.toNat 0 := hr20y
                have hr20 : (0 ≤ r20.toInt ∧ r20.toInt ≤ 65535) := hr20
                obtain ⟨hr20_0, hr20_1⟩ := hr20
                refine lv_istore (lv' := [(7, .int r20), (6, .int y13), (5, .int y12), (4, .int 0), (3, .int 0), (2, .int r5), (1, .ref x3), (0, .ref k0)]) C.x C.b dX0_toInt_95 hl (by decide) rfl (fun ls hl => ?_)
                refine lv_iload C.x C.b dX0_toInt_97 (lv_at hl 0 rfl) ?_
                refine lv_bipush (v := 48) C.x C.b dX0_toInt_99 (by decide +kernel) ?_
                refine lv_icmp_lt (tgt := 111) C.x C.b dX0_toInt_101 (by decide) (fun c21 => ?_) (fun c21 => ?_)
                · have c21 : r20.toInt < 48 := by have h := z_lt c21; rw [show (48 : Int32).toInt = 48 from by decide +kernel] at h; exact h
                  refine lv_null C.x C.b dX0_toInt_111 ?_
                  have hP : CH D cy ad A (tP κ κ.2.2.2.2) H := CH.cong hP rfl rfl rfl rfl rfl rfl rfl rfl rfl rfl rfl rfl rfl rfl rfl rfl rfl rfl rfl rfl rfl rfl rfl rfl rfl rfl rfl
                  exact c_retq (v := none) (Or.inl ⟨_, rfl⟩) C hsz hsl κ.2.2.2.2 ⟨⟨EX.rf, hPV, KPx.rf, nt_n⟩, (vX0_toInt_8 sa κ k0 x1 x3 n4 r5 x8 x10 y12 y13 r20 ht0 hPV ex1 c2 ex3 len4 hr5y hr5 c6 ex8 tx8 c9 ex10 tx10 c11 hi83 hi83y c14 hr20y hr20_0 hr20_1 c21)⟩ hP hS ⟨(Nat.le_of_ble_eq_true rfl), (Nat.le_of_ble_eq_true rfl)⟩ ⟨(Nat.le_of_ble_eq_true rfl), (Nat.le_of_ble_eq_true rfl)⟩ dX0_toInt_112
                · have c21 : 48 ≤ r20.toInt := by have h := z_nlt c21; rw [show (48 : Int32).toInt = 48 from by decide +kernel] at h; exact h
                  refine lv_iload C.x C.b dX0_toInt_104 (lv_at hl 0 rfl) ?_
                  refine lv_bipush (v := 57) C.x C.b dX0_toInt_106 (by decide +kernel) ?_
                  refine lv_icmp_le (tgt := 113) C.x C.b dX0_toInt_108 (by decide) (fun c22 => ?_) (fun c22 => ?_)
                  · have c22 : r20.toInt ≤ 57 := by have h := z_le c22; rw [show (57 : Int32).toInt = 57 from by decide +kernel] at h; exact h
                    refine lv_iload C.x C.b dX0_toInt_113 (lv_at hl 2 rfl) ?_
                    refine lv_bipush (v := 10) C.x C.b dX0_toInt_115 (by decide +kernel) ?_
                    refine lv_imul C.x C.b dX0_toInt_117 ?_
                    refine lv_topi (fun x23 ex23 => ?_)
                    refine lv_iload C.x C.b dX0_toInt_118 (lv_at hl 0 rfl) ?_
                    refine lv_bipush (v := 48) C.x C.b dX0_toInt_120 (by decide +kernel) ?_
                    refine lv_isub C.x C.b dX0_toInt_122 ?_
                    refine lv_topi (fun x24 ex24 => ?_)
                    refine lv_iadd C.x C.b dX0_toInt_123 ?_
                    refine lv_topi (fun x25 ex25 => ?_)
                    refine lv_istore (lv' := [(5, .int x25), (7, .int r20), (6, .int y13), (4, .int 0), (3, .int 0), (2, .int r5), (1, .ref x3), (0, .ref k0)]) C.x C.b dX0_toInt_124 hl (by decide) rfl (fun ls hl => ?_)
                    obtain ⟨x26, ex26⟩ : ∃ y : Int32, y = y13 + (1 : Int32) := ⟨_, rfl⟩
                    have tx26 : x26.toInt = y13.toInt + 1 := (vX0_toInt_9 n4 r5 x8 x10 y13 x26 len4 hr5 c6 ex8 tx8 c9 ex10 tx10 c11 hi83 c14 ex26)
                    refine lv_iinc (v := x26) (lv' := [(6, .int x26), (5, .int x25), (7, .int r20), (4, .int 0), (3, .int 0), (2, .int r5), (1, .ref x3), (0, .ref k0)]) C.x C.b dX0_toInt_126 hl (k := 2) rfl (by rw [ex26]; rfl) (by decide) rfl (fun ls hl => ?_)
                    refine lv_goto (tgt := 83) C.x C.b dX0_toInt_129 (by decide) ?_
                    refine W.widen (k := 0 + 0) (n := 0 + 0) (Nat.le_of_ble_eq_true rfl) (Nat.le_of_ble_eq_true rfl) ?_
                    exact ih83 x25 x26 _ _ _ (Nat.lt_of_lt_of_le (vX0_toInt_12 n4 r5 x8 x10 y13 x26 len4 hr5 c6 ex8 tx8 c9 ex10 tx10 c11 hi83 c14 ex26 tx26) (Nat.le_of_lt_succ hn83))  ⟨(vX0_toInt_10 n4 r5 x8 x10 y13 x26 len4 hr5 c6 ex8 tx8 c9 ex10 tx10 c11 hi83 c14 ex26 tx26), (vX0_toInt_11 sa κ k0 x1 x3 n4 r5 x8 x10 y12 y13 r20 x23 x24 x25 x26 ht0 hPV ex1 c2 ex3 len4 hr5y hr5 c6 ex8 tx8 c9 ex10 tx10 c11 hi83 hi83y c14 hr20y hr20_0 hr20_1 c21 c22 ex23 ex24 ex25 ex26 tx26)⟩ hP hS (lv_sub hl [0, 1, 3, 4, 5, 6, 7] rfl)
                  · have c22 : 57 < r20.toInt := by have h := z_nle c22; rw [show (57 : Int32).toInt = 57 from by decide +kernel] at h; exact h
                    refine lv_null C.x C.b dX0_toInt_111 ?_
                    have hP : CH D cy ad A (tP κ κ.2.2.2.2) H := CH.cong hP rfl rfl rfl rfl rfl rfl rfl rfl rfl rfl rfl rfl rfl rfl rfl rfl rfl rfl rfl rfl rfl rfl rfl rfl rfl rfl rfl
                    exact c_retq (v := none) (Or.inl ⟨_, rfl⟩) C hsz hsl κ.2.2.2.2 ⟨⟨EX.rf, hPV, KPx.rf, nt_n⟩, (vX0_toInt_13 sa κ k0 x1 x3 n4 r5 x8 x10 y12 y13 r20 ht0 hPV ex1 c2 ex3 len4 hr5y hr5 c6 ex8 tx8 c9 ex10 tx10 c11 hi83 hi83y c14 hr20y hr20_0 hr20_1 c21 c22)⟩ hP hS ⟨(Nat.le_of_ble_eq_true rfl), (Nat.le_of_ble_eq_true rfl)⟩ ⟨(Nat.le_of_ble_eq_true rfl), (Nat.le_of_ble_eq_true rfl)⟩ dX0_toInt_112
          refine W.widen (k := 0 + 0) (n := 0 + 0) (Nat.le_of_ble_eq_true rfl) (Nat.le_of_ble_eq_true rfl) ?_
          exact lp83 ((r5.toInt - (0 : Int32).toInt).toNat + 1) (0 : Int32) (0 : Int32) _ _ _ (Nat.lt_succ_self _)  ⟨(vX0_toInt_4  ), (vX0_toInt_5 sa κ k0 x1 x3 n4 r5 x8 x10 ht0 hPV ex1 c2 ex3 len4 hr5y hr5 c6 ex8 tx8 c9 ex10 tx10 c11)⟩ hP hS (lv_sub hl [0, 1, 2, 3, 4, 5, 6] rfl)
        · have c11 : 9 < x10.toInt := by have h := z_nle c11; rw [show (9 : Int32).toInt = 9 from by decide +kernel] at h; exact h
          refine lv_null C.x C.b dX0_toInt_74 ?_
          have hP : CH D cy ad A (tP κ κ.2.2.2.2) H := CH.cong hP rfl rfl rfl rfl rfl rfl rfl rfl rfl rfl rfl rfl rfl rfl rfl rfl rfl rfl rfl rfl rfl rfl rfl rfl rfl rfl rfl
          exact c_retq (v := none) (Or.inl ⟨_, rfl⟩) C hsz hsl κ.2.2.2.2 ⟨⟨EX.rf, hPV, KPx.rf, nt_n⟩, (vX0_toInt_14 sa κ k0 x1 x3 n4 r5 x8 x10 ht0 hPV ex1 c2 ex3 len4 hr5y hr5 c6 ex8 tx8 c9 ex10 tx10 c11)⟩ hP hS ⟨(Nat.le_of_ble_eq_true rfl), (Nat.le_of_ble_eq_true rfl)⟩ ⟨(Nat.le_of_ble_eq_true rfl), (Nat.le_of_ble_eq_true rfl)⟩ dX0_toInt_75
    · have c6 : 0 < r5.toInt := by have h := z_nle c6; rw [show (0 : Int32).toInt = 0 from by decide +kernel] at h; exact h
      refine lv_aload_n C.x C.b dX0_toInt_30 rfl (lv_at hl 1 rfl) ?_
      refine lv_iconst (v := 0) C.x C.b dX0_toInt_31 (by decide +kernel) ?_
      refine c_callVi (n := 1) (As := [.int 0]) (rest := []) C hP hS hl.1 (NJ0_charAt_5068e l D cy ad A sz0 sa κ H.size (SLT H) C.f (fun q h => C.a q (Nat.le_trans hS.1 h)) x3 n4 (0 : Int32) sln4 hPV (vX0_toInt_15 n4 r5 len4 hr5 c6)) ⟨cw_106, cw_109, by decide +kernel⟩ ⟨cw_107, cw_108, cw_70⟩ rfl (c_srecv C hP hS hx3) rfl rfl (lv_room (Nat.le_of_ble_eq_true rfl)) ⟨Nat.le_of_ble_eq_true rfl, Nat.le_of_ble_eq_true rfl⟩ ⟨(Nat.le_of_ble_eq_true rfl), (Nat.le_of_ble_eq_true rfl)⟩ dX0_toInt_32 (fun r27 u H locs hr27 hP hS => ?_)
      obtain ⟨hr27, hr27y⟩ := hr27
      have hr27y : ∀ s9 : List Int, TXq κ.2.2.2.2 sa x3 s9 → CHS s9 → r27.toInt = s9.getD (0 : Int32).toInt.toNat 0 := hr27y
      have hr27 : (0 ≤ r27.toInt ∧ r27.toInt ≤ 65535) := hr27
      obtain ⟨hr27_0, hr27_1⟩ := hr27
      refine lv_bipush (v := 45) C.x C.b dX0_toInt_35 (by decide +kernel) ?_
      refine lv_icmp_ne (tgt := 44) C.x C.b dX0_toInt_37 (by decide) (fun c28 => ?_) (fun c28 => ?_)
      · have c28 : ¬ r27.toInt = 45 := by have h := z_ne c28; rw [show (45 : Int32).toInt = 45 from by decide +kernel] at h; exact h
        refine lv_iconst (v := 0) C.x C.b dX0_toInt_44 (by decide +kernel) ?_
        refine lv_istore_n (lv' := [(3, .int 0), (2, .int r5), (1, .ref x3), (0, .ref k0)]) C.x C.b dX0_toInt_45 rfl hl (by decide) rfl (fun ls hl => ?_)
        refine lv_iload_n C.x C.b dX0_toInt_46 rfl (lv_at hl 0 rfl) ?_
        refine lv_if_eq (tgt := 54) C.x C.b dX0_toInt_47 (by decide) (fun _ => ?_) (fun c29 => absurd (by decide +kernel) c29)
        refine lv_iconst (v := 0) C.x C.b dX0_toInt_54 (by decide +kernel) ?_
        refine lv_istore (lv' := [(4, .int 0), (3, .int 0), (2, .int r5), (1, .ref x3), (0, .ref k0)]) C.x C.b dX0_toInt_55 hl (by decide) rfl (fun ls hl => ?_)
        refine lv_iload_n C.x C.b dX0_toInt_57 rfl (lv_at hl 2 rfl) ?_
        refine lv_iload C.x C.b dX0_toInt_58 (lv_at hl 0 rfl) ?_
        refine lv_isub C.x C.b dX0_toInt_60 ?_
        refine lv_topi (fun x30 ex30 => ?_)
        have tx30 : x30.toInt = r5.toInt - 0 := (vX0_toInt_16 n4 r5 x30 len4 hr5 c6 ex30)
        refine lv_iconst (v := 1) C.x C.b dX0_toInt_61 (by decide +kernel) ?_
        refine lv_icmp_lt (tgt := 74) C.x C.b dX0_toInt_62 (by decide) (fun c31 => ?_) (fun c31 => ?_)
        · have c31 : x30.toInt < 1 := by have h := z_lt c31; rw [show (1 : Int32).toInt = 1 from by decide +kernel] at h; exact h
          refine lv_null C.x C.b dX0_toInt_74 ?_
          have hP : CH D cy ad A (tP κ κ.2.2.2.2) H := CH.cong hP rfl rfl rfl rfl rfl rfl rfl rfl rfl rfl rfl rfl rfl rfl rfl rfl rfl rfl rfl rfl rfl rfl rfl rfl rfl rfl rfl
          exact c_retq (v := none) (Or.inl ⟨_, rfl⟩) C hsz hsl κ.2.2.2.2 ⟨⟨EX.rf, hPV, KPx.rf, nt_n⟩, (vX0_toInt_17 sa κ k0 x1 x3 n4 r5 r27 x30 ht0 hPV ex1 c2 ex3 len4 hr5y hr5 c6 hr27y hr27_0 hr27_1 c28 ex30 tx30 c31)⟩ hP hS ⟨(Nat.le_of_ble_eq_true rfl), (Nat.le_of_ble_eq_true rfl)⟩ ⟨(Nat.le_of_ble_eq_true rfl), (Nat.le_of_ble_eq_true rfl)⟩ dX0_toInt_75
        · have c31 : 1 ≤ x30.toInt := by have h := z_nlt c31; rw [show (1 : Int32).toInt = 1 from by decide +kernel] at h; exact h
          refine lv_iload_n C.x C.b dX0_toInt_65 rfl (lv_at hl 2 rfl) ?_
          refine lv_iload C.x C.b dX0_toInt_66 (lv_at hl 0 rfl) ?_
          refine lv_isub C.x C.b dX0_toInt_68 ?_
          refine lv_topi (fun x32 ex32 => ?_)
          have tx32 : x32.toInt = r5.toInt - 0 := (vX0_toInt_18 n4 r5 x30 x32 len4 hr5 c6 ex30 tx30 c31 ex32)
          refine lv_bipush (v := 9) C.x C.b dX0_toInt_69 (by decide +kernel) ?_
          refine lv_icmp_le (tgt := 76) C.x C.b dX0_toInt_71 (by decide) (fun c33 => ?_) (fun c33 => ?_)
          · have c33 : x32.toInt ≤ 9 := by have h := z_le c33; rw [show (9 : Int32).toInt = 9 from by decide +kernel] at h; exact h
            refine lv_iconst (v := 0) C.x C.b dX0_toInt_76 (by decide +kernel) ?_
            refine lv_istore (lv' := [(5, .int 0), (4, .int 0), (3, .int 0), (2, .int r5), (1, .ref x3), (0, .ref k0)]) C.x C.b dX0_toInt_77 hl (by decide) rfl (fun ls hl => ?_)
            refine lv_iload C.x C.b dX0_toInt_79 (lv_at hl 1 rfl) ?_
            refine lv_istore (lv' := [(6, .int 0), (5, .int 0), (4, .int 0), (3, .int 0), (2, .int r5), (1, .ref x3), (0, .ref k0)]) C.x C.b dX0_toInt_81 hl (by decide) rfl (fun ls hl => ?_)
            have lp83 : ∀ (n : Nat) (y34 : Int32) (y35 : Int32) (H : Heap) (locs : List Loc) (ls : Array Slot), (r5.toInt - y35.toInt).toNat < n → ((0 ≤ y35.toInt) ∧ (∀ (q7 q8 : Nat → Option Nat) (v : QV), VALq κ.2.2.2.2 sa q7 q8 k0 v → v.1 = 4 ∧ INL v.2.2.1 (0 : Int32).toInt y34.toInt y35.toInt 1)) → CH D cy ad A κ H → va_S A s.heap H locs → lv_has ls 8 [(6, .int y35), (5, .int y34), (4, .int 0), (3, .int 0), (2, .int r5), (1, .ref x3), (0, .ref k0)] → W p l e (headSpec (Cond.code yX0_toInt cX0_toInt 8 (some (.object "PhraseDesk$Value")) :: GWc) ({ frames := 4, cells := 1, slots := 5, locals := 85 })).room s m #[.ref k0] below meth c H locs (0 + 0 + 0) (0 + 0 + 0) (MQ below (va_Qq (fun (r : Option Nat) (u : PL) => ((EX κ.2.2.2.2 u) ∧ (PV sa u) ∧ (KPx True κ.2.2.2.2 u) ∧ (NT u 1 r)) ∧ (∀ (q7 q8 : Nat → Option Nat) (v : QV), VALq κ.2.2.2.2 sa q7 q8 k0 v → (r = (none : Option Nat) → qCvI v = none) ∧ (∀ x, r = some x → ∃ m : Int32, qCvI v = some m.toInt ∧ VALq u sa q7 q8 x (qInt m)))) (fun (u : PL) (t : State) => Bx D cy ad A sz sl (tP κ u) (1) (5) t) A) #[.ref k0] s (1) (5) A) (F0 m 83 ls []) := by
              intro n
              induction n with
              | zero => intro y34 y35 H locs ls hn; exact absurd hn (Nat.not_lt_zero _)
              | succ n83 ih83 =>
                intro y34 y35 H locs ls hn83  hi83 hP hS hl
                obtain ⟨hi83, hi83y⟩ := hi83
                refine lv_iload C.x C.b dX0_toInt_83 (lv_at hl 0 rfl) ?_
                refine lv_iload_n C.x C.b dX0_toInt_85 rfl (lv_at hl 4 rfl) ?_
                refine lv_icmp_ge (tgt := 132) C.x C.b dX0_toInt_86 (by decide) (fun c36 => ?_) (fun c36 => ?_)
                · have c36 : r5.toInt ≤ y35.toInt := by have h := z_le c36; exact h
                  refine lv_iload_n C.x C.b dX0_toInt_132 rfl (lv_at hl 3 rfl) ?_
                  refine lv_if_eq (tgt := 142) C.x C.b dX0_toInt_133 (by decide) (fun _ => ?_) (fun c37 => absurd (by decide +kernel) c37)
                  refine lv_iload C.x C.b dX0_toInt_142 (lv_at hl 1 rfl) ?_
                  refine c_callSq (C2 := "") (b := 0) (n := 1) (As := [.int y34]) (rest := []) C hP hS hl.1 (NX10_ofInt l D cy ad A sz0 sa κ H.size (SLT H) C.f (fun q h => C.a q (Nat.le_trans hS.1 h)) y34 hPV) ⟨cw_95, cw_97, by decide +kernel⟩ ⟨cw_96, cw_40⟩ rfl rfl (lv_room (Nat.le_of_ble_eq_true rfl)) ⟨Nat.le_of_ble_eq_true rfl, Nat.le_of_ble_eq_true rfl⟩ ⟨(Nat.le_of_ble_eq_true rfl), (Nat.le_of_ble_eq_true rfl)⟩ dX0_toInt_144 (fun r38 u H locs hr38 hP hS => ?_)
                  obtain ⟨P39, rfl⟩ : ∃ z, z = u := ⟨_, rfl⟩
                  have hP : CH D cy ad A (tP κ P39) H := hP
                  obtain ⟨hr38, hr38y⟩ := hr38
                  have hr38y : ∀ q7 q8 : Nat → Option Nat, VALq P39 sa q7 q8 (r38.getD 0) (qInt y34) := hr38y
                  have hr38 : (EX κ.2.2.2.2 P39) ∧ (PV sa P39) ∧ (KPx True κ.2.2.2.2 P39) ∧ (NN P39 1 r38) := hr38
                  obtain ⟨hr38_0, hr38_1, hr38_2, hr38_3⟩ := hr38
                  have kpz40 : KPx True κ.2.2.2.2 P39 := KPx.rf.trans hr38_2
                  obtain ⟨b41, rfl, tb41⟩ := hr38_3
                  exact c_retq (v := (some b41)) (Or.inl ⟨_, rfl⟩) C hsz hsl P39 ⟨⟨hr38_0, hr38_1, kpz40, (nt_s tb41)⟩, (vX0_toInt_20 sa κ k0 x1 x3 n4 r5 r27 x30 x32 y34 y35 P39 b41 ht0 hPV ex1 c2 ex3 len4 hr5y hr5 c6 hr27y hr27_0 hr27_1 c28 ex30 tx30 c31 ex32 tx32 c33 hi83 hi83y c36 hr38_0 hr38_2 hr38y)⟩ hP hS ⟨(Nat.le_of_ble_eq_true rfl), (Nat.le_of_ble_eq_true rfl)⟩ ⟨(Nat.le_of_ble_eq_true rfl), (Nat.le_of_ble_eq_true rfl)⟩ dX0_toInt_147
                · have c36 : y35.toInt < r5.toInt := by have h := z_nle c36; exact h
                  refine lv_aload_n C.x C.b dX0_toInt_89 rfl (lv_at hl 5 rfl) ?_
                  refine lv_iload C.x C.b dX0_toInt_90 (lv_at hl 0 rfl) ?_
                  refine c_callVi (n := 1) (As := [.int y35]) (rest := []) C hP hS hl.1 (NJ0_charAt_5068e l D cy ad A sz0 sa κ H.size (SLT H) C.f (fun q h => C.a q (Nat.le_trans hS.1 h)) x3 n4 y35 sln4 hPV (vX0_toInt_21 n4 r5 x30 x32 y35 len4 hr5 c6 ex30 tx30 c31 ex32 tx32 c33 hi83 c36)) ⟨cw_106, cw_109, by decide +kernel⟩ ⟨cw_107, cw_108, cw_70⟩ rfl (c_srecv C hP hS hx3) rfl rfl (lv_room (Nat.le_of_ble_eq_true rfl)) ⟨Nat.le_of_ble_eq_true rfl, Nat.le_of_ble_eq_true rfl⟩ ⟨(Nat.le_of_ble_eq_true rfl), (Nat.le_of_ble_eq_true rfl)⟩ dX0_toInt_92 (fun r42 u H locs hr42 hP hS => ?_)
                  obtain ⟨hr42, hr42y⟩ := hr42
                  have hr42y : ∀ s9 : List Int, TXq κ.2.2.2.2 sa x3 s9 → CHS s9 → r42.toInt = s9.getD y35.toInt.toNat 0 := hr42y
                  have hr42 : (0 ≤ r42.toInt ∧ r42.toInt ≤ 65535) := hr42
                  obtain ⟨hr42_0, hr42_1⟩ := hr42
                  refine lv_istore (lv' := [(7, .int r42), (6, .int y35), (5, .int y34), (4, .int 0), (3, .int 0), (2, .int r5), (1, .ref x3), (0, .ref k0)]) C.x C.b dX0_toInt_95 hl (by decide) rfl (fun ls hl => ?_)
                  refine lv_iload C.x C.b dX0_toInt_97 (lv_at hl 0 rfl) ?_
                  refine lv_bipush (v := 48) C.x C.b dX0_toInt_99 (by decide +kernel) ?_
                  refine lv_icmp_lt (tgt := 111) C.x C.b dX0_toInt_101 (by decide) (fun c43 => ?_) (fun c43 => ?_)
                  · have c43 : r42.toInt < 48 := by have h := z_lt c43; rw [show (48 : Int32).toInt = 48 from by decide +kernel] at h; exact h
                    refine lv_null C.x C.b dX0_toInt_111 ?_
                    have hP : CH D cy ad A (tP κ κ.2.2.2.2) H := CH.cong hP rfl rfl rfl rfl rfl rfl rfl rfl rfl rfl rfl rfl rfl rfl rfl rfl rfl rfl rfl rfl rfl rfl rfl rfl rfl rfl rfl
                    exact c_retq (v := none) (Or.inl ⟨_, rfl⟩) C hsz hsl κ.2.2.2.2 ⟨⟨EX.rf, hPV, KPx.rf, nt_n⟩, (vX0_toInt_22 sa κ k0 x1 x3 n4 r5 r27 x30 x32 y34 y35 r42 ht0 hPV ex1 c2 ex3 len4 hr5y hr5 c6 hr27y hr27_0 hr27_1 c28 ex30 tx30 c31 ex32 tx32 c33 hi83 hi83y c36 hr42y hr42_0 hr42_1 c43)⟩ hP hS ⟨(Nat.le_of_ble_eq_true rfl), (Nat.le_of_ble_eq_true rfl)⟩ ⟨(Nat.le_of_ble_eq_true rfl), (Nat.le_of_ble_eq_true rfl)⟩ dX0_toInt_112
                  · have c43 : 48 ≤ r42.toInt := by have h := z_nlt c43; rw [show (48 : Int32).toInt = 48 from by decide +kernel] at h; exact h
                    refine lv_iload C.x C.b dX0_toInt_104 (lv_at hl 0 rfl) ?_
                    refine lv_bipush (v := 57) C.x C.b dX0_toInt_106 (by decide +kernel) ?_
                    refine lv_icmp_le (tgt := 113) C.x C.b dX0_toInt_108 (by decide) (fun c44 => ?_) (fun c44 => ?_)
                    · have c44 : r42.toInt ≤ 57 := by have h := z_le c44; rw [show (57 : Int32).toInt = 57 from by decide +kernel] at h; exact h
                      refine lv_iload C.x C.b dX0_toInt_113 (lv_at hl 2 rfl) ?_
                      refine lv_bipush (v := 10) C.x C.b dX0_toInt_115 (by decide +kernel) ?_
                      refine lv_imul C.x C.b dX0_toInt_117 ?_
                      refine lv_topi (fun x45 ex45 => ?_)
                      refine lv_iload C.x C.b dX0_toInt_118 (lv_at hl 0 rfl) ?_
                      refine lv_bipush (v := 48) C.x C.b dX0_toInt_120 (by decide +kernel) ?_
                      refine lv_isub C.x C.b dX0_toInt_122 ?_
                      refine lv_topi (fun x46 ex46 => ?_)
                      refine lv_iadd C.x C.b dX0_toInt_123 ?_
                      refine lv_topi (fun x47 ex47 => ?_)
                      refine lv_istore (lv' := [(5, .int x47), (7, .int r42), (6, .int y35), (4, .int 0), (3, .int 0), (2, .int r5), (1, .ref x3), (0, .ref k0)]) C.x C.b dX0_toInt_124 hl (by decide) rfl (fun ls hl => ?_)
                      obtain ⟨x48, ex48⟩ : ∃ y : Int32, y = y35 + (1 : Int32) := ⟨_, rfl⟩
                      have tx48 : x48.toInt = y35.toInt + 1 := (vX0_toInt_23 n4 r5 x30 x32 y35 x48 len4 hr5 c6 ex30 tx30 c31 ex32 tx32 c33 hi83 c36 ex48)
                      refine lv_iinc (v := x48) (lv' := [(6, .int x48), (5, .int x47), (7, .int r42), (4, .int 0), (3, .int 0), (2, .int r5), (1, .ref x3), (0, .ref k0)]) C.x C.b dX0_toInt_126 hl (k := 2) rfl (by rw [ex48]; rfl) (by decide) rfl (fun ls hl => ?_)
                      refine lv_goto (tgt := 83) C.x C.b dX0_toInt_129 (by decide) ?_
                      refine W.widen (k := 0 + 0 + 0) (n := 0 + 0 + 0) (Nat.le_of_ble_eq_true rfl) (Nat.le_of_ble_eq_true rfl) ?_
                      exact ih83 x47 x48 _ _ _ (Nat.lt_of_lt_of_le (vX0_toInt_26 n4 r5 x30 x32 y35 x48 len4 hr5 c6 ex30 tx30 c31 ex32 tx32 c33 hi83 c36 ex48 tx48) (Nat.le_of_lt_succ hn83))  ⟨(vX0_toInt_24 n4 r5 x30 x32 y35 x48 len4 hr5 c6 ex30 tx30 c31 ex32 tx32 c33 hi83 c36 ex48 tx48), (vX0_toInt_25 sa κ k0 x1 x3 n4 r5 r27 x30 x32 y34 y35 r42 x45 x46 x47 x48 ht0 hPV ex1 c2 ex3 len4 hr5y hr5 c6 hr27y hr27_0 hr27_1 c28 ex30 tx30 c31 ex32 tx32 c33 hi83 hi83y c36 hr42y hr42_0 hr42_1 c43 c44 ex45 ex46 ex47 ex48 tx48)⟩ hP hS (lv_sub hl [0, 1, 3, 4, 5, 6, 7] rfl)
                    · have c44 : 57 < r42.toInt := by have h := z_nle c44; rw [show (57 : Int32).toInt = 57 from by decide +kernel] at h; exact h
                      refine lv_null C.x C.b dX0_toInt_111 ?_
                      have hP : CH D cy ad A (tP κ κ.2.2.2.2) H := CH.cong hP rfl rfl rfl rfl rfl rfl rfl rfl rfl rfl rfl rfl rfl rfl rfl rfl rfl rfl rfl rfl rfl rfl rfl rfl rfl rfl rfl
                      exact c_retq (v := none) (Or.inl ⟨_, rfl⟩) C hsz hsl κ.2.2.2.2 ⟨⟨EX.rf, hPV, KPx.rf, nt_n⟩, (vX0_toInt_27 sa κ k0 x1 x3 n4 r5 r27 x30 x32 y34 y35 r42 ht0 hPV ex1 c2 ex3 len4 hr5y hr5 c6 hr27y hr27_0 hr27_1 c28 ex30 tx30 c31 ex32 tx32 c33 hi83 hi83y c36 hr42y hr42_0 hr42_1 c43 c44)⟩ hP hS ⟨(Nat.le_of_ble_eq_true rfl), (Nat.le_of_ble_eq_true rfl)⟩ ⟨(Nat.le_of_ble_eq_true rfl), (Nat.le_of_ble_eq_true rfl)⟩ dX0_toInt_112
            refine W.widen (k := 0 + 0 + 0) (n := 0 + 0 + 0) (Nat.le_of_ble_eq_true rfl) (Nat.le_of_ble_eq_true rfl) ?_
            exact lp83 ((r5.toInt - (0 : Int32).toInt).toNat + 1) (0 : Int32) (0 : Int32) _ _ _ (Nat.lt_succ_self _)  ⟨(vX0_toInt_4  ), (vX0_toInt_19 sa κ k0 x1 x3 n4 r5 r27 x30 x32 ht0 hPV ex1 c2 ex3 len4 hr5y hr5 c6 hr27y hr27_0 hr27_1 c28 ex30 tx30 c31 ex32 tx32 c33)⟩ hP hS (lv_sub hl [0, 1, 2, 3, 4, 5, 6] rfl)
          · have c33 : 9 < x32.toInt := by have h := z_nle c33; rw [show (9 : Int32).toInt = 9 from by decide +kernel] at h; exact h
            refine lv_null C.x C.b dX0_toInt_74 ?_
            have hP : CH D cy ad A (tP κ κ.2.2.2.2) H := CH.cong hP rfl rfl rfl rfl rfl rfl rfl rfl rfl rfl rfl rfl rfl rfl rfl rfl rfl rfl rfl rfl rfl rfl rfl rfl rfl rfl rfl
            exact c_retq (v := none) (Or.inl ⟨_, rfl⟩) C hsz hsl κ.2.2.2.2 ⟨⟨EX.rf, hPV, KPx.rf, nt_n⟩, (vX0_toInt_28 sa κ k0 x1 x3 n4 r5 r27 x30 x32 ht0 hPV ex1 c2 ex3 len4 hr5y hr5 c6 hr27y hr27_0 hr27_1 c28 ex30 tx30 c31 ex32 tx32 c33)⟩ hP hS ⟨(Nat.le_of_ble_eq_true rfl), (Nat.le_of_ble_eq_true rfl)⟩ ⟨(Nat.le_of_ble_eq_true rfl), (Nat.le_of_ble_eq_true rfl)⟩ dX0_toInt_75
      · have c28 : r27.toInt = 45 := by have h := z_eq c28; rw [show (45 : Int32).toInt = 45 from by decide +kernel] at h; exact h
        refine lv_iconst (v := 1) C.x C.b dX0_toInt_40 (by decide +kernel) ?_
        refine lv_goto (tgt := 45) C.x C.b dX0_toInt_41 (by decide) ?_
        refine lv_istore_n (lv' := [(3, .int 1), (2, .int r5), (1, .ref x3), (0, .ref k0)]) C.x C.b dX0_toInt_45 rfl hl (by decide) rfl (fun ls hl => ?_)
        refine lv_iload_n C.x C.b dX0_toInt_46 rfl (lv_at hl 0 rfl) ?_
        refine lv_if_eq (tgt := 54) C.x C.b dX0_toInt_47 (by decide) (fun c49 => absurd c49 (by decide +kernel)) (fun _ => ?_)
        refine lv_iconst (v := 1) C.x C.b dX0_toInt_50 (by decide +kernel) ?_
        refine lv_goto (tgt := 55) C.x C.b dX0_toInt_51 (by decide) ?_
        refine lv_istore (lv' := [(4, .int 1), (3, .int 1), (2, .int r5), (1, .ref x3), (0, .ref k0)]) C.x C.b dX0_toInt_55 hl (by decide) rfl (fun ls hl => ?_)
        refine lv_iload_n C.x C.b dX0_toInt_57 rfl (lv_at hl 2 rfl) ?_
        refine lv_iload C.x C.b dX0_toInt_58 (lv_at hl 0 rfl) ?_
        refine lv_isub C.x C.b dX0_toInt_60 ?_
        refine lv_topi (fun x50 ex50 => ?_)
        have tx50 : x50.toInt = r5.toInt - 1 := (vX0_toInt_29 n4 r5 x50 len4 hr5 c6 ex50)
        refine lv_iconst (v := 1) C.x C.b dX0_toInt_61 (by decide +kernel) ?_
        refine lv_icmp_lt (tgt := 74) C.x C.b dX0_toInt_62 (by decide) (fun c51 => ?_) (fun c51 => ?_)
        · have c51 : x50.toInt < 1 := by have h := z_lt c51; rw [show (1 : Int32).toInt = 1 from by decide +kernel] at h; exact h
          refine lv_null C.x C.b dX0_toInt_74 ?_
          have hP : CH D cy ad A (tP κ κ.2.2.2.2) H := CH.cong hP rfl rfl rfl rfl rfl rfl rfl rfl rfl rfl rfl rfl rfl rfl rfl rfl rfl rfl rfl rfl rfl rfl rfl rfl rfl rfl rfl
          exact c_retq (v := none) (Or.inl ⟨_, rfl⟩) C hsz hsl κ.2.2.2.2 ⟨⟨EX.rf, hPV, KPx.rf, nt_n⟩, (vX0_toInt_30 sa κ k0 x1 x3 n4 r5 r27 x50 ht0 hPV ex1 c2 ex3 len4 hr5y hr5 c6 hr27y hr27_0 hr27_1 c28 ex50 tx50 c51)⟩ hP hS ⟨(Nat.le_of_ble_eq_true rfl), (Nat.le_of_ble_eq_true rfl)⟩ ⟨(Nat.le_of_ble_eq_true rfl), (Nat.le_of_ble_eq_true rfl)⟩ dX0_toInt_75
        · have c51 : 1 ≤ x50.toInt := by have h := z_nlt c51; rw [show (1 : Int32).toInt = 1 from by decide +kernel] at h; exact h
          refine lv_iload_n C.x C.b dX0_toInt_65 rfl (lv_at hl 2 rfl) ?_
          refine lv_iload C.x C.b dX0_toInt_66 (lv_at hl 0 rfl) ?_
          refine lv_isub C.x C.b dX0_toInt_68 ?_
          refine lv_topi (fun x52 ex52 => ?_)
          have tx52 : x52.toInt = r5.toInt - 1 := (vX0_toInt_31 n4 r5 x50 x52 len4 hr5 c6 ex50 tx50 c51 ex52)
          refine lv_bipush (v := 9) C.x C.b dX0_toInt_69 (by decide +kernel) ?_
          refine lv_icmp_le (tgt := 76) C.x C.b dX0_toInt_71 (by decide) (fun c53 => ?_) (fun c53 => ?_)
          · have c53 : x52.toInt ≤ 9 := by have h := z_le c53; rw [show (9 : Int32).toInt = 9 from by decide +kernel] at h; exact h
            refine lv_iconst (v := 0) C.x C.b dX0_toInt_76 (by decide +kernel) ?_
            refine lv_istore (lv' := [(5, .int 0), (4, .int 1), (3, .int 1), (2, .int r5), (1, .ref x3), (0, .ref k0)]) C.x C.b dX0_toInt_77 hl (by decide) rfl (fun ls hl => ?_)
            refine lv_iload C.x C.b dX0_toInt_79 (lv_at hl 1 rfl) ?_
            refine lv_istore (lv' := [(6, .int 1), (5, .int 0), (4, .int 1), (3, .int 1), (2, .int r5), (1, .ref x3), (0, .ref k0)]) C.x C.b dX0_toInt_81 hl (by decide) rfl (fun ls hl => ?_)
            have lp83 : ∀ (n : Nat) (y54 : Int32) (y55 : Int32) (H : Heap) (locs : List Loc) (ls : Array Slot), (r5.toInt - y55.toInt).toNat < n → ((0 ≤ y55.toInt) ∧ (∀ (q7 q8 : Nat → Option Nat) (v : QV), VALq κ.2.2.2.2 sa q7 q8 k0 v → v.1 = 4 ∧ INL v.2.2.1 (1 : Int32).toInt y54.toInt y55.toInt 1)) → CH D cy ad A κ H → va_S A s.heap H locs → lv_has ls 8 [(6, .int y55), (5, .int y54), (4, .int 1), (3, .int 1), (2, .int r5), (1, .ref x3), (0, .ref k0)] → W p l e (headSpec (Cond.code yX0_toInt cX0_toInt 8 (some (.object "PhraseDesk$Value")) :: GWc) ({ frames := 4, cells := 1, slots := 5, locals := 85 })).room s m #[.ref k0] below meth c H locs (0 + 0 + 0) (0 + 0 + 0) (MQ below (va_Qq (fun (r : Option Nat) (u : PL) => ((EX κ.2.2.2.2 u) ∧ (PV sa u) ∧ (KPx True κ.2.2.2.2 u) ∧ (NT u 1 r)) ∧ (∀ (q7 q8 : Nat → Option Nat) (v : QV), VALq κ.2.2.2.2 sa q7 q8 k0 v → (r = (none : Option Nat) → qCvI v = none) ∧ (∀ x, r = some x → ∃ m : Int32, qCvI v = some m.toInt ∧ VALq u sa q7 q8 x (qInt m)))) (fun (u : PL) (t : State) => Bx D cy ad A sz sl (tP κ u) (1) (5) t) A) #[.ref k0] s (1) (5) A) (F0 m 83 ls []) := by
              intro n
              induction n with
              | zero => intro y54 y55 H locs ls hn; exact absurd hn (Nat.not_lt_zero _)
              | succ n83 ih83 =>
                intro y54 y55 H locs ls hn83  hi83 hP hS hl
                obtain ⟨hi83, hi83y⟩ := hi83
                refine lv_iload C.x C.b dX0_toInt_83 (lv_at hl 0 rfl) ?_
                refine lv_iload_n C.x C.b dX0_toInt_85 rfl (lv_at hl 4 rfl) ?_
                refine lv_icmp_ge (tgt := 132) C.x C.b dX0_toInt_86 (by decide) (fun c56 => ?_) (fun c56 => ?_)
                · have c56 : r5.toInt ≤ y55.toInt := by have h := z_le c56; exact h
                  refine lv_iload_n C.x C.b dX0_toInt_132 rfl (lv_at hl 3 rfl) ?_
                  refine lv_if_eq (tgt := 142) C.x C.b dX0_toInt_133 (by decide) (fun c57 => absurd c57 (by decide +kernel)) (fun _ => ?_)
                  refine lv_iload C.x C.b dX0_toInt_136 (lv_at hl 1 rfl) ?_
                  refine lv_ineg C.x C.b dX0_toInt_138 ?_
                  refine lv_topi (fun x58 ex58 => ?_)
                  refine lv_goto (tgt := 144) C.x C.b dX0_toInt_139 (by decide) ?_
                  refine c_callSq (C2 := "") (b := 0) (n := 1) (As := [.int x58]) (rest := []) C hP hS hl.1 (NX10_ofInt l D cy ad A sz0 sa κ H.size (SLT H) C.f (fun q h => C.a q (Nat.le_trans hS.1 h)) x58 hPV) ⟨cw_95, cw_97, by decide +kernel⟩ ⟨cw_96, cw_40⟩ rfl rfl (lv_room (Nat.le_of_ble_eq_true rfl)) ⟨Nat.le_of_ble_eq_true rfl, Nat.le_of_ble_eq_true rfl⟩ ⟨(Nat.le_of_ble_eq_true rfl), (Nat.le_of_ble_eq_true rfl)⟩ dX0_toInt_144 (fun r59 u H locs hr59 hP hS => ?_)
                  obtain ⟨P60, rfl⟩ : ∃ z, z = u := ⟨_, rfl⟩
                  have hP : CH D cy ad A (tP κ P60) H := hP
                  obtain ⟨hr59, hr59y⟩ := hr59
                  have hr59y : ∀ q7 q8 : Nat → Option Nat, VALq P60 sa q7 q8 (r59.getD 0) (qInt x58) := hr59y
                  have hr59 : (EX κ.2.2.2.2 P60) ∧ (PV sa P60) ∧ (KPx True κ.2.2.2.2 P60) ∧ (NN P60 1 r59) := hr59
                  obtain ⟨hr59_0, hr59_1, hr59_2, hr59_3⟩ := hr59
                  have kpz61 : KPx True κ.2.2.2.2 P60 := KPx.rf.trans hr59_2
                  obtain ⟨b62, rfl, tb62⟩ := hr59_3
                  exact c_retq (v := (some b62)) (Or.inl ⟨_, rfl⟩) C hsz hsl P60 ⟨⟨hr59_0, hr59_1, kpz61, (nt_s tb62)⟩, (vX0_toInt_34 sa κ k0 x1 x3 n4 r5 r27 x50 x52 y54 y55 x58 P60 b62 ht0 hPV ex1 c2 ex3 len4 hr5y hr5 c6 hr27y hr27_0 hr27_1 c28 ex50 tx50 c51 ex52 tx52 c53 hi83 hi83y c56 ex58 hr59_0 hr59_2 hr59y)⟩ hP hS ⟨(Nat.le_of_ble_eq_true rfl), (Nat.le_of_ble_eq_true rfl)⟩ ⟨(Nat.le_of_ble_eq_true rfl), (Nat.le_of_ble_eq_true rfl)⟩ dX0_toInt_147
                · have c56 : y55.toInt < r5.toInt := by have h := z_nle c56; exact h
                  refine lv_aload_n C.x C.b dX0_toInt_89 rfl (lv_at hl 5 rfl) ?_
                  refine lv_iload C.x C.b dX0_toInt_90 (lv_at hl 0 rfl) ?_
                  refine c_callVi (n := 1) (As := [.int y55]) (rest := []) C hP hS hl.1 (NJ0_charAt_5068e l D cy ad A sz0 sa κ H.size (SLT H) C.f (fun q h => C.a q (Nat.le_trans hS.1 h)) x3 n4 y55 sln4 hPV (vX0_toInt_35 n4 r5 x50 x52 y55 len4 hr5 c6 ex50 tx50 c51 ex52 tx52 c53 hi83 c56)) ⟨cw_106, cw_109, by decide +kernel⟩ ⟨cw_107, cw_108, cw_70⟩ rfl (c_srecv C hP hS hx3) rfl rfl (lv_room (Nat.le_of_ble_eq_true rfl)) ⟨Nat.le_of_ble_eq_true rfl, Nat.le_of_ble_eq_true rfl⟩ ⟨(Nat.le_of_ble_eq_true rfl), (Nat.le_of_ble_eq_true rfl)⟩ dX0_toInt_92 (fun r63 u H locs hr63 hP hS => ?_)
                  obtain ⟨hr63, hr63y⟩ := hr63
                  have hr63y : ∀ s9 : List Int, TXq κ.2.2.2.2 sa x3 s9 → CHS s9 → r63.toInt = s9.getD y55.toInt.toNat 0 := hr63y
                  have hr63 : (0 ≤ r63.toInt ∧ r63.toInt ≤ 65535) := hr63
                  obtain ⟨hr63_0, hr63_1⟩ := hr63
                  refine lv_istore (lv' := [(7, .int r63), (6, .int y55), (5, .int y54), (4, .int 1), (3, .int 1), (2, .int r5), (1, .ref x3), (0, .ref k0)]) C.x C.b dX0_toInt_95 hl (by decide) rfl (fun ls hl => ?_)
                  refine lv_iload C.x C.b dX0_toInt_97 (lv_at hl 0 rfl) ?_
                  refine lv_bipush (v := 48) C.x C.b dX0_toInt_99 (by decide +kernel) ?_
                  refine lv_icmp_lt (tgt := 111) C.x C.b dX0_toInt_101 (by decide) (fun c64 => ?_) (fun c64 => ?_)
                  · have c64 : r63.toInt < 48 := by have h := z_lt c64; rw [show (48 : Int32).toInt = 48 from by decide +kernel] at h; exact h
                    refine lv_null C.x C.b dX0_toInt_111 ?_
                    have hP : CH D cy ad A (tP κ κ.2.2.2.2) H := CH.cong hP rfl rfl rfl rfl rfl rfl rfl rfl rfl rfl rfl rfl rfl rfl rfl rfl rfl rfl rfl rfl rfl rfl rfl rfl rfl rfl rfl
                    exact c_retq (v := none) (Or.inl ⟨_, rfl⟩) C hsz hsl κ.2.2.2.2 ⟨⟨EX.rf, hPV, KPx.rf, nt_n⟩, (vX0_toInt_36 sa κ k0 x1 x3 n4 r5 r27 x50 x52 y54 y55 r63 ht0 hPV ex1 c2 ex3 len4 hr5y hr5 c6 hr27y hr27_0 hr27_1 c28 ex50 tx50 c51 ex52 tx52 c53 hi83 hi83y c56 hr63y hr63_0 hr63_1 c64)⟩ hP hS ⟨(Nat.le_of_ble_eq_true rfl), (Nat.le_of_ble_eq_true rfl)⟩ ⟨(Nat.le_of_ble_eq_true rfl), (Nat.le_of_ble_eq_true rfl)⟩ dX0_toInt_112
                  · have c64 : 48 ≤ r63.toInt := by have h := z_nlt c64; rw [show (48 : Int32).toInt = 48 from by decide +kernel] at h; exact h
                    refine lv_iload C.x C.b dX0_toInt_104 (lv_at hl 0 rfl) ?_
                    refine lv_bipush (v := 57) C.x C.b dX0_toInt_106 (by decide +kernel) ?_
                    refine lv_icmp_le (tgt := 113) C.x C.b dX0_toInt_108 (by decide) (fun c65 => ?_) (fun c65 => ?_)
                    · have c65 : r63.toInt ≤ 57 := by have h := z_le c65; rw [show (57 : Int32).toInt = 57 from by decide +kernel] at h; exact h
                      refine lv_iload C.x C.b dX0_toInt_113 (lv_at hl 2 rfl) ?_
                      refine lv_bipush (v := 10) C.x C.b dX0_toInt_115 (by decide +kernel) ?_
                      refine lv_imul C.x C.b dX0_toInt_117 ?_
                      refine lv_topi (fun x66 ex66 => ?_)
                      refine lv_iload C.x C.b dX0_toInt_118 (lv_at hl 0 rfl) ?_
                      refine lv_bipush (v := 48) C.x C.b dX0_toInt_120 (by decide +kernel) ?_
                      refine lv_isub C.x C.b dX0_toInt_122 ?_
                      refine lv_topi (fun x67 ex67 => ?_)
                      refine lv_iadd C.x C.b dX0_toInt_123 ?_
                      refine lv_topi (fun x68 ex68 => ?_)
                      refine lv_istore (lv' := [(5, .int x68), (7, .int r63), (6, .int y55), (4, .int 1), (3, .int 1), (2, .int r5), (1, .ref x3), (0, .ref k0)]) C.x C.b dX0_toInt_124 hl (by decide) rfl (fun ls hl => ?_)
                      obtain ⟨x69, ex69⟩ : ∃ y : Int32, y = y55 + (1 : Int32) := ⟨_, rfl⟩
                      have tx69 : x69.toInt = y55.toInt + 1 := (vX0_toInt_37 n4 r5 x50 x52 y55 x69 len4 hr5 c6 ex50 tx50 c51 ex52 tx52 c53 hi83 c56 ex69)
                      refine lv_iinc (v := x69) (lv' := [(6, .int x69), (5, .int x68), (7, .int r63), (4, .int 1), (3, .int 1), (2, .int r5), (1, .ref x3), (0, .ref k0)]) C.x C.b dX0_toInt_126 hl (k := 2) rfl (by rw [ex69]; rfl) (by decide) rfl (fun ls hl => ?_)
                      refine lv_goto (tgt := 83) C.x C.b dX0_toInt_129 (by decide) ?_
                      refine W.widen (k := 0 + 0 + 0) (n := 0 + 0 + 0) (Nat.le_of_ble_eq_true rfl) (Nat.le_of_ble_eq_true rfl) ?_
                      exact ih83 x68 x69 _ _ _ (Nat.lt_of_lt_of_le (vX0_toInt_40 n4 r5 x50 x52 y55 x69 len4 hr5 c6 ex50 tx50 c51 ex52 tx52 c53 hi83 c56 ex69 tx69) (Nat.le_of_lt_succ hn83))  ⟨(vX0_toInt_38 n4 r5 x50 x52 y55 x69 len4 hr5 c6 ex50 tx50 c51 ex52 tx52 c53 hi83 c56 ex69 tx69), (vX0_toInt_39 sa κ k0 x1 x3 n4 r5 r27 x50 x52 y54 y55 r63 x66 x67 x68 x69 ht0 hPV ex1 c2 ex3 len4 hr5y hr5 c6 hr27y hr27_0 hr27_1 c28 ex50 tx50 c51 ex52 tx52 c53 hi83 hi83y c56 hr63y hr63_0 hr63_1 c64 c65 ex66 ex67 ex68 ex69 tx69)⟩ hP hS (lv_sub hl [0, 1, 3, 4, 5, 6, 7] rfl)
                    · have c65 : 57 < r63.toInt := by have h := z_nle c65; rw [show (57 : Int32).toInt = 57 from by decide +kernel] at h; exact h
                      refine lv_null C.x C.b dX0_toInt_111 ?_
                      have hP : CH D cy ad A (tP κ κ.2.2.2.2) H := CH.cong hP rfl rfl rfl rfl rfl rfl rfl rfl rfl rfl rfl rfl rfl rfl rfl rfl rfl rfl rfl rfl rfl rfl rfl rfl rfl rfl rfl
                      exact c_retq (v := none) (Or.inl ⟨_, rfl⟩) C hsz hsl κ.2.2.2.2 ⟨⟨EX.rf, hPV, KPx.rf, nt_n⟩, (vX0_toInt_41 sa κ k0 x1 x3 n4 r5 r27 x50 x52 y54 y55 r63 ht0 hPV ex1 c2 ex3 len4 hr5y hr5 c6 hr27y hr27_0 hr27_1 c28 ex50 tx50 c51 ex52 tx52 c53 hi83 hi83y c56 hr63y hr63_0 hr63_1 c64 c65)⟩ hP hS ⟨(Nat.le_of_ble_eq_true rfl), (Nat.le_of_ble_eq_true rfl)⟩ ⟨(Nat.le_of_ble_eq_true rfl), (Nat.le_of_ble_eq_true rfl)⟩ dX0_toInt_112
            refine W.widen (k := 0 + 0 + 0) (n := 0 + 0 + 0) (Nat.le_of_ble_eq_true rfl) (Nat.le_of_ble_eq_true rfl) ?_
            exact lp83 ((r5.toInt - (1 : Int32).toInt).toNat + 1) (0 : Int32) (1 : Int32) _ _ _ (Nat.lt_succ_self _)  ⟨(vX0_toInt_32  ), (vX0_toInt_33 sa κ k0 x1 x3 n4 r5 r27 x50 x52 ht0 hPV ex1 c2 ex3 len4 hr5y hr5 c6 hr27y hr27_0 hr27_1 c28 ex50 tx50 c51 ex52 tx52 c53)⟩ hP hS (lv_sub hl [0, 1, 2, 3, 4, 5, 6] rfl)
          · have c53 : 9 < x52.toInt := by have h := z_nle c53; rw [show (9 : Int32).toInt = 9 from by decide +kernel] at h; exact h
            refine lv_null C.x C.b dX0_toInt_74 ?_
            have hP : CH D cy ad A (tP κ κ.2.2.2.2) H := CH.cong hP rfl rfl rfl rfl rfl rfl rfl rfl rfl rfl rfl rfl rfl rfl rfl rfl rfl rfl rfl rfl rfl rfl rfl rfl rfl rfl rfl
            exact c_retq (v := none) (Or.inl ⟨_, rfl⟩) C hsz hsl κ.2.2.2.2 ⟨⟨EX.rf, hPV, KPx.rf, nt_n⟩, (vX0_toInt_42 sa κ k0 x1 x3 n4 r5 r27 x50 x52 ht0 hPV ex1 c2 ex3 len4 hr5y hr5 c6 hr27y hr27_0 hr27_1 c28 ex50 tx50 c51 ex52 tx52 c53)⟩ hP hS ⟨(Nat.le_of_ble_eq_true rfl), (Nat.le_of_ble_eq_true rfl)⟩ ⟨(Nat.le_of_ble_eq_true rfl), (Nat.le_of_ble_eq_true rfl)⟩ dX0_toInt_75
  · have c2 : ¬ x1.toInt = 4 := by have h := z_ne c2; rw [show (4 : Int32).toInt = 4 from by decide +kernel] at h; exact h
    refine lv_aload_n C.x C.b dX0_toInt_8 rfl (lv_at hl 0 rfl) ?_
    obtain ⟨x70, ex70⟩ : ∃ z, oI κ.2.2.2.2 1 k0 = z := ⟨_, rfl⟩
    refine pg_X10_1 (v := x70) C hP (t20 (a := k0) (t := 1) ht0) ex70 cw_61 dX0_toInt_9 ?_
    refine c_callSq (C2 := "") (b := 0) (n := 1) (As := [.int x70]) (rest := []) C hP hS hl.1 (NX10_ofInt l D cy ad A sz0 sa κ s.heap.size (SLT s.heap) C.f (fun q h => C.a q (Nat.le_trans hS.1 h)) x70 hPV) ⟨cw_95, cw_97, by decide +kernel⟩ ⟨cw_96, cw_40⟩ rfl rfl (lv_room (Nat.le_of_ble_eq_true rfl)) ⟨Nat.le_of_ble_eq_true rfl, Nat.le_of_ble_eq_true rfl⟩ ⟨(Nat.le_of_ble_eq_true rfl), (Nat.le_of_ble_eq_true rfl)⟩ dX0_toInt_12 (fun r71 u H locs hr71 hP hS => ?_)
    obtain ⟨P72, rfl⟩ : ∃ z, z = u := ⟨_, rfl⟩
    have hP : CH D cy ad A (tP κ P72) H := hP
    obtain ⟨hr71, hr71y⟩ := hr71
    have hr71y : ∀ q7 q8 : Nat → Option Nat, VALq P72 sa q7 q8 (r71.getD 0) (qInt x70) := hr71y
    have hr71 : (EX κ.2.2.2.2 P72) ∧ (PV sa P72) ∧ (KPx True κ.2.2.2.2 P72) ∧ (NN P72 1 r71) := hr71
    obtain ⟨hr71_0, hr71_1, hr71_2, hr71_3⟩ := hr71
    have kpz73 : KPx True κ.2.2.2.2 P72 := KPx.rf.trans hr71_2
    obtain ⟨b74, rfl, tb74⟩ := hr71_3
    exact c_retq (v := (some b74)) (Or.inl ⟨_, rfl⟩) C hsz hsl P72 ⟨⟨hr71_0, hr71_1, kpz73, (nt_s tb74)⟩, (vX0_toInt_43 sa κ k0 x1 x70 P72 b74 ht0 hPV ex1 c2 ex70 hr71_0 hr71_2 hr71y)⟩ hP hS ⟨(Nat.le_of_ble_eq_true rfl), (Nat.le_of_ble_eq_true rfl)⟩ ⟨(Nat.le_of_ble_eq_true rfl), (Nat.le_of_ble_eq_true rfl)⟩ dX0_toInt_15
