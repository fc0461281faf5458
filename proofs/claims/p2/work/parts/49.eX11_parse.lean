-- pre:X6_read@26 @26
theorem vX11_parse_1 (κ : KS) (hpre_0 : L9 (κ.2.2.1 9)) (hpre_1 : 0 ≤ (κ.1 6).toInt) (hpre_2 : (κ.1 6).toInt ≤ 40) (hpre_3 : 0 ≤ (κ.1 7).toInt) (hpre_4 : (κ.1 7).toInt ≤ 41) : L9 (κ.2.2.1 9) ∧ 0 ≤ (κ.1 6).toInt ∧ (κ.1 6).toInt ≤ 40 ∧ 0 ≤ (κ.1 7).toInt ∧ (κ.1 7).toInt ≤ 41 := by
  refine ⟨?_, ?_, ?_, ?_, ?_⟩ <;> first | assumption | omega | (subst_vars; omega) | trivial
-- post @53
theorem vX11_parse_2 (κ : KS) (P4 : PL) (n5 : Int32) (n11 : Int32) (n12 : Int32) (n13 : Int32) (x15 : Int32) (x16 : Int32) (hpre_0 : L9 (κ.2.2.1 9)) (hpre_1 : 0 ≤ (κ.1 6).toInt) (hpre_2 : (κ.1 6).toInt ≤ 40) (hpre_3 : 0 ≤ (κ.1 7).toInt) (hpre_4 : (κ.1 7).toInt ≤ 41) (hpre_5 : 0 ≤ (κ.1 0).toInt) (hpre_6 : (κ.1 0).toInt ≤ 40) (hpre_7 : QC κ.2.2.2.2 (κ.2.2.2.1 6)) (c2 : (κ.1 0).toInt < 40) (hr3_4_0 : 0 ≤ n5.toInt) (hr3_4_1 : n5.toInt ≤ 41) (hr3_4_2 : ((cto P4 none : Nat) : Int) ≤ 82) (hr3_4_3 : n13.toInt = 0) (qcr : QC P4 (κ.2.2.2.1 6)) (ex15 : x15 = (-1000 : Int32) * n11) (ex16 : x16 = x15 - n12) : 0 ≤ n5.toInt ∧ n5.toInt ≤ 41 ∧ 0 ≤ (κ.1 0).toInt ∧ (κ.1 0).toInt ≤ 40 ∧ n13.toInt = 0 ∧ QC P4 (κ.2.2.2.1 6) := by
  have qm1000 : (-1000 : Int32).toInt = (-1000) := by decide +kernel
  have zc0 : cto P4 none = 0 := rfl
  refine ⟨?_, ?_, ?_, ?_, ?_, ?_⟩ <;> first | assumption | omega | exact QC.up qcr (by omega)
-- post2 @53
theorem vX11_parse_3 (κ : KS) (P4 : PL) (n5 : Int32) (n11 : Int32) (n12 : Int32) (n13 : Int32) (x15 : Int32) (x16 : Int32) (hpre_0 : L9 (κ.2.2.1 9)) (hpre_1 : 0 ≤ (κ.1 6).toInt) (hpre_2 : (κ.1 6).toInt ≤ 40) (hpre_3 : 0 ≤ (κ.1 7).toInt) (hpre_4 : (κ.1 7).toInt ≤ 41) (hpre_5 : 0 ≤ (κ.1 0).toInt) (hpre_6 : (κ.1 0).toInt ≤ 40) (hpre_7 : QC κ.2.2.2.2 (κ.2.2.2.1 6)) (c2 : (κ.1 0).toInt < 40) (hr3y : RDC (tx (κ.2.2.1 9) (κ.1 6)) (κ.1 6).toInt none n11.toInt n12.toInt) (hr3_4_0 : 0 ≤ n5.toInt) (hr3_4_1 : n5.toInt ≤ 41) (hr3_4_2 : ((cto P4 none : Nat) : Int) ≤ 82) (hr3_4_3 : n13.toInt = 0) (qcr : QC P4 (κ.2.2.2.1 6)) (ex15 : x15 = (-1000 : Int32) * n11) (ex16 : x16 = x15 - n12) : (κ.1 0).toInt < 40 ∧ PAC (tx (κ.2.2.1 9) (κ.1 6)) (κ.1 6).toInt x16 (κ.1 0) (κ.1 0) := by
  have qm1000 : (-1000 : Int32).toInt = (-1000) := by decide +kernel
  have zc0 : cto P4 none = 0 := rfl
  refine ⟨by omega, fun Lt => ?_⟩
  obtain ⟨R, h1, h2⟩ := hr3y Lt
  refine ⟨R, h1, ?_⟩
  subst h2
  refine ⟨⟨_, _, rfl, rfl, ?_⟩, rfl⟩
  subst_vars; rfl
-- in@63 @63
theorem vX11_parse_4 (κ : KS) (hpre_5 : 0 ≤ (κ.1 0).toInt) (hpre_6 : (κ.1 0).toInt ≤ 40) (c2 : (κ.1 0).toInt < 40) : vp_in (κ.1 0) 40 := by
  exact vp_in_iff.mpr ⟨by omega, by omega⟩
-- nw@70 @70
theorem vX11_parse_5 (κ : KS) (x18 : Int32) (hpre_5 : 0 ≤ (κ.1 0).toInt) (hpre_6 : (κ.1 0).toInt ≤ 40) (c2 : (κ.1 0).toInt < 40) (ex18 : x18 = (κ.1 0) + (1 : Int32)) : x18.toInt = (κ.1 0).toInt + 1 := by
  have q1 : (1 : Int32).toInt = 1 := by decide +kernel
  have w1 : (1 : Int32).toInt = 1 := by decide +kernel
  rw [ex18, z_add (by omega) (by omega)]; first | done | omega
-- nw@79 @79
theorem vX11_parse_6 (κ : KS) (x18 : Int32) (x19 : Int32) (hpre_5 : 0 ≤ (κ.1 0).toInt) (hpre_6 : (κ.1 0).toInt ≤ 40) (c2 : (κ.1 0).toInt < 40) (ex18 : x18 = (κ.1 0) + (1 : Int32)) (tx18 : x18.toInt = (κ.1 0).toInt + 1) (ex19 : x19 = x18 - (1 : Int32)) : x19.toInt = x18.toInt - 1 := by
  have q1 : (1 : Int32).toInt = 1 := by decide +kernel
  have w1 : (1 : Int32).toInt = 1 := by decide +kernel
  rw [ex19, z_sub (by omega) (by omega)]; first | done | omega
-- post @80
theorem vX11_parse_7 (κ : KS) (P4 : PL) (n5 : Int32) (n13 : Int32) (b14 : Nat) (x18 : Int32) (x19 : Int32) (hpre_0 : L9 (κ.2.2.1 9)) (hpre_1 : 0 ≤ (κ.1 6).toInt) (hpre_2 : (κ.1 6).toInt ≤ 40) (hpre_3 : 0 ≤ (κ.1 7).toInt) (hpre_4 : (κ.1 7).toInt ≤ 41) (hpre_5 : 0 ≤ (κ.1 0).toInt) (hpre_6 : (κ.1 0).toInt ≤ 40) (hpre_7 : QC κ.2.2.2.2 (κ.2.2.2.1 6)) (c2 : (κ.1 0).toInt < 40) (hr3_4_0 : 0 ≤ n5.toInt) (hr3_4_1 : n5.toInt ≤ 41) (hr3_4_2 : ((cto P4 (some b14) : Nat) : Int) ≤ 82) (hr3_4_3 : n13.toInt = 0) (qcr : QC P4 (κ.2.2.2.1 6)) (ex18 : x18 = (κ.1 0) + (1 : Int32)) (tx18 : x18.toInt = (κ.1 0).toInt + 1) (ex19 : x19 = x18 - (1 : Int32)) (tx19 : x19.toInt = x18.toInt - 1) : 0 ≤ n5.toInt ∧ n5.toInt ≤ 41 ∧ 0 ≤ x18.toInt ∧ x18.toInt ≤ 40 ∧ n13.toInt = 0 ∧ QC P4 (va_up (κ.2.2.2.1 6) (κ.1 0).toNatClampNeg (some b14)) := by
  have q1 : (1 : Int32).toInt = 1 := by decide +kernel
  refine ⟨?_, ?_, ?_, ?_, ?_, ?_⟩ <;> first | assumption | omega | exact QC.up qcr (by omega)
-- post2 @80
theorem vX11_parse_8 (κ : KS) (P4 : PL) (n5 : Int32) (n11 : Int32) (n12 : Int32) (n13 : Int32) (b14 : Nat) (x18 : Int32) (x19 : Int32) (hpre_0 : L9 (κ.2.2.1 9)) (hpre_1 : 0 ≤ (κ.1 6).toInt) (hpre_2 : (κ.1 6).toInt ≤ 40) (hpre_3 : 0 ≤ (κ.1 7).toInt) (hpre_4 : (κ.1 7).toInt ≤ 41) (hpre_5 : 0 ≤ (κ.1 0).toInt) (hpre_6 : (κ.1 0).toInt ≤ 40) (hpre_7 : QC κ.2.2.2.2 (κ.2.2.2.1 6)) (c2 : (κ.1 0).toInt < 40) (hr3y : RDC (tx (κ.2.2.1 9) (κ.1 6)) (κ.1 6).toInt (some b14) n11.toInt n12.toInt) (hr3_4_0 : 0 ≤ n5.toInt) (hr3_4_1 : n5.toInt ≤ 41) (hr3_4_2 : ((cto P4 (some b14) : Nat) : Int) ≤ 82) (hr3_4_3 : n13.toInt = 0) (qcr : QC P4 (κ.2.2.2.1 6)) (ex18 : x18 = (κ.1 0) + (1 : Int32)) (tx18 : x18.toInt = (κ.1 0).toInt + 1) (ex19 : x19 = x18 - (1 : Int32)) (tx19 : x19.toInt = x18.toInt - 1) : (κ.1 0).toInt < 40 ∧ PAC (tx (κ.2.2.1 9) (κ.1 6)) (κ.1 6).toInt x19 (κ.1 0) x18 := by
  have q1 : (1 : Int32).toInt = 1 := by decide +kernel
  refine ⟨by omega, fun Lt => ?_⟩
  obtain ⟨R, h1, h2⟩ := hr3y Lt
  refine ⟨R, h1, ?_⟩
  obtain ⟨K, h2⟩ := h2
  subst h2
  exact And.intro (by omega) (by omega)
-- thrown @12
theorem vX11_parse_9 (κ : KS) (hpre_5 : 0 ≤ (κ.1 0).toInt) (hpre_6 : (κ.1 0).toInt ≤ 40) (c2 : 40 ≤ (κ.1 0).toInt) : 40 ≤ (κ.1 0).toInt := by
  first | assumption | omega | (subst_vars; omega) | trivial
-- xpost @12
theorem vX11_parse_10 (κ : KS) (hpre_1 : 0 ≤ (κ.1 6).toInt) (hpre_2 : (κ.1 6).toInt ≤ 40) (hpre_3 : 0 ≤ (κ.1 7).toInt) (hpre_4 : (κ.1 7).toInt ≤ 41) (hpre_5 : 0 ≤ (κ.1 0).toInt) (hpre_6 : (κ.1 0).toInt ≤ 40) (hpre_7 : QC κ.2.2.2.2 (κ.2.2.2.1 6)) (c2 : 40 ≤ (κ.1 0).toInt) : 0 ≤ (κ.1 7).toInt ∧ (κ.1 7).toInt ≤ 41 ∧ 0 ≤ (κ.1 0).toInt ∧ (κ.1 0).toInt ≤ 40 ∧ 0 ≤ (κ.1 6).toInt ∧ (κ.1 6).toInt ≤ 40 ∧ QC κ.2.2.2.2 (κ.2.2.2.1 6) ∧ (κ.1 6).toInt = (κ.1 6).toInt ∧ (κ.1 0).toInt = (κ.1 0).toInt := by
  refine ⟨?_, ?_, ?_, ?_, ?_, ?_, ?_, ?_, ?_⟩ <;> first | assumption | omega | (subst_vars; omega) | trivial
set_option maxHeartbeats 4000000 in
set_option maxRecDepth 100000 in
theorem NX11_parse (l : Launch) (D : va_G) (cy : Nat → ClassId) (ad : Nat → Nat) (A : Nat → Prop) (sz0 : Nat) (sa : Nat → Nat) (hfl : l.stackTraces = false) (κ : KS) (sz sl : Nat) (hAF : ∀ q, A q → Fr sz0 q) (hAn : ∀ q : Nat, sz ≤ q → A q)  (hPV : PV sa κ.2.2.2.2) (hSV : SV ad κ.2.2.2.2 (κ.2.1 0) (κ.2.1 1) (κ.2.2.2.1 6) (κ.2.2.2.1 7) (κ.2.2.2.1 8) (κ.2.2.2.1 13) (κ.2.2.2.1 15) (κ.2.2.2.1 17) (κ.1 1).toInt) (hpre : L9 (κ.2.2.1 9) ∧ 0 ≤ (κ.1 6).toInt ∧ (κ.1 6).toInt ≤ 40 ∧ 0 ≤ (κ.1 7).toInt ∧ (κ.1 7).toInt ≤ 41 ∧ 0 ≤ (κ.1 0).toInt ∧ (κ.1 0).toInt ≤ 40 ∧ QC κ.2.2.2.2 (κ.2.2.2.1 6)) : vx_Met l yX11_parse (Cond.code yX11_parse cX11_parse 2 (some .int) :: GWc) ({ frames := 103, cells := 342, slots := 4656, locals := 2867 }) (PcC D cy ad A sz0 sa [.ref (ad 0)] κ sz sl) (va_Qi (fun (r : Int32) (u : PL × Int32 × (Nat → Int32) × (Nat → Int32) × (Nat → Int32) × (Nat → Option Nat) × Int32 × Int32 × Int32 × Int32 × (Nat → Option Nat) × Int32) => ((EX κ.2.2.2.2 u.1) ∧ (PV sa u.1) ∧ (SV ad u.1 (κ.2.1 0) (κ.2.1 1) u.2.2.2.2.2.2.2.2.2.2.1 (κ.2.2.2.1 7) (κ.2.2.2.1 8) u.2.2.2.2.2.1 (κ.2.2.2.1 15) (κ.2.2.2.1 17) (κ.1 1).toInt) ∧ (0 ≤ u.2.1.toInt ∧ u.2.1.toInt ≤ 41 ∧ 0 ≤ u.2.2.2.2.2.2.2.2.2.2.2.toInt ∧ u.2.2.2.2.2.2.2.2.2.2.2.toInt ≤ 40 ∧ u.2.2.2.2.2.2.2.2.2.1.toInt = 0 ∧ QC u.1 u.2.2.2.2.2.2.2.2.2.2.1)) ∧ ((κ.1 0).toInt < 40 ∧ PAC (tx (κ.2.2.1 9) (κ.1 6)) (κ.1 6).toInt r (κ.1 0) u.2.2.2.2.2.2.2.2.2.2.2)) (fun (u : PL × Int32 × (Nat → Int32) × (Nat → Int32) × (Nat → Int32) × (Nat → Option Nat) × Int32 × Int32 × Int32 × Int32 × (Nat → Option Nat) × Int32) (t : State) => Bx D cy ad A sz sl (tI (tQ (tI (tI (tI (tI (tQ (tA (tA (tA (tI (tP κ u.1) 7 u.2.1) 10 u.2.2.1) 11 u.2.2.2.1) 12 u.2.2.2.2.1) 13 u.2.2.2.2.2.1) 3 u.2.2.2.2.2.2.1) 4 u.2.2.2.2.2.2.2.1) 5 u.2.2.2.2.2.2.2.2.1) 6 u.2.2.2.2.2.2.2.2.2.1) 6 u.2.2.2.2.2.2.2.2.2.2.1) 0 u.2.2.2.2.2.2.2.2.2.2.2) (342) (4656) t) A) (TX D cy ad A (fun (E : String) (u : PL × Int32 × (Nat → Int32) × (Nat → Int32) × (Nat → Int32) × (Nat → Option Nat) × Int32 × Int32 × Int32 × Int32 × (Nat → Option Nat) × Int32) => (EX κ.2.2.2.2 u.1) ∧ (PV sa u.1) ∧ (SV ad u.1 (κ.2.1 0) (κ.2.1 1) u.2.2.2.2.2.2.2.2.2.2.1 (κ.2.2.2.1 7) (κ.2.2.2.1 8) u.2.2.2.2.2.1 (κ.2.2.2.1 15) (κ.2.2.2.1 17) (κ.1 1).toInt) ∧ ((E = tIAE ∧ (False)) ∨ (E = tISE ∧ (40 ≤ (κ.1 0).toInt))) ∧ (0 ≤ u.2.1.toInt ∧ u.2.1.toInt ≤ 41 ∧ 0 ≤ u.2.2.2.2.2.2.2.2.2.2.2.toInt ∧ u.2.2.2.2.2.2.2.2.2.2.2.toInt ≤ 40 ∧ 0 ≤ u.2.2.2.2.2.2.2.2.2.1.toInt ∧ u.2.2.2.2.2.2.2.2.2.1.toInt ≤ 40 ∧ QC u.1 u.2.2.2.2.2.2.2.2.2.2.1 ∧ u.2.2.2.2.2.2.2.2.2.1.toInt = (κ.1 6).toInt ∧ u.2.2.2.2.2.2.2.2.2.2.2.toInt = (κ.1 0).toInt)) (fun (u : PL × Int32 × (Nat → Int32) × (Nat → Int32) × (Nat → Int32) × (Nat → Option Nat) × Int32 × Int32 × Int32 × Int32 × (Nat → Option Nat) × Int32) => (tI (tQ (tI (tI (tI (tI (tQ (tA (tA (tA (tI (tP κ u.1) 7 u.2.1) 10 u.2.2.1) 11 u.2.2.2.1) 12 u.2.2.2.2.1) 13 u.2.2.2.2.2.1) 3 u.2.2.2.2.2.2.1) 4 u.2.2.2.2.2.2.2.1) 5 u.2.2.2.2.2.2.2.2.1) 6 u.2.2.2.2.2.2.2.2.2.1) 6 u.2.2.2.2.2.2.2.2.2.2.1) 0 u.2.2.2.2.2.2.2.2.2.2.2))) (342) (4656) A := by
  refine CM_ofX (loc0 := [(0, .ref (ad 0))]) (own := RX11) (nm := "parse") (by decide) rfl rfl rfl (Nat.le_of_ble_eq_true rfl) hAF hAn ?_
  intro p e s m below meth c ls hsz hsl hout C hP hS hl
  obtain ⟨hpre_0, hpre_1, hpre_2, hpre_3, hpre_4, hpre_5, hpre_6, hpre_7⟩ := hpre
  refine lv_aload_n C.x C.b dX11_parse_0 rfl (lv_at hl 0 rfl) ?_
  refine cg_X11_3 (v := (κ.1 0)) C hP rfl cw_898 dX11_parse_1 ?_
  refine lv_aload_n C.x C.b dX11_parse_4 rfl (lv_at hl 0 rfl) ?_
  refine cg_X11_2 C hP cw_876 dX11_parse_5 ?_
  refine cl_6 C hP dX11_parse_8 ?_
  refine lv_icmp_lt (tgt := 22) C.x C.b dX11_parse_9 (by decide) (fun c2 => ?_) (fun c2 => ?_)
  · have c2 : (κ.1 0).toInt < 40 := by have h := z_lt c2; rw [show (40 : Int32).toInt = 40 from by decide +kernel] at h; exact h
    refine lv_aload_n C.x C.b dX11_parse_22 rfl (lv_at hl 0 rfl) ?_
    refine cg_X11_0 C hP cw_871 dX11_parse_23 ?_
    refine c_callVq (n := 0) (As := []) (rest := []) C hP hS hl.1 (NX6_read l D cy ad A sz0 sa κ s.heap.size (SLT s.heap) C.f (fun q h => C.a q (Nat.le_trans hS.1 h))  hPV hSV (vX11_parse_1 κ hpre_0 hpre_1 hpre_2 hpre_3 hpre_4)) ⟨cw_901, cw_566, by decide +kernel⟩ ⟨cw_902, cw_903, cw_577⟩ rfl (hP.recvS (k := 1) (ci := 8) C.K rfl rfl) rfl rfl (lv_room (Nat.le_of_ble_eq_true rfl)) ⟨Nat.le_of_ble_eq_true rfl, Nat.le_of_ble_eq_true rfl⟩ ⟨(Nat.le_of_ble_eq_true rfl), (Nat.le_of_ble_eq_true rfl)⟩ dX11_parse_26 (fun r3 u H locs hr3 hP hS => ?_)
    obtain ⟨P4, n5, F6, F7, F8, Z9, n10, n11, n12, n13⟩ := u
    have hP : CH D cy ad A (tI (tI (tI (tI (tQ (tA (tA (tA (tI (tP κ P4) 7 n5) 10 F6) 11 F7) 12 F8) 13 Z9) 3 n10) 4 n11) 5 n12) 6 n13) H := hP
    obtain ⟨hr3, hr3y⟩ := hr3
    have hr3y : RDC (tx (κ.2.2.1 9) (κ.1 6)) (κ.1 6).toInt r3 n11.toInt n12.toInt := hr3y
    have hr3 : (EX κ.2.2.2.2 P4) ∧ (PV sa P4) ∧ (SV ad P4 (κ.2.1 0) (κ.2.1 1) (κ.2.2.2.1 6) (κ.2.2.2.1 7) (κ.2.2.2.1 8) Z9 (κ.2.2.2.1 15) (κ.2.2.2.1 17) (κ.1 1).toInt) ∧ (NT P4 2 r3) ∧ (0 ≤ n5.toInt ∧ n5.toInt ≤ 41 ∧ ((cto P4 r3 : Nat) : Int) ≤ 82 ∧ n13.toInt = 0) := hr3
    obtain ⟨hr3_0, hr3_1, hr3_2, hr3_3, hr3_4⟩ := hr3
    obtain ⟨hr3_4_0, hr3_4_1, hr3_4_2, hr3_4_3⟩ := hr3_4
    have qcr : QC P4 (κ.2.2.2.1 6) := hpre_7.ex hSV.n6 hr3_0
    refine lq_astore_n (lv' := [(1, va_rf r3), (0, .ref (ad 0))]) C.x C.b dX11_parse_29 rfl hl (by decide) (by cases r3 <;> rfl) (fun ls hl => ?_)
    refine lq_aload_n C.x C.b dX11_parse_30 rfl (lv_at hl 0 rfl) ?_
    cases r3 with
    | none =>
      refine lv_ifnonnullN C.x C.b dX11_parse_31 ?_
      refine lv_sipush (v := (-1000)) C.x C.b dX11_parse_34 (by decide +kernel) ?_
      refine lv_aload_n C.x C.b dX11_parse_37 rfl (lv_at hl 1 rfl) ?_
      refine cg_X11_0 C hP cw_871 dX11_parse_38 ?_
      refine cg_X6_2 (v := n11) C hP rfl cw_899 dX11_parse_41 ?_
      refine lv_imul C.x C.b dX11_parse_44 ?_
      refine lv_topi (fun x15 ex15 => ?_)
      refine lv_aload_n C.x C.b dX11_parse_45 rfl (lv_at hl 1 rfl) ?_
      refine cg_X11_0 C hP cw_871 dX11_parse_46 ?_
      refine cg_X6_3 (v := n12) C hP rfl cw_900 dX11_parse_49 ?_
      refine lv_isub C.x C.b dX11_parse_52 ?_
      refine lv_topi (fun x16 ex16 => ?_)
      have hP : CH D cy ad A (tI (tQ (tI (tI (tI (tI (tQ (tA (tA (tA (tI (tP κ P4) 7 n5) 10 F6) 11 F7) 12 F8) 13 Z9) 3 n10) 4 n11) 5 n12) 6 n13) 6 (κ.2.2.2.1 6)) 0 (κ.1 0)) H := CH.cong hP rfl rfl rfl rfl rfl rfl rfl rfl rfl rfl rfl rfl rfl rfl rfl rfl rfl rfl rfl rfl rfl rfl rfl rfl rfl rfl rfl
      refine vx_ret ?_
      exact c_reti C hsz hsl ⟨P4, n5, F6, F7, F8, Z9, n10, n11, n12, n13, (κ.2.2.2.1 6), (κ.1 0)⟩ ⟨⟨hr3_0, hr3_1, hr3_2, (vX11_parse_2 κ P4 n5 n11 n12 n13 x15 x16 hpre_0 hpre_1 hpre_2 hpre_3 hpre_4 hpre_5 hpre_6 hpre_7 c2 hr3_4_0 hr3_4_1 hr3_4_2 hr3_4_3 qcr ex15 ex16)⟩, (vX11_parse_3 κ P4 n5 n11 n12 n13 x15 x16 hpre_0 hpre_1 hpre_2 hpre_3 hpre_4 hpre_5 hpre_6 hpre_7 c2 hr3y hr3_4_0 hr3_4_1 hr3_4_2 hr3_4_3 qcr ex15 ex16)⟩ hP hS ⟨(Nat.le_of_ble_eq_true rfl), (Nat.le_of_ble_eq_true rfl)⟩ ⟨(Nat.le_of_ble_eq_true rfl), (Nat.le_of_ble_eq_true rfl)⟩ dX11_parse_53
    | some b14 =>
      have hb14 : oT P4 b14 = 2 := hr3_3 b14 rfl
      refine lv_ifnonnull (tgt := 54) C.x C.b dX11_parse_31 (by decide) ?_
      refine lv_aload_n C.x C.b dX11_parse_54 rfl (lv_at hl 1 rfl) ?_
      refine cg_X11_2 C hP cw_876 dX11_parse_55 ?_
      refine lv_aload_n C.x C.b dX11_parse_58 rfl (lv_at hl 1 rfl) ?_
      refine cg_X11_3 (v := (κ.1 0)) C hP rfl cw_898 dX11_parse_59 ?_
      refine lv_aload_n C.x C.b dX11_parse_62 rfl (lv_at hl 0 rfl) ?_
      refine cw_st6 (f := (κ.2.2.2.1 6)) C hP hS rfl (t20 (a := b14) (t := 2) hb14) (vX11_parse_4 κ hpre_5 hpre_6 c2) dX11_parse_63 (fun H locs hP hS => ?_)
      have svz17 : SV ad P4 (κ.2.1 0) (κ.2.1 1) (va_up (κ.2.2.2.1 6) (κ.1 0).toNatClampNeg (some b14)) (κ.2.2.2.1 7) (κ.2.2.2.1 8) Z9 (κ.2.2.2.1 15) (κ.2.2.2.1 17) (κ.1 1).toInt := hr3_2.s6 (nt_s hb14)
      refine lv_aload_n C.x C.b dX11_parse_64 rfl (lv_at hl 1 rfl) ?_
      refine lv_dup C.x C.b dX11_parse_65 rfl ?_
      refine cg_X11_3 (v := (κ.1 0)) C hP rfl cw_898 dX11_parse_66 ?_
      refine lv_iconst (v := 1) C.x C.b dX11_parse_69 (by decide +kernel) ?_
      refine lv_iadd C.x C.b dX11_parse_70 ?_
      refine lv_topi (fun x18 ex18 => ?_)
      have tx18 : x18.toInt = (κ.1 0).toInt + 1 := (vX11_parse_5 κ x18 hpre_5 hpre_6 c2 ex18)
      refine cp_X11_3 (v := x18) C hP hS cw_898 dX11_parse_71 (fun H locs hP hS => ?_)
      refine lv_aload_n C.x C.b dX11_parse_74 rfl (lv_at hl 1 rfl) ?_
      refine cg_X11_3 (v := x18) C hP rfl cw_898 dX11_parse_75 ?_
      refine lv_iconst (v := 1) C.x C.b dX11_parse_78 (by decide +kernel) ?_
      refine lv_isub C.x C.b dX11_parse_79 ?_
      refine lv_topi (fun x19 ex19 => ?_)
      have tx19 : x19.toInt = x18.toInt - 1 := (vX11_parse_6 κ x18 x19 hpre_5 hpre_6 c2 ex18 tx18 ex19)
      refine vx_ret ?_
      exact c_reti C hsz hsl ⟨P4, n5, F6, F7, F8, Z9, n10, n11, n12, n13, (va_up (κ.2.2.2.1 6) (κ.1 0).toNatClampNeg (some b14)), x18⟩ ⟨⟨hr3_0, hr3_1, svz17, (vX11_parse_7 κ P4 n5 n13 b14 x18 x19 hpre_0 hpre_1 hpre_2 hpre_3 hpre_4 hpre_5 hpre_6 hpre_7 c2 hr3_4_0 hr3_4_1 hr3_4_2 hr3_4_3 qcr ex18 tx18 ex19 tx19)⟩, (vX11_parse_8 κ P4 n5 n11 n12 n13 b14 x18 x19 hpre_0 hpre_1 hpre_2 hpre_3 hpre_4 hpre_5 hpre_6 hpre_7 c2 hr3y hr3_4_0 hr3_4_1 hr3_4_2 hr3_4_3 qcr ex18 tx18 ex19 tx19)⟩ hP hS ⟨(Nat.le_of_ble_eq_true rfl), (Nat.le_of_ble_eq_true rfl)⟩ ⟨(Nat.le_of_ble_eq_true rfl), (Nat.le_of_ble_eq_true rfl)⟩ dX11_parse_80
  · have c2 : 40 ≤ (κ.1 0).toInt := by have h := z_nlt c2; rw [show (40 : Int32).toInt = 40 from by decide +kernel] at h; exact h
    have hP : CH D cy ad A (tI (tQ (tI (tI (tI (tI (tQ (tA (tA (tA (tI (tP κ κ.2.2.2.2) 7 (κ.1 7)) 10 (κ.2.2.1 10)) 11 (κ.2.2.1 11)) 12 (κ.2.2.1 12)) 13 (κ.2.2.2.1 13)) 3 (κ.1 3)) 4 (κ.1 4)) 5 (κ.1 5)) 6 (κ.1 6)) 6 (κ.2.2.2.1 6)) 0 (κ.1 0)) s.heap := CH.cong hP rfl rfl rfl rfl rfl rfl rfl rfl rfl rfl rfl rfl rfl rfl rfl rfl rfl rfl rfl rfl rfl rfl rfl rfl rfl rfl rfl
    exact c_ise C hfl hout ⟨κ.2.2.2.2, (κ.1 7), (κ.2.2.1 10), (κ.2.2.1 11), (κ.2.2.1 12), (κ.2.2.2.1 13), (κ.1 3), (κ.1 4), (κ.1 5), (κ.1 6), (κ.2.2.2.1 6), (κ.1 0)⟩ ⟨EX.rf, hPV, hSV, (Or.inr ⟨rfl, (vX11_parse_9 κ hpre_5 hpre_6 c2)⟩), (vX11_parse_10 κ hpre_1 hpre_2 hpre_3 hpre_4 hpre_5 hpre_6 hpre_7 c2)⟩ hP hS hl.1 cw_890 cw_891 (is := 78) (text := "there are 40 programs") (by decide +kernel) dX11_parse_12 dX11_parse_15 dX11_parse_16 dX11_parse_18 dX11_parse_21 (Nat.le_of_ble_eq_true rfl) (Nat.le_of_ble_eq_true rfl) ⟨(Nat.le_of_ble_eq_true rfl), (Nat.le_of_ble_eq_true rfl)⟩ ⟨(Nat.le_of_ble_eq_true rfl), (Nat.le_of_ble_eq_true rfl)⟩
