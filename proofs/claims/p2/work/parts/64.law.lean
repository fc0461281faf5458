set_option maxHeartbeats 2000000 in
theorem law_c0 {p : Program} {e : Env} {s : State} {m : MethodId} {below : List Frame} {meth : Method} {c : Code} (l : Launch) (hfl : l.stackTraces = false) {b L : Nat} {xs : Nat → Int32} {D : va_G} {cy : Nat → ClassId} {sa : Nat → Nat} {sz0 : Nat} {aC aM : Nat → Nat} {q : Nat} (C : LC p s m #[Value.ref b] meth c code 7 ret D cy sz0 sa lw_big) (hX : va_X b L xs s s.heap) (hbl : b < s.heap.size) (hbA : ¬ Fr sz0 b) {Q : State → Prop} {i : Int32} (hi : 0 ≤ i.toInt ∧ i.toInt + 7 ≤ (L : Int) ∧ L ≤ 3584) {κ : KS} {σ : RS} {f : Nat → Int64} {H : Heap} {locs : List Loc} {ls : Array Slot} {cells slots : Nat} (hCI : CI sa aC κ) (hMI : MI σ) (hRE : RE κ σ) (hP : LW D cy aC aM q (Fr sz0) κ σ f H) (hS : va_S (Fr sz0) s.heap H locs) (hl : lv_has ls 7 [(4, .int i), (3, .ref q), (2, .ref (aM 0)), (1, .ref (aC 0)), (0, .ref b)]) (hR : cells + 1066 ≤ room_1.cells ∧ slots + 9840 ≤ room_1.slots)
    (kk : ∀ (κ : KS) (σ : RS) (f : Nat → Int64) (H : Heap) (locs : List Loc) (ls : Array Slot), lv_has ls 7 [(4, .int i), (3, .ref q), (2, .ref (aM 0)), (1, .ref (aC 0)), (0, .ref b)] → CI sa aC κ → MI σ → RE κ σ → LW D cy aC aM q (Fr sz0) κ σ f H → va_S (Fr sz0) s.heap H locs → W p l e room_1 s m #[Value.ref b] below meth c H locs (cells + 1066) (slots + 9840) Q (F0 m 629 ls [])) : W p l e room_1 s m #[Value.ref b] below meth c H locs cells slots Q (F0 m 108 ls []) := by
  have hx := C.x
  have hb := C.b
  refine lv_aload_n hx hb dL_law_108 rfl (lv_at hl 3 rfl) ?_
  refine lv_aload_n hx hb dL_law_109 rfl (lv_at hl 4 rfl) ?_
  refine lv_iload hx hb dL_law_110 (lv_at hl 0 rfl) ?_
  refine lv_iconst (v := 1) hx hb dL_law_112 (by decide +kernel) ?_
  refine lv_iadd hx hb dL_law_113 ?_
  refine va_sld hx hb hX hbl hbA hS (sin_ok hi (by decide +kernel)) dL_law_114 ?_
  refine lv_topi (fun k1 ek1 => ?_)
  refine lv_aload_n hx hb dL_law_115 rfl (lv_at hl 1 rfl) ?_
  refine lc_stat (n := 3) (As := [.ref (aC 0), .int k1, .ref q]) (rest := []) C hP hS hl.1 (NL_letter l hfl D cy aC aM q sz0 sa κ σ f H.size k1 hCI) (lb_S wl_0 wl_1 wl_2 wl_3) ⟨by decide, by decide, by decide +kernel⟩ rfl rfl (lv_room (Nat.le_of_ble_eq_true rfl)) ⟨Nat.le_of_ble_eq_true rfl, Nat.le_of_ble_eq_true rfl⟩ ⟨Nat.le_trans (Nat.add_le_add_left (Nat.le_of_ble_eq_true rfl) _) hR.1, Nat.le_trans (Nat.add_le_add_left (Nat.le_of_ble_eq_true rfl) _) hR.2⟩ dL_law_116 (fun r2 u3 H locs hr2 hP hS => ?_)
  obtain ⟨hCI, hr2⟩ := hr2
  obtain ⟨κ2, f⟩ := u3
  dsimp only at hP
  refine lv_istore (lv' := [(5, .int r2), (4, .int i), (3, .ref q), (2, .ref (aM 0)), (1, .ref (aC 0)), (0, .ref b)]) hx hb dL_law_119 hl (by decide) rfl (fun ls hl => ?_)
  refine lv_aload_n hx hb dL_law_121 rfl (lv_at hl 3 rfl) ?_
  refine lv_aload_n hx hb dL_law_122 rfl (lv_at hl 5 rfl) ?_
  refine lv_iload hx hb dL_law_123 (lv_at hl 1 rfl) ?_
  refine lv_iconst (v := 1) hx hb dL_law_125 (by decide +kernel) ?_
  refine lv_iadd hx hb dL_law_126 ?_
  refine va_sld hx hb hX hbl hbA hS (sin_ok hi (by decide +kernel)) dL_law_127 ?_
  refine lv_topi (fun k4 ek4 => ?_)
  obtain rfl : k1 = k4 := ek1.trans ek4.symm
  refine lc_ref (n := 1) (As := [.int k1]) (rest := []) C hP hS hl.1 (M_letter l D cy sz0 sa aM σ H.size k1 ⟨hMI.1.1, hMI.1.2⟩) (lb_R wl_4 wl_5 wl_6 wl_7) ⟨rfl, by decide +kernel⟩ rfl rfl (lv_room (Nat.le_of_ble_eq_true rfl)) ⟨Nat.le_of_ble_eq_true rfl, Nat.le_of_ble_eq_true rfl⟩ ⟨Nat.le_trans (by omega) hR.1, Nat.le_trans (by omega) hR.2⟩ dL_law_128 (fun r5 u6 H locs hr5 hP hS => ?_)
  have hMI2 := MI.letter hMI k1 r5 u6 hr5
  obtain ⟨hc, q1⟩ := hr2
  dsimp only at hc q1
  obtain ⟨e1, e2, e3⟩ := hRE
  have key : u6.1 = r2 ∧ (r2 = 0 → f 0 = r5.toInt64) ∧ RE κ2 (rA (rS (rS σ 0 u6.1) 1 u6.2.1) 2 u6.2.2) := by
    obtain ⟨⟨br, hb9⟩, bl1, bl2⟩ := hr5
    rcases hc with ⟨a1, ⟨x, a2, a3⟩, a4, a5, a6, a7, a8⟩ | ⟨a1, a4, a5, a6⟩ | ⟨a1, a4, a5, a6, a7, a8⟩ <;> rcases hb9 with ⟨b1, b2, b3⟩ | ⟨b1, b2, b3, b4, b5⟩ | ⟨b1, b2, b3, b4, b5⟩
    · exfalso; omega
    · exfalso; omega
    · refine ⟨by rw [a1]; exact Int32.toInt_inj.mp b4, fun _ => ?_, RE.letter ⟨e1, e2, e3⟩ (by have m1 := hMI.1; omega) a4 b5 a8 (bl1 b4) q1 rfl⟩
      rw [a2, show x = r5 from Int32.toInt_inj.mp (by omega)]
    · refine ⟨by rw [a1]; exact Int32.toInt_inj.mp b2, fun z => ?_, ⟨by show (κ2.1 6).toInt = u6.2.1.toInt; omega, fun j hj => by show (κ2.2.2.1 9 j).toInt = (u6.2.2 j).toInt; rw [a6, bl2 (by omega)]; exact e2 j (by rw [a5] at hj; exact hj), by show (κ2.1 0).toInt = (σ.1 10).toInt; rw [q1]; exact e3⟩⟩
      rw [a1] at z; exact absurd z (by decide)
    · exfalso; omega
    · exfalso; omega
    · exfalso; omega
    · refine ⟨by rw [a1]; exact Int32.toInt_inj.mp b4, fun z => ?_, ⟨by show (κ2.1 6).toInt = u6.2.1.toInt; omega, fun j hj => by show (κ2.2.2.1 9 j).toInt = (u6.2.2 j).toInt; rw [a8, bl2 (by omega)]; exact e2 j (by rw [a7] at hj; exact hj), by show (κ2.1 0).toInt = (σ.1 10).toInt; rw [q1]; exact e3⟩⟩
      rw [a1] at z; exact absurd z (by decide)
    · exfalso; omega
  have hthr := key.1
  have hout := key.2.1
  have hRE : RE κ2 (rA (rS (rS σ 0 u6.1) 1 u6.2.1) 2 u6.2.2) := key.2.2
  clear hMI; have hMI := hMI2; clear hMI2
  refine lv_istore (lv' := [(6, .int r5), (5, .int r2), (4, .int i), (3, .ref q), (2, .ref (aM 0)), (1, .ref (aC 0)), (0, .ref b)]) hx hb dL_law_131 hl (by decide) rfl (fun ls hl => ?_)
  refine lv_aload_n hx hb dL_law_133 rfl (lv_at hl 4 rfl) ?_
  refine lc_ref (n := 0) (As := []) (rest := []) C hP hS hl.1 (M_thrown l D cy sz0 sa aM _ H.size  trivial) (lb_R wl_8 wl_9 wl_10 wl_11) ⟨rfl, by decide +kernel⟩ rfl rfl (lv_room (Nat.le_of_ble_eq_true rfl)) ⟨Nat.le_of_ble_eq_true rfl, Nat.le_of_ble_eq_true rfl⟩ ⟨Nat.le_trans (by omega) hR.1, Nat.le_trans (by omega) hR.2⟩ dL_law_134 (fun r7 u8 H locs hr7 hP hS => ?_)
  subst hr7
  refine lv_iload hx hb dL_law_137 (lv_at hl 1 rfl) ?_
  refine lv_icmp_eq (tgt := 144) hx hb dL_law_139 (by decide) (fun _ => ?_) (fun c9 => absurd hthr c9)
  refine lv_iload hx hb dL_law_144 (lv_at hl 1 rfl) ?_
  refine lv_if_ne (tgt := 161) hx hb dL_law_146 (by decide) (fun c9 => ?_) (fun c9 => ?_)
  · refine lv_goto (tgt := 629) hx hb dL_law_161 (by decide) ?_
    refine W.widen (k := cells + 1066) (n := slots + 9840) (by omega) (by omega) ?_
    exact kk _ _ _ H locs ls (lv_sub hl [2, 3, 4, 5, 6] rfl) hCI hMI (RE.of hRE rfl rfl rfl rfl rfl rfl) hP hS
  · refine lv_aload_n hx hb dL_law_149 rfl (lv_at hl 3 rfl) ?_
    refine lv_iconst (v := 0) hx hb dL_law_150 (by decide +kernel) ?_
    refine lc_lald C hP dL_law_151 ?_
    rw [hout c9]
    refine lv_iload hx hb dL_law_152 (lv_at hl 0 rfl) ?_
    refine lv_i2l (v := r5.toInt64) hx hb dL_law_154 rfl ?_
    refine W.lcmp hx hb dL_law_155 ?_
    refine lv_topi (fun x10 ex10 => ?_)
    obtain rfl : x10 = 0 := ex10.trans (by unfold lg_cmp; simp)
    refine lv_if_eq (tgt := 161) hx hb dL_law_156 (by decide) (fun _ => ?_) (fun c9 => absurd rfl c9)
    refine lv_goto (tgt := 629) hx hb dL_law_161 (by decide) ?_
    refine W.widen (k := cells + 1066) (n := slots + 9840) (by omega) (by omega) ?_
    exact kk _ _ _ H locs ls (lv_sub hl [2, 3, 4, 5, 6] rfl) hCI hMI (RE.of hRE rfl rfl rfl rfl rfl rfl) hP hS
set_option maxHeartbeats 2000000 in
theorem law_c1 {p : Program} {e : Env} {s : State} {m : MethodId} {below : List Frame} {meth : Method} {c : Code} (l : Launch) (hfl : l.stackTraces = false) {b L : Nat} {xs : Nat → Int32} {D : va_G} {cy : Nat → ClassId} {sa : Nat → Nat} {sz0 : Nat} {aC aM : Nat → Nat} {q : Nat} (C : LC p s m #[Value.ref b] meth c code 7 ret D cy sz0 sa lw_big) (hX : va_X b L xs s s.heap) (hbl : b < s.heap.size) (hbA : ¬ Fr sz0 b) {Q : State → Prop} {i : Int32} (hi : 0 ≤ i.toInt ∧ i.toInt + 7 ≤ (L : Int) ∧ L ≤ 3584) {κ : KS} {σ : RS} {f : Nat → Int64} {H : Heap} {locs : List Loc} {ls : Array Slot} {cells slots : Nat} (hCI : CI sa aC κ) (hMI : MI σ) (hRE : RE κ σ) (hP : LW D cy aC aM q (Fr sz0) κ σ f H) (hS : va_S (Fr sz0) s.heap H locs) (hl : lv_has ls 7 [(4, .int i), (3, .ref q), (2, .ref (aM 0)), (1, .ref (aC 0)), (0, .ref b)]) (hR : cells + 1066 ≤ room_1.cells ∧ slots + 9840 ≤ room_1.slots)
    (kk : ∀ (κ : KS) (σ : RS) (f : Nat → Int64) (H : Heap) (locs : List Loc) (ls : Array Slot), lv_has ls 7 [(4, .int i), (3, .ref q), (2, .ref (aM 0)), (1, .ref (aC 0)), (0, .ref b)] → CI sa aC κ → MI σ → RE κ σ → LW D cy aC aM q (Fr sz0) κ σ f H → va_S (Fr sz0) s.heap H locs → W p l e room_1 s m #[Value.ref b] below meth c H locs (cells + 1066) (slots + 9840) Q (F0 m 629 ls [])) : W p l e room_1 s m #[Value.ref b] below meth c H locs cells slots Q (F0 m 164 ls []) := by
  have hx := C.x
  have hb := C.b
  refine lv_aload_n hx hb dL_law_164 rfl (lv_at hl 3 rfl) ?_
  refine lv_aload_n hx hb dL_law_165 rfl (lv_at hl 1 rfl) ?_
  refine lc_stat (n := 2) (As := [.ref (aC 0), .ref q]) (rest := []) C hP hS hl.1 (NL_parse l hfl D cy aC aM q sz0 sa κ σ f H.size  hCI) (lb_S wl_12 wl_13 wl_2 wl_14) ⟨by decide, by decide, by decide +kernel⟩ rfl rfl (lv_room (Nat.le_of_ble_eq_true rfl)) ⟨Nat.le_of_ble_eq_true rfl, Nat.le_of_ble_eq_true rfl⟩ ⟨Nat.le_trans (Nat.add_le_add_left (Nat.le_of_ble_eq_true rfl) _) hR.1, Nat.le_trans (Nat.add_le_add_left (Nat.le_of_ble_eq_true rfl) _) hR.2⟩ dL_law_166 (fun r1 u2 H locs hr1 hP hS => ?_)
  obtain ⟨hCI, hr1⟩ := hr1
  obtain ⟨κ2, f⟩ := u2
  dsimp only at hP
  refine lv_istore (lv' := [(5, .int r1), (4, .int i), (3, .ref q), (2, .ref (aM 0)), (1, .ref (aC 0)), (0, .ref b)]) hx hb dL_law_169 hl (by decide) rfl (fun ls hl => ?_)
  refine lv_aload_n hx hb dL_law_171 rfl (lv_at hl 3 rfl) ?_
  refine lc_ref (n := 0) (As := []) (rest := []) C hP hS hl.1 (M_parse l D cy sz0 sa aM σ H.size  ⟨hMI.1.1, hMI.1.2, hMI.2.1.1, hMI.2.1.2, hMI.2.2.1⟩) (lb_R wl_15 wl_16 wl_17 wl_18) ⟨rfl, by decide +kernel⟩ rfl rfl (lv_room (Nat.le_of_ble_eq_true rfl)) ⟨Nat.le_of_ble_eq_true rfl, Nat.le_of_ble_eq_true rfl⟩ ⟨Nat.le_trans (by omega) hR.1, Nat.le_trans (by omega) hR.2⟩ dL_law_172 (fun r3 u4 H locs hr3 hP hS => ?_)
  have hMI2 := MI.parse hMI  r3 u4 hr3
  obtain ⟨hc, q1⟩ := hr1
  dsimp only at hc q1
  have key : u4.1 = r1 ∧ (r1 = 0 → f 0 = r3.toInt64) ∧ RE κ2 (rS (rS (rS (rS (rS (rS (rA (rA (rA (rA (rA (rA (rA (rA (rA (rA (rA (rA (rS (rS (rS (rJ (rA (rS (rA (rJ (rA (rA (rS (rS (rA (rS (rS (rS σ 0 u4.1) 1 u4.2.1) 10 u4.2.2.1) 13 u4.2.2.2.1) 15 u4.2.2.2.2.1) 3 u4.2.2.2.2.2.1) 4 u4.2.2.2.2.2.2.1) 5 u4.2.2.2.2.2.2.2.1) 6 u4.2.2.2.2.2.2.2.2.1) 7 u4.2.2.2.2.2.2.2.2.2.1) 14 u4.2.2.2.2.2.2.2.2.2.2.1) 11 u4.2.2.2.2.2.2.2.2.2.2.2.1) 12 u4.2.2.2.2.2.2.2.2.2.2.2.2.1) 16 u4.2.2.2.2.2.2.2.2.2.2.2.2.2.1) 19 u4.2.2.2.2.2.2.2.2.2.2.2.2.2.2.1) 29 u4.2.2.2.2.2.2.2.2.2.2.2.2.2.2.2.1) 31 u4.2.2.2.2.2.2.2.2.2.2.2.2.2.2.2.2.1) 30 u4.2.2.2.2.2.2.2.2.2.2.2.2.2.2.2.2.2.1) 32 u4.2.2.2.2.2.2.2.2.2.2.2.2.2.2.2.2.2.2.1) 21 u4.2.2.2.2.2.2.2.2.2.2.2.2.2.2.2.2.2.2.2.1) 22 u4.2.2.2.2.2.2.2.2.2.2.2.2.2.2.2.2.2.2.2.2.1) 20 u4.2.2.2.2.2.2.2.2.2.2.2.2.2.2.2.2.2.2.2.2.2.1) 23 u4.2.2.2.2.2.2.2.2.2.2.2.2.2.2.2.2.2.2.2.2.2.2.1) 24 u4.2.2.2.2.2.2.2.2.2.2.2.2.2.2.2.2.2.2.2.2.2.2.2.1) 25 u4.2.2.2.2.2.2.2.2.2.2.2.2.2.2.2.2.2.2.2.2.2.2.2.2.1) 26 u4.2.2.2.2.2.2.2.2.2.2.2.2.2.2.2.2.2.2.2.2.2.2.2.2.2.1) 27 u4.2.2.2.2.2.2.2.2.2.2.2.2.2.2.2.2.2.2.2.2.2.2.2.2.2.2.1) 28 u4.2.2.2.2.2.2.2.2.2.2.2.2.2.2.2.2.2.2.2.2.2.2.2.2.2.2.2.1) 17 u4.2.2.2.2.2.2.2.2.2.2.2.2.2.2.2.2.2.2.2.2.2.2.2.2.2.2.2.2.1) 33 u4.2.2.2.2.2.2.2.2.2.2.2.2.2.2.2.2.2.2.2.2.2.2.2.2.2.2.2.2.2.1) 34 u4.2.2.2.2.2.2.2.2.2.2.2.2.2.2.2.2.2.2.2.2.2.2.2.2.2.2.2.2.2.2.1) 8 u4.2.2.2.2.2.2.2.2.2.2.2.2.2.2.2.2.2.2.2.2.2.2.2.2.2.2.2.2.2.2.2.1) 9 u4.2.2.2.2.2.2.2.2.2.2.2.2.2.2.2.2.2.2.2.2.2.2.2.2.2.2.2.2.2.2.2.2.1) 18 u4.2.2.2.2.2.2.2.2.2.2.2.2.2.2.2.2.2.2.2.2.2.2.2.2.2.2.2.2.2.2.2.2.2) := by
    obtain ⟨e1, e2, e3⟩ := hRE
    have hb9 := hr3.2
    have m2 := hMI.2.1
    rcases hc with ⟨a1, ⟨x, a2, a3⟩, a4, a5⟩ | ⟨a1, a4, a5, a6⟩
    · obtain ⟨b1, b2, b3⟩ := hb9.2 (by omega)
      obtain ⟨R, g1, g2⟩ := a3 (LTR u4.2.2.2.2.2.2.1 u4.2.2.2.2.2.2.2.2.1 u4.2.2.2.2.2.2.2.2.2.1)
      rw [RE_tx ⟨e1, e2, e3⟩, e1] at g1
      have g4 := ANS_u g2 (b3 R g1) e3
      exact ⟨by rw [a1]; exact Int32.toInt_inj.mp b1, fun _ => by rw [a2, g4.1], by show (κ2.1 6).toInt = u4.2.1.toInt; omega, fun j hj => absurd hj (by omega), by show (κ2.1 0).toInt = u4.2.2.1.toInt; exact g4.2⟩
    · obtain ⟨b1, b2, b3⟩ := hb9.1 (by omega)
      exact ⟨by rw [a1]; exact Int32.toInt_inj.mp b1, fun z => absurd (a1.symm.trans z) (by decide), by show (κ2.1 6).toInt = u4.2.1.toInt; omega, fun j hj => by show (κ2.2.2.1 9 j).toInt = (σ.2.1 2 j).toInt; rw [q1]; exact e2 j (by rw [a5] at hj; exact hj), by show (κ2.1 0).toInt = u4.2.2.1.toInt; omega⟩
  have hthr := key.1
  have hout := key.2.1
  have hRE : RE κ2 (rS (rS (rS (rS (rS (rS (rA (rA (rA (rA (rA (rA (rA (rA (rA (rA (rA (rA (rS (rS (rS (rJ (rA (rS (rA (rJ (rA (rA (rS (rS (rA (rS (rS (rS σ 0 u4.1) 1 u4.2.1) 10 u4.2.2.1) 13 u4.2.2.2.1) 15 u4.2.2.2.2.1) 3 u4.2.2.2.2.2.1) 4 u4.2.2.2.2.2.2.1) 5 u4.2.2.2.2.2.2.2.1) 6 u4.2.2.2.2.2.2.2.2.1) 7 u4.2.2.2.2.2.2.2.2.2.1) 14 u4.2.2.2.2.2.2.2.2.2.2.1) 11 u4.2.2.2.2.2.2.2.2.2.2.2.1) 12 u4.2.2.2.2.2.2.2.2.2.2.2.2.1) 16 u4.2.2.2.2.2.2.2.2.2.2.2.2.2.1) 19 u4.2.2.2.2.2.2.2.2.2.2.2.2.2.2.1) 29 u4.2.2.2.2.2.2.2.2.2.2.2.2.2.2.2.1) 31 u4.2.2.2.2.2.2.2.2.2.2.2.2.2.2.2.2.1) 30 u4.2.2.2.2.2.2.2.2.2.2.2.2.2.2.2.2.2.1) 32 u4.2.2.2.2.2.2.2.2.2.2.2.2.2.2.2.2.2.2.1) 21 u4.2.2.2.2.2.2.2.2.2.2.2.2.2.2.2.2.2.2.2.1) 22 u4.2.2.2.2.2.2.2.2.2.2.2.2.2.2.2.2.2.2.2.2.1) 20 u4.2.2.2.2.2.2.2.2.2.2.2.2.2.2.2.2.2.2.2.2.2.1) 23 u4.2.2.2.2.2.2.2.2.2.2.2.2.2.2.2.2.2.2.2.2.2.2.1) 24 u4.2.2.2.2.2.2.2.2.2.2.2.2.2.2.2.2.2.2.2.2.2.2.2.1) 25 u4.2.2.2.2.2.2.2.2.2.2.2.2.2.2.2.2.2.2.2.2.2.2.2.2.1) 26 u4.2.2.2.2.2.2.2.2.2.2.2.2.2.2.2.2.2.2.2.2.2.2.2.2.2.1) 27 u4.2.2.2.2.2.2.2.2.2.2.2.2.2.2.2.2.2.2.2.2.2.2.2.2.2.2.1) 28 u4.2.2.2.2.2.2.2.2.2.2.2.2.2.2.2.2.2.2.2.2.2.2.2.2.2.2.2.1) 17 u4.2.2.2.2.2.2.2.2.2.2.2.2.2.2.2.2.2.2.2.2.2.2.2.2.2.2.2.2.1) 33 u4.2.2.2.2.2.2.2.2.2.2.2.2.2.2.2.2.2.2.2.2.2.2.2.2.2.2.2.2.2.1) 34 u4.2.2.2.2.2.2.2.2.2.2.2.2.2.2.2.2.2.2.2.2.2.2.2.2.2.2.2.2.2.2.1) 8 u4.2.2.2.2.2.2.2.2.2.2.2.2.2.2.2.2.2.2.2.2.2.2.2.2.2.2.2.2.2.2.2.1) 9 u4.2.2.2.2.2.2.2.2.2.2.2.2.2.2.2.2.2.2.2.2.2.2.2.2.2.2.2.2.2.2.2.2.1) 18 u4.2.2.2.2.2.2.2.2.2.2.2.2.2.2.2.2.2.2.2.2.2.2.2.2.2.2.2.2.2.2.2.2.2) := key.2.2
  clear hMI; have hMI := hMI2; clear hMI2
  refine lv_istore (lv' := [(6, .int r3), (5, .int r1), (4, .int i), (3, .ref q), (2, .ref (aM 0)), (1, .ref (aC 0)), (0, .ref b)]) hx hb dL_law_175 hl (by decide) rfl (fun ls hl => ?_)
  refine lv_goto (tgt := 629) hx hb dL_law_177 (by decide) ?_
  refine W.widen (k := cells + 1066) (n := slots + 9840) (by omega) (by omega) ?_
  exact kk _ _ _ H locs ls (lv_sub hl [2, 3, 4, 5, 6] rfl) hCI hMI (RE.of hRE rfl rfl rfl rfl rfl rfl) hP hS
set_option maxHeartbeats 2000000 in
theorem law_c2 {p : Program} {e : Env} {s : State} {m : MethodId} {below : List Frame} {meth : Method} {c : Code} (l : Launch) (hfl : l.stackTraces = false) {b L : Nat} {xs : Nat → Int32} {D : va_G} {cy : Nat → ClassId} {sa : Nat → Nat} {sz0 : Nat} {aC aM : Nat → Nat} {q : Nat} (C : LC p s m #[Value.ref b] meth c code 7 ret D cy sz0 sa lw_big) (hX : va_X b L xs s s.heap) (hbl : b < s.heap.size) (hbA : ¬ Fr sz0 b) {Q : State → Prop} {i : Int32} (hi : 0 ≤ i.toInt ∧ i.toInt + 7 ≤ (L : Int) ∧ L ≤ 3584) {κ : KS} {σ : RS} {f : Nat → Int64} {H : Heap} {locs : List Loc} {ls : Array Slot} {cells slots : Nat} (hCI : CI sa aC κ) (hMI : MI σ) (hRE : RE κ σ) (hP : LW D cy aC aM q (Fr sz0) κ σ f H) (hS : va_S (Fr sz0) s.heap H locs) (hl : lv_has ls 7 [(4, .int i), (3, .ref q), (2, .ref (aM 0)), (1, .ref (aC 0)), (0, .ref b)]) (hR : cells + 1066 ≤ room_1.cells ∧ slots + 9840 ≤ room_1.slots)
    (kk : ∀ (κ : KS) (σ : RS) (f : Nat → Int64) (H : Heap) (locs : List Loc) (ls : Array Slot), lv_has ls 7 [(4, .int i), (3, .ref q), (2, .ref (aM 0)), (1, .ref (aC 0)), (0, .ref b)] → CI sa aC κ → MI σ → RE κ σ → LW D cy aC aM q (Fr sz0) κ σ f H → va_S (Fr sz0) s.heap H locs → W p l e room_1 s m #[Value.ref b] below meth c H locs (cells + 1066) (slots + 9840) Q (F0 m 629 ls [])) : W p l e room_1 s m #[Value.ref b] below meth c H locs cells slots Q (F0 m 180 ls []) := by
  have hx := C.x
  have hb := C.b
  refine lv_aload_n hx hb dL_law_180 rfl (lv_at hl 3 rfl) ?_
  refine lv_aload_n hx hb dL_law_181 rfl (lv_at hl 4 rfl) ?_
  refine lv_iload hx hb dL_law_182 (lv_at hl 0 rfl) ?_
  refine lv_iconst (v := 1) hx hb dL_law_184 (by decide +kernel) ?_
  refine lv_iadd hx hb dL_law_185 ?_
  refine va_sld hx hb hX hbl hbA hS (sin_ok hi (by decide +kernel)) dL_law_186 ?_
  refine lv_topi (fun k1 ek1 => ?_)
  refine lv_aload_n hx hb dL_law_187 rfl (lv_at hl 1 rfl) ?_
  refine lc_stat (n := 3) (As := [.ref (aC 0), .int k1, .ref q]) (rest := []) C hP hS hl.1 (NL_type l hfl D cy aC aM q sz0 sa κ σ f H.size k1 hCI) (lb_S wl_19 wl_20 wl_2 wl_21) ⟨by decide, by decide, by decide +kernel⟩ rfl rfl (lv_room (Nat.le_of_ble_eq_true rfl)) ⟨Nat.le_of_ble_eq_true rfl, Nat.le_of_ble_eq_true rfl⟩ ⟨Nat.le_trans (Nat.add_le_add_left (Nat.le_of_ble_eq_true rfl) _) hR.1, Nat.le_trans (Nat.add_le_add_left (Nat.le_of_ble_eq_true rfl) _) hR.2⟩ dL_law_188 (fun r2 u3 H locs hr2 hP hS => ?_)
  obtain ⟨hCI, hr2⟩ := hr2
  have hRE : RE u3.1 σ := RE.of hRE hr2.1 hr2.2.1 hr2.2.2 rfl rfl rfl
  obtain ⟨κ, f⟩ := u3
  dsimp only at hRE hP
  refine lv_istore (lv' := [(5, .int r2), (4, .int i), (3, .ref q), (2, .ref (aM 0)), (1, .ref (aC 0)), (0, .ref b)]) hx hb dL_law_191 hl (by decide) rfl (fun ls hl => ?_)
  refine lv_aload_n hx hb dL_law_193 rfl (lv_at hl 3 rfl) ?_
  refine lv_aload_n hx hb dL_law_194 rfl (lv_at hl 5 rfl) ?_
  refine lv_iload hx hb dL_law_195 (lv_at hl 1 rfl) ?_
  refine lv_iconst (v := 1) hx hb dL_law_197 (by decide +kernel) ?_
  refine lv_iadd hx hb dL_law_198 ?_
  refine va_sld hx hb hX hbl hbA hS (sin_ok hi (by decide +kernel)) dL_law_199 ?_
  refine lv_topi (fun k4 ek4 => ?_)
  obtain rfl : k1 = k4 := ek1.trans ek4.symm
  refine lc_ref (n := 1) (As := [.int k1]) (rest := []) C hP hS hl.1 (M_type l D cy sz0 sa aM σ H.size k1 hMI.2.2.2.1) (lb_R wl_22 wl_23 wl_24 wl_25) ⟨rfl, by decide +kernel⟩ rfl rfl (lv_room (Nat.le_of_ble_eq_true rfl)) ⟨Nat.le_of_ble_eq_true rfl, Nat.le_of_ble_eq_true rfl⟩ ⟨Nat.le_trans (by omega) hR.1, Nat.le_trans (by omega) hR.2⟩ dL_law_200 (fun r5 u6 H locs hr5 hP hS => ?_)
  have hMI2 := MI.type hMI k1 r5 u6 hr5
  clear hMI; have hMI := hMI2; clear hMI2
  refine lv_istore (lv' := [(6, .int r5), (5, .int r2), (4, .int i), (3, .ref q), (2, .ref (aM 0)), (1, .ref (aC 0)), (0, .ref b)]) hx hb dL_law_203 hl (by decide) rfl (fun ls hl => ?_)
  refine lv_goto (tgt := 629) hx hb dL_law_205 (by decide) ?_
  refine W.widen (k := cells + 1066) (n := slots + 9840) (by omega) (by omega) ?_
  exact kk _ _ _ H locs ls (lv_sub hl [2, 3, 4, 5, 6] rfl) hCI hMI (RE.of hRE rfl rfl rfl rfl rfl rfl) hP hS
set_option maxHeartbeats 2000000 in
theorem law_c3 {p : Program} {e : Env} {s : State} {m : MethodId} {below : List Frame} {meth : Method} {c : Code} (l : Launch) (hfl : l.stackTraces = false) {b L : Nat} {xs : Nat → Int32} {D : va_G} {cy : Nat → ClassId} {sa : Nat → Nat} {sz0 : Nat} {aC aM : Nat → Nat} {q : Nat} (C : LC p s m #[Value.ref b] meth c code 7 ret D cy sz0 sa lw_big) (hX : va_X b L xs s s.heap) (hbl : b < s.heap.size) (hbA : ¬ Fr sz0 b) {Q : State → Prop} {i : Int32} (hi : 0 ≤ i.toInt ∧ i.toInt + 7 ≤ (L : Int) ∧ L ≤ 3584) {κ : KS} {σ : RS} {f : Nat → Int64} {H : Heap} {locs : List Loc} {ls : Array Slot} {cells slots : Nat} (hCI : CI sa aC κ) (hMI : MI σ) (hRE : RE κ σ) (hP : LW D cy aC aM q (Fr sz0) κ σ f H) (hS : va_S (Fr sz0) s.heap H locs) (hl : lv_has ls 7 [(4, .int i), (3, .ref q), (2, .ref (aM 0)), (1, .ref (aC 0)), (0, .ref b)]) (hR : cells + 1066 ≤ room_1.cells ∧ slots + 9840 ≤ room_1.slots)
    (kk : ∀ (κ : KS) (σ : RS) (f : Nat → Int64) (H : Heap) (locs : List Loc) (ls : Array Slot), lv_has ls 7 [(4, .int i), (3, .ref q), (2, .ref (aM 0)), (1, .ref (aC 0)), (0, .ref b)] → CI sa aC κ → MI σ → RE κ σ → LW D cy aC aM q (Fr sz0) κ σ f H → va_S (Fr sz0) s.heap H locs → W p l e room_1 s m #[Value.ref b] below meth c H locs (cells + 1066) (slots + 9840) Q (F0 m 629 ls [])) : W p l e room_1 s m #[Value.ref b] below meth c H locs cells slots Q (F0 m 208 ls []) := by
  have hx := C.x
  have hb := C.b
  refine lv_aload_n hx hb dL_law_208 rfl (lv_at hl 3 rfl) ?_
  refine lv_aload_n hx hb dL_law_209 rfl (lv_at hl 4 rfl) ?_
  refine lv_iload hx hb dL_law_210 (lv_at hl 0 rfl) ?_
  refine lv_iconst (v := 1) hx hb dL_law_212 (by decide +kernel) ?_
  refine lv_iadd hx hb dL_law_213 ?_
  refine va_sld hx hb hX hbl hbA hS (sin_ok hi (by decide +kernel)) dL_law_214 ?_
  refine lv_topi (fun k1 ek1 => ?_)
  refine lv_aload_n hx hb dL_law_215 rfl (lv_at hl 4 rfl) ?_
  refine lv_iload hx hb dL_law_216 (lv_at hl 0 rfl) ?_
  refine lv_iconst (v := 2) hx hb dL_law_218 (by decide +kernel) ?_
  refine lv_iadd hx hb dL_law_219 ?_
  refine va_sld hx hb hX hbl hbA hS (sin_ok hi (by decide +kernel)) dL_law_220 ?_
  refine lv_topi (fun k2 ek2 => ?_)
  refine lv_aload_n hx hb dL_law_221 rfl (lv_at hl 4 rfl) ?_
  refine lv_iload hx hb dL_law_222 (lv_at hl 0 rfl) ?_
  refine lv_iconst (v := 3) hx hb dL_law_224 (by decide +kernel) ?_
  refine lv_iadd hx hb dL_law_225 ?_
  refine va_sld hx hb hX hbl hbA hS (sin_ok hi (by decide +kernel)) dL_law_226 ?_
  refine lv_topi (fun k3 ek3 => ?_)
  refine lv_aload_n hx hb dL_law_227 rfl (lv_at hl 1 rfl) ?_
  have hPV0 := hCI.1
  refine lc_stat (n := 5) (As := [.ref (aC 0), .int k1, .int k2, .int k3, .ref q]) (rest := []) C hP hS hl.1 (NL_field l hfl D cy aC aM q sz0 sa κ σ f H.size k1 k2 k3 hCI) (lb_S wl_26 wl_27 wl_2 wl_28) ⟨by decide, by decide, by decide +kernel⟩ rfl rfl (lv_room (Nat.le_of_ble_eq_true rfl)) ⟨Nat.le_of_ble_eq_true rfl, Nat.le_of_ble_eq_true rfl⟩ ⟨Nat.le_trans (Nat.add_le_add_left (Nat.le_of_ble_eq_true rfl) _) hR.1, Nat.le_trans (Nat.add_le_add_left (Nat.le_of_ble_eq_true rfl) _) hR.2⟩ dL_law_228 (fun r4 u5 H locs hr4 hP hS => ?_)
  obtain ⟨hCI, hr4⟩ := hr4
  have hRE : RE u5.1 σ := RE.of hRE hr4.1 hr4.2.1 hr4.2.2 rfl rfl rfl
  obtain ⟨κ, f⟩ := u5
  dsimp only at hRE hP
  refine lv_istore (lv' := [(5, .int r4), (4, .int i), (3, .ref q), (2, .ref (aM 0)), (1, .ref (aC 0)), (0, .ref b)]) hx hb dL_law_231 hl (by decide) rfl (fun ls hl => ?_)
  refine lv_aload_n hx hb dL_law_233 rfl (lv_at hl 3 rfl) ?_
  refine lv_aload_n hx hb dL_law_234 rfl (lv_at hl 5 rfl) ?_
  refine lv_iload hx hb dL_law_235 (lv_at hl 1 rfl) ?_
  refine lv_iconst (v := 1) hx hb dL_law_237 (by decide +kernel) ?_
  refine lv_iadd hx hb dL_law_238 ?_
  refine va_sld hx hb hX hbl hbA hS (sin_ok hi (by decide +kernel)) dL_law_239 ?_
  refine lv_topi (fun k6 ek6 => ?_)
  obtain rfl : k1 = k6 := ek1.trans ek6.symm
  refine lv_aload_n hx hb dL_law_240 rfl (lv_at hl 5 rfl) ?_
  refine lv_iload hx hb dL_law_241 (lv_at hl 1 rfl) ?_
  refine lv_iconst (v := 2) hx hb dL_law_243 (by decide +kernel) ?_
  refine lv_iadd hx hb dL_law_244 ?_
  refine va_sld hx hb hX hbl hbA hS (sin_ok hi (by decide +kernel)) dL_law_245 ?_
  refine lv_topi (fun k7 ek7 => ?_)
  obtain rfl : k2 = k7 := ek2.trans ek7.symm
  refine lv_aload_n hx hb dL_law_246 rfl (lv_at hl 5 rfl) ?_
  refine lv_iload hx hb dL_law_247 (lv_at hl 1 rfl) ?_
  refine lv_iconst (v := 3) hx hb dL_law_249 (by decide +kernel) ?_
  refine lv_iadd hx hb dL_law_250 ?_
  refine va_sld hx hb hX hbl hbA hS (sin_ok hi (by decide +kernel)) dL_law_251 ?_
  refine lv_topi (fun k8 ek8 => ?_)
  obtain rfl : k3 = k8 := ek3.trans ek8.symm
  refine lc_ref (n := 3) (As := [.int k1, .int k2, .int k3]) (rest := []) C hP hS hl.1 (M_field l D cy sz0 sa aM σ H.size k1 k2 k3 ⟨hMI.2.2.2.1.1, hMI.2.2.2.1.2, hMI.2.2.2.2.1⟩) (lb_R wl_29 wl_30 wl_31 wl_32) ⟨rfl, by decide +kernel⟩ rfl rfl (lv_room (Nat.le_of_ble_eq_true rfl)) ⟨Nat.le_of_ble_eq_true rfl, Nat.le_of_ble_eq_true rfl⟩ ⟨Nat.le_trans (by omega) hR.1, Nat.le_trans (by omega) hR.2⟩ dL_law_252 (fun r9 u10 H locs hr9 hP hS => ?_)
  have hMI2 := MI.field hMI k1 k2 k3 r9 u10 hr9
  clear hMI; have hMI := hMI2; clear hMI2
  refine lv_istore (lv' := [(6, .int r9), (5, .int r4), (4, .int i), (3, .ref q), (2, .ref (aM 0)), (1, .ref (aC 0)), (0, .ref b)]) hx hb dL_law_255 hl (by decide) rfl (fun ls hl => ?_)
  refine lv_goto (tgt := 629) hx hb dL_law_257 (by decide) ?_
  refine W.widen (k := cells + 1066) (n := slots + 9840) (by omega) (by omega) ?_
  exact kk _ _ _ H locs ls (lv_sub hl [2, 3, 4, 5, 6] rfl) hCI hMI (RE.of hRE rfl rfl rfl rfl rfl rfl) hP hS
set_option maxHeartbeats 2000000 in
theorem law_c4 {p : Program} {e : Env} {s : State} {m : MethodId} {below : List Frame} {meth : Method} {c : Code} (l : Launch) (hfl : l.stackTraces = false) {b L : Nat} {xs : Nat → Int32} {D : va_G} {cy : Nat → ClassId} {sa : Nat → Nat} {sz0 : Nat} {aC aM : Nat → Nat} {q : Nat} (C : LC p s m #[Value.ref b] meth c code 7 ret D cy sz0 sa lw_big) (hX : va_X b L xs s s.heap) (hbl : b < s.heap.size) (hbA : ¬ Fr sz0 b) {Q : State → Prop} {i : Int32} (hi : 0 ≤ i.toInt ∧ i.toInt + 7 ≤ (L : Int) ∧ L ≤ 3584) {κ : KS} {σ : RS} {f : Nat → Int64} {H : Heap} {locs : List Loc} {ls : Array Slot} {cells slots : Nat} (hCI : CI sa aC κ) (hMI : MI σ) (hRE : RE κ σ) (hP : LW D cy aC aM q (Fr sz0) κ σ f H) (hS : va_S (Fr sz0) s.heap H locs) (hl : lv_has ls 7 [(4, .int i), (3, .ref q), (2, .ref (aM 0)), (1, .ref (aC 0)), (0, .ref b)]) (hR : cells + 1066 ≤ room_1.cells ∧ slots + 9840 ≤ room_1.slots)
    (kk : ∀ (κ : KS) (σ : RS) (f : Nat → Int64) (H : Heap) (locs : List Loc) (ls : Array Slot), lv_has ls 7 [(4, .int i), (3, .ref q), (2, .ref (aM 0)), (1, .ref (aC 0)), (0, .ref b)] → CI sa aC κ → MI σ → RE κ σ → LW D cy aC aM q (Fr sz0) κ σ f H → va_S (Fr sz0) s.heap H locs → W p l e room_1 s m #[Value.ref b] below meth c H locs (cells + 1066) (slots + 9840) Q (F0 m 629 ls [])) : W p l e room_1 s m #[Value.ref b] below meth c H locs cells slots Q (F0 m 260 ls []) := by
  have hx := C.x
  have hb := C.b
  refine lv_aload_n hx hb dL_law_260 rfl (lv_at hl 3 rfl) ?_
  refine lv_aload_n hx hb dL_law_261 rfl (lv_at hl 4 rfl) ?_
  refine lv_iload hx hb dL_law_262 (lv_at hl 0 rfl) ?_
  refine lv_iconst (v := 1) hx hb dL_law_264 (by decide +kernel) ?_
  refine lv_iadd hx hb dL_law_265 ?_
  refine va_sld hx hb hX hbl hbA hS (sin_ok hi (by decide +kernel)) dL_law_266 ?_
  refine lv_topi (fun k1 ek1 => ?_)
  refine lv_aload_n hx hb dL_law_267 rfl (lv_at hl 4 rfl) ?_
  refine lv_iload hx hb dL_law_268 (lv_at hl 0 rfl) ?_
  refine lv_iconst (v := 2) hx hb dL_law_270 (by decide +kernel) ?_
  refine lv_iadd hx hb dL_law_271 ?_
  refine va_sld hx hb hX hbl hbA hS (sin_ok hi (by decide +kernel)) dL_law_272 ?_
  refine lv_topi (fun k2 ek2 => ?_)
  refine lv_aload_n hx hb dL_law_273 rfl (lv_at hl 4 rfl) ?_
  refine lv_iload hx hb dL_law_274 (lv_at hl 0 rfl) ?_
  refine lv_iconst (v := 3) hx hb dL_law_276 (by decide +kernel) ?_
  refine lv_iadd hx hb dL_law_277 ?_
  refine va_sld hx hb hX hbl hbA hS (sin_ok hi (by decide +kernel)) dL_law_278 ?_
  refine lv_topi (fun k3 ek3 => ?_)
  refine lv_aload_n hx hb dL_law_279 rfl (lv_at hl 4 rfl) ?_
  refine lv_iload hx hb dL_law_280 (lv_at hl 0 rfl) ?_
  refine lv_iconst (v := 4) hx hb dL_law_282 (by decide +kernel) ?_
  refine lv_iadd hx hb dL_law_283 ?_
  refine va_sld hx hb hX hbl hbA hS (sin_ok hi (by decide +kernel)) dL_law_284 ?_
  refine lv_topi (fun k4 ek4 => ?_)
  refine lv_aload_n hx hb dL_law_285 rfl (lv_at hl 4 rfl) ?_
  refine lv_iload hx hb dL_law_286 (lv_at hl 0 rfl) ?_
  refine lv_iconst (v := 5) hx hb dL_law_288 (by decide +kernel) ?_
  refine lv_iadd hx hb dL_law_289 ?_
  refine va_sld hx hb hX hbl hbA hS (sin_ok hi (by decide +kernel)) dL_law_290 ?_
  refine lv_topi (fun k5 ek5 => ?_)
  refine lv_aload_n hx hb dL_law_291 rfl (lv_at hl 4 rfl) ?_
  refine lv_iload hx hb dL_law_292 (lv_at hl 0 rfl) ?_
  refine lv_bipush (v := 6) hx hb dL_law_294 (by decide +kernel) ?_
  refine lv_iadd hx hb dL_law_296 ?_
  refine va_sld hx hb hX hbl hbA hS (sin_ok hi (by decide +kernel)) dL_law_297 ?_
  refine lv_topi (fun k6 ek6 => ?_)
  refine lv_aload_n hx hb dL_law_298 rfl (lv_at hl 1 rfl) ?_
  refine lc_stat (n := 8) (As := [.ref (aC 0), .int k1, .int k2, .int k3, .int k4, .int k5, .int k6, .ref q]) (rest := []) C hP hS hl.1 (NL_method l hfl D cy aC aM q sz0 sa κ σ f H.size k1 k2 k3 k4 k5 k6 hCI) (lb_S wl_33 wl_34 wl_2 wl_35) ⟨by decide, by decide, by decide +kernel⟩ rfl rfl (lv_room (Nat.le_of_ble_eq_true rfl)) ⟨Nat.le_of_ble_eq_true rfl, Nat.le_of_ble_eq_true rfl⟩ ⟨Nat.le_trans (Nat.add_le_add_left (Nat.le_of_ble_eq_true rfl) _) hR.1, Nat.le_trans (Nat.add_le_add_left (Nat.le_of_ble_eq_true rfl) _) hR.2⟩ dL_law_299 (fun r7 u8 H locs hr7 hP hS => ?_)
  obtain ⟨hCI, hr7⟩ := hr7
  have hRE : RE u8.1 σ := RE.of hRE hr7.1 hr7.2.1 hr7.2.2 rfl rfl rfl
  obtain ⟨κ, f⟩ := u8
  dsimp only at hRE hP
  refine lv_istore (lv' := [(5, .int r7), (4, .int i), (3, .ref q), (2, .ref (aM 0)), (1, .ref (aC 0)), (0, .ref b)]) hx hb dL_law_302 hl (by decide) rfl (fun ls hl => ?_)
  refine lv_aload_n hx hb dL_law_304 rfl (lv_at hl 3 rfl) ?_
  refine lv_aload_n hx hb dL_law_305 rfl (lv_at hl 5 rfl) ?_
  refine lv_iload hx hb dL_law_306 (lv_at hl 1 rfl) ?_
  refine lv_iconst (v := 1) hx hb dL_law_308 (by decide +kernel) ?_
  refine lv_iadd hx hb dL_law_309 ?_
  refine va_sld hx hb hX hbl hbA hS (sin_ok hi (by decide +kernel)) dL_law_310 ?_
  refine lv_topi (fun k9 ek9 => ?_)
  obtain rfl : k1 = k9 := ek1.trans ek9.symm
  refine lv_aload_n hx hb dL_law_311 rfl (lv_at hl 5 rfl) ?_
  refine lv_iload hx hb dL_law_312 (lv_at hl 1 rfl) ?_
  refine lv_iconst (v := 2) hx hb dL_law_314 (by decide +kernel) ?_
  refine lv_iadd hx hb dL_law_315 ?_
  refine va_sld hx hb hX hbl hbA hS (sin_ok hi (by decide +kernel)) dL_law_316 ?_
  refine lv_topi (fun k10 ek10 => ?_)
  obtain rfl : k2 = k10 := ek2.trans ek10.symm
  refine lv_aload_n hx hb dL_law_317 rfl (lv_at hl 5 rfl) ?_
  refine lv_iload hx hb dL_law_318 (lv_at hl 1 rfl) ?_
  refine lv_iconst (v := 3) hx hb dL_law_320 (by decide +kernel) ?_
  refine lv_iadd hx hb dL_law_321 ?_
  refine va_sld hx hb hX hbl hbA hS (sin_ok hi (by decide +kernel)) dL_law_322 ?_
  refine lv_topi (fun k11 ek11 => ?_)
  obtain rfl : k3 = k11 := ek3.trans ek11.symm
  refine lv_aload_n hx hb dL_law_323 rfl (lv_at hl 5 rfl) ?_
  refine lv_iload hx hb dL_law_324 (lv_at hl 1 rfl) ?_
  refine lv_iconst (v := 4) hx hb dL_law_326 (by decide +kernel) ?_
  refine lv_iadd hx hb dL_law_327 ?_
  refine va_sld hx hb hX hbl hbA hS (sin_ok hi (by decide +kernel)) dL_law_328 ?_
  refine lv_topi (fun k12 ek12 => ?_)
  obtain rfl : k4 = k12 := ek4.trans ek12.symm
  refine lv_aload_n hx hb dL_law_329 rfl (lv_at hl 5 rfl) ?_
  refine lv_iload hx hb dL_law_330 (lv_at hl 1 rfl) ?_
  refine lv_iconst (v := 5) hx hb dL_law_332 (by decide +kernel) ?_
  refine lv_iadd hx hb dL_law_333 ?_
  refine va_sld hx hb hX hbl hbA hS (sin_ok hi (by decide +kernel)) dL_law_334 ?_
  refine lv_topi (fun k13 ek13 => ?_)
  obtain rfl : k5 = k13 := ek5.trans ek13.symm
  refine lv_aload_n hx hb dL_law_335 rfl (lv_at hl 5 rfl) ?_
  refine lv_iload hx hb dL_law_336 (lv_at hl 1 rfl) ?_
  refine lv_bipush (v := 6) hx hb dL_law_338 (by decide +kernel) ?_
  refine lv_iadd hx hb dL_law_340 ?_
  refine va_sld hx hb hX hbl hbA hS (sin_ok hi (by decide +kernel)) dL_law_341 ?_
  refine lv_topi (fun k14 ek14 => ?_)
  obtain rfl : k6 = k14 := ek6.trans ek14.symm
  refine lc_ref (n := 6) (As := [.int k1, .int k2, .int k3, .int k4, .int k5, .int k6]) (rest := []) C hP hS hl.1 (M_method l D cy sz0 sa aM σ H.size k1 k2 k3 k4 k5 k6 ⟨hMI.2.2.2.1.1, hMI.2.2.2.1.2, hMI.2.2.2.2.1⟩) (lb_R wl_36 wl_37 wl_38 wl_39) ⟨rfl, by decide +kernel⟩ rfl rfl (lv_room (Nat.le_of_ble_eq_true rfl)) ⟨Nat.le_of_ble_eq_true rfl, Nat.le_of_ble_eq_true rfl⟩ ⟨Nat.le_trans (by omega) hR.1, Nat.le_trans (by omega) hR.2⟩ dL_law_342 (fun r15 u16 H locs hr15 hP hS => ?_)
  have hMI2 := MI.method hMI k1 k2 k3 k4 k5 k6 r15 u16 hr15
  clear hMI; have hMI := hMI2; clear hMI2
  refine lv_istore (lv' := [(6, .int r15), (5, .int r7), (4, .int i), (3, .ref q), (2, .ref (aM 0)), (1, .ref (aC 0)), (0, .ref b)]) hx hb dL_law_345 hl (by decide) rfl (fun ls hl => ?_)
  refine lv_goto (tgt := 629) hx hb dL_law_347 (by decide) ?_
  refine W.widen (k := cells + 1066) (n := slots + 9840) (by omega) (by omega) ?_
  exact kk _ _ _ H locs ls (lv_sub hl [2, 3, 4, 5, 6] rfl) hCI hMI (RE.of hRE rfl rfl rfl rfl rfl rfl) hP hS
set_option maxHeartbeats 2000000 in
theorem law_c5 {p : Program} {e : Env} {s : State} {m : MethodId} {below : List Frame} {meth : Method} {c : Code} (l : Launch) (hfl : l.stackTraces = false) {b L : Nat} {xs : Nat → Int32} {D : va_G} {cy : Nat → ClassId} {sa : Nat → Nat} {sz0 : Nat} {aC aM : Nat → Nat} {q : Nat} (C : LC p s m #[Value.ref b] meth c code 7 ret D cy sz0 sa lw_big) (hX : va_X b L xs s s.heap) (hbl : b < s.heap.size) (hbA : ¬ Fr sz0 b) {Q : State → Prop} {i : Int32} (hi : 0 ≤ i.toInt ∧ i.toInt + 7 ≤ (L : Int) ∧ L ≤ 3584) {κ : KS} {σ : RS} {f : Nat → Int64} {H : Heap} {locs : List Loc} {ls : Array Slot} {cells slots : Nat} (hCI : CI sa aC κ) (hMI : MI σ) (hRE : RE κ σ) (hP : LW D cy aC aM q (Fr sz0) κ σ f H) (hS : va_S (Fr sz0) s.heap H locs) (hl : lv_has ls 7 [(4, .int i), (3, .ref q), (2, .ref (aM 0)), (1, .ref (aC 0)), (0, .ref b)]) (hR : cells + 1066 ≤ room_1.cells ∧ slots + 9840 ≤ room_1.slots)
    (kk : ∀ (κ : KS) (σ : RS) (f : Nat → Int64) (H : Heap) (locs : List Loc) (ls : Array Slot), lv_has ls 7 [(4, .int i), (3, .ref q), (2, .ref (aM 0)), (1, .ref (aC 0)), (0, .ref b)] → CI sa aC κ → MI σ → RE κ σ → LW D cy aC aM q (Fr sz0) κ σ f H → va_S (Fr sz0) s.heap H locs → W p l e room_1 s m #[Value.ref b] below meth c H locs (cells + 1066) (slots + 9840) Q (F0 m 629 ls [])) : W p l e room_1 s m #[Value.ref b] below meth c H locs cells slots Q (F0 m 350 ls []) := by
  have hx := C.x
  have hb := C.b
  refine lv_aload_n hx hb dL_law_350 rfl (lv_at hl 3 rfl) ?_
  refine lv_aload_n hx hb dL_law_351 rfl (lv_at hl 4 rfl) ?_
  refine lv_iload hx hb dL_law_352 (lv_at hl 0 rfl) ?_
  refine lv_iconst (v := 1) hx hb dL_law_354 (by decide +kernel) ?_
  refine lv_iadd hx hb dL_law_355 ?_
  refine va_sld hx hb hX hbl hbA hS (sin_ok hi (by decide +kernel)) dL_law_356 ?_
  refine lv_topi (fun k1 ek1 => ?_)
  refine lv_aload_n hx hb dL_law_357 rfl (lv_at hl 1 rfl) ?_
  refine lc_stat (n := 3) (As := [.ref (aC 0), .int k1, .ref q]) (rest := []) C hP hS hl.1 (NL_make l hfl D cy aC aM q sz0 sa κ σ f H.size k1 hCI) (lb_S wl_40 wl_41 wl_2 wl_42) ⟨by decide, by decide, by decide +kernel⟩ rfl rfl (lv_room (Nat.le_of_ble_eq_true rfl)) ⟨Nat.le_of_ble_eq_true rfl, Nat.le_of_ble_eq_true rfl⟩ ⟨Nat.le_trans (Nat.add_le_add_left (Nat.le_of_ble_eq_true rfl) _) hR.1, Nat.le_trans (Nat.add_le_add_left (Nat.le_of_ble_eq_true rfl) _) hR.2⟩ dL_law_358 (fun r2 u3 H locs hr2 hP hS => ?_)
  obtain ⟨hCI, hr2⟩ := hr2
  have hRE : RE u3.1 σ := RE.of hRE hr2.1 hr2.2.1 hr2.2.2 rfl rfl rfl
  obtain ⟨κ, f⟩ := u3
  dsimp only at hRE hP
  refine lv_istore (lv' := [(5, .int r2), (4, .int i), (3, .ref q), (2, .ref (aM 0)), (1, .ref (aC 0)), (0, .ref b)]) hx hb dL_law_361 hl (by decide) rfl (fun ls hl => ?_)
  refine lv_aload_n hx hb dL_law_363 rfl (lv_at hl 3 rfl) ?_
  refine lv_aload_n hx hb dL_law_364 rfl (lv_at hl 5 rfl) ?_
  refine lv_iload hx hb dL_law_365 (lv_at hl 1 rfl) ?_
  refine lv_iconst (v := 1) hx hb dL_law_367 (by decide +kernel) ?_
  refine lv_iadd hx hb dL_law_368 ?_
  refine va_sld hx hb hX hbl hbA hS (sin_ok hi (by decide +kernel)) dL_law_369 ?_
  refine lv_topi (fun k4 ek4 => ?_)
  obtain rfl : k1 = k4 := ek1.trans ek4.symm
  refine lc_ref (n := 1) (As := [.int k1]) (rest := []) C hP hS hl.1 (M_make l D cy sz0 sa aM σ H.size k1 ⟨hMI.2.2.2.1.1, hMI.2.2.2.1.2, hMI.2.2.2.2.2.2.1.1, hMI.2.2.2.2.2.2.1.2⟩) (lb_R wl_43 wl_44 wl_45 wl_46) ⟨rfl, by decide +kernel⟩ rfl rfl (lv_room (Nat.le_of_ble_eq_true rfl)) ⟨Nat.le_of_ble_eq_true rfl, Nat.le_of_ble_eq_true rfl⟩ ⟨Nat.le_trans (by omega) hR.1, Nat.le_trans (by omega) hR.2⟩ dL_law_370 (fun r5 u6 H locs hr5 hP hS => ?_)
  have hMI2 := MI.make hMI k1 r5 u6 hr5
  clear hMI; have hMI := hMI2; clear hMI2
  refine lv_istore (lv' := [(6, .int r5), (5, .int r2), (4, .int i), (3, .ref q), (2, .ref (aM 0)), (1, .ref (aC 0)), (0, .ref b)]) hx hb dL_law_373 hl (by decide) rfl (fun ls hl => ?_)
  refine lv_goto (tgt := 629) hx hb dL_law_375 (by decide) ?_
  refine W.widen (k := cells + 1066) (n := slots + 9840) (by omega) (by omega) ?_
  exact kk _ _ _ H locs ls (lv_sub hl [2, 3, 4, 5, 6] rfl) hCI hMI (RE.of hRE rfl rfl rfl rfl rfl rfl) hP hS
set_option maxHeartbeats 2000000 in
theorem law_c6 {p : Program} {e : Env} {s : State} {m : MethodId} {below : List Frame} {meth : Method} {c : Code} (l : Launch) (hfl : l.stackTraces = false) {b L : Nat} {xs : Nat → Int32} {D : va_G} {cy : Nat → ClassId} {sa : Nat → Nat} {sz0 : Nat} {aC aM : Nat → Nat} {q : Nat} (C : LC p s m #[Value.ref b] meth c code 7 ret D cy sz0 sa lw_big) (hX : va_X b L xs s s.heap) (hbl : b < s.heap.size) (hbA : ¬ Fr sz0 b) {Q : State → Prop} {i : Int32} (hi : 0 ≤ i.toInt ∧ i.toInt + 7 ≤ (L : Int) ∧ L ≤ 3584) {κ : KS} {σ : RS} {f : Nat → Int64} {H : Heap} {locs : List Loc} {ls : Array Slot} {cells slots : Nat} (hCI : CI sa aC κ) (hMI : MI σ) (hRE : RE κ σ) (hP : LW D cy aC aM q (Fr sz0) κ σ f H) (hS : va_S (Fr sz0) s.heap H locs) (hl : lv_has ls 7 [(4, .int i), (3, .ref q), (2, .ref (aM 0)), (1, .ref (aC 0)), (0, .ref b)]) (hR : cells + 1066 ≤ room_1.cells ∧ slots + 9840 ≤ room_1.slots)
    (kk : ∀ (κ : KS) (σ : RS) (f : Nat → Int64) (H : Heap) (locs : List Loc) (ls : Array Slot), lv_has ls 7 [(4, .int i), (3, .ref q), (2, .ref (aM 0)), (1, .ref (aC 0)), (0, .ref b)] → CI sa aC κ → MI σ → RE κ σ → LW D cy aC aM q (Fr sz0) κ σ f H → va_S (Fr sz0) s.heap H locs → W p l e room_1 s m #[Value.ref b] below meth c H locs (cells + 1066) (slots + 9840) Q (F0 m 629 ls [])) : W p l e room_1 s m #[Value.ref b] below meth c H locs cells slots Q (F0 m 378 ls []) := by
  have hx := C.x
  have hb := C.b
  refine lv_aload_n hx hb dL_law_378 rfl (lv_at hl 3 rfl) ?_
  refine lv_aload_n hx hb dL_law_379 rfl (lv_at hl 4 rfl) ?_
  refine lv_iload hx hb dL_law_380 (lv_at hl 0 rfl) ?_
  refine lv_iconst (v := 1) hx hb dL_law_382 (by decide +kernel) ?_
  refine lv_iadd hx hb dL_law_383 ?_
  refine va_sld hx hb hX hbl hbA hS (sin_ok hi (by decide +kernel)) dL_law_384 ?_
  refine lv_topi (fun k1 ek1 => ?_)
  refine lv_aload_n hx hb dL_law_385 rfl (lv_at hl 4 rfl) ?_
  refine lv_iload hx hb dL_law_386 (lv_at hl 0 rfl) ?_
  refine lv_iconst (v := 2) hx hb dL_law_388 (by decide +kernel) ?_
  refine lv_iadd hx hb dL_law_389 ?_
  refine va_sld hx hb hX hbl hbA hS (sin_ok hi (by decide +kernel)) dL_law_390 ?_
  refine lv_topi (fun k2 ek2 => ?_)
  refine lv_aload_n hx hb dL_law_391 rfl (lv_at hl 4 rfl) ?_
  refine lv_iload hx hb dL_law_392 (lv_at hl 0 rfl) ?_
  refine lv_iconst (v := 3) hx hb dL_law_394 (by decide +kernel) ?_
  refine lv_iadd hx hb dL_law_395 ?_
  refine va_sld hx hb hX hbl hbA hS (sin_ok hi (by decide +kernel)) dL_law_396 ?_
  refine lv_topi (fun k3 ek3 => ?_)
  refine lv_if_eq (tgt := 404) hx hb dL_law_397 (by decide) (fun c4 => ?_) (fun c4 => ?_)
  · refine lv_iconst (v := 0) hx hb dL_law_404 (by decide +kernel) ?_
    refine lv_aload_n hx hb dL_law_405 rfl (lv_at hl 1 rfl) ?_
    refine lc_stat (n := 5) (As := [.ref (aC 0), .int k1, .int k2, .int 0, .ref q]) (rest := []) C hP hS hl.1 (NL_converter l hfl D cy aC aM q sz0 sa κ σ f H.size k1 k2 0 hCI ⟨by decide, by decide⟩) (lb_S wl_47 wl_48 wl_2 wl_49) ⟨by decide, by decide, by decide +kernel⟩ rfl rfl (lv_room (Nat.le_of_ble_eq_true rfl)) ⟨Nat.le_of_ble_eq_true rfl, Nat.le_of_ble_eq_true rfl⟩ ⟨Nat.le_trans (Nat.add_le_add_left (Nat.le_of_ble_eq_true rfl) _) hR.1, Nat.le_trans (Nat.add_le_add_left (Nat.le_of_ble_eq_true rfl) _) hR.2⟩ dL_law_406 (fun r5 u6 H locs hr5 hP hS => ?_)
    obtain ⟨hCI, hr5⟩ := hr5
    have hRE : RE u6.1 σ := RE.of hRE hr5.1 hr5.2.1 hr5.2.2 rfl rfl rfl
    obtain ⟨κ, f⟩ := u6
    dsimp only at hRE hP
    refine lv_istore (lv' := [(5, .int r5), (4, .int i), (3, .ref q), (2, .ref (aM 0)), (1, .ref (aC 0)), (0, .ref b)]) hx hb dL_law_409 hl (by decide) rfl (fun ls hl => ?_)
    refine lv_aload_n hx hb dL_law_411 rfl (lv_at hl 3 rfl) ?_
    refine lv_aload_n hx hb dL_law_412 rfl (lv_at hl 5 rfl) ?_
    refine lv_iload hx hb dL_law_413 (lv_at hl 1 rfl) ?_
    refine lv_iconst (v := 1) hx hb dL_law_415 (by decide +kernel) ?_
    refine lv_iadd hx hb dL_law_416 ?_
    refine va_sld hx hb hX hbl hbA hS (sin_ok hi (by decide +kernel)) dL_law_417 ?_
    refine lv_topi (fun k7 ek7 => ?_)
    obtain rfl : k1 = k7 := ek1.trans ek7.symm
    refine lv_aload_n hx hb dL_law_418 rfl (lv_at hl 5 rfl) ?_
    refine lv_iload hx hb dL_law_419 (lv_at hl 1 rfl) ?_
    refine lv_iconst (v := 2) hx hb dL_law_421 (by decide +kernel) ?_
    refine lv_iadd hx hb dL_law_422 ?_
    refine va_sld hx hb hX hbl hbA hS (sin_ok hi (by decide +kernel)) dL_law_423 ?_
    refine lv_topi (fun k8 ek8 => ?_)
    obtain rfl : k2 = k8 := ek2.trans ek8.symm
    refine lv_aload_n hx hb dL_law_424 rfl (lv_at hl 5 rfl) ?_
    refine lv_iload hx hb dL_law_425 (lv_at hl 1 rfl) ?_
    refine lv_iconst (v := 3) hx hb dL_law_427 (by decide +kernel) ?_
    refine lv_iadd hx hb dL_law_428 ?_
    refine va_sld hx hb hX hbl hbA hS (sin_ok hi (by decide +kernel)) dL_law_429 ?_
    refine lv_topi (fun k9 ek9 => ?_)
    obtain rfl : k3 = k9 := ek3.trans ek9.symm
    refine lv_if_eq (tgt := 437) hx hb dL_law_430 (by decide) (fun _ => ?_) (fun c9 => absurd c4 c9)
    refine lv_iconst (v := 0) hx hb dL_law_437 (by decide +kernel) ?_
    refine lc_ref (n := 3) (As := [.int k1, .int k2, .int 0]) (rest := []) C hP hS hl.1 (M_converter l D cy sz0 sa aM σ H.size k1 k2 0 ⟨hMI.2.2.2.2.2.2.2.1, Or.inl (by decide)⟩) (lb_R wl_50 wl_51 wl_52 wl_53) ⟨rfl, by decide +kernel⟩ rfl rfl (lv_room (Nat.le_of_ble_eq_true rfl)) ⟨Nat.le_of_ble_eq_true rfl, Nat.le_of_ble_eq_true rfl⟩ ⟨Nat.le_trans (by omega) hR.1, Nat.le_trans (by omega) hR.2⟩ dL_law_438 (fun r11 u12 H locs hr11 hP hS => ?_)
    have hMI2 := MI.converter hMI k1 k2 0 r11 u12 (Or.inl (by decide)) hr11
    clear hMI; have hMI := hMI2; clear hMI2
    refine lv_istore (lv' := [(6, .int r11), (5, .int r5), (4, .int i), (3, .ref q), (2, .ref (aM 0)), (1, .ref (aC 0)), (0, .ref b)]) hx hb dL_law_441 hl (by decide) rfl (fun ls hl => ?_)
    refine lv_goto (tgt := 629) hx hb dL_law_443 (by decide) ?_
    refine W.widen (k := cells + 1066) (n := slots + 9840) (by omega) (by omega) ?_
    exact kk _ _ _ H locs ls (lv_sub hl [2, 3, 4, 5, 6] rfl) hCI hMI (RE.of hRE rfl rfl rfl rfl rfl rfl) hP hS
  · refine lv_iconst (v := 1) hx hb dL_law_400 (by decide +kernel) ?_
    refine lv_goto (tgt := 405) hx hb dL_law_401 (by decide) ?_
    refine lv_aload_n hx hb dL_law_405 rfl (lv_at hl 1 rfl) ?_
    refine lc_stat (n := 5) (As := [.ref (aC 0), .int k1, .int k2, .int 1, .ref q]) (rest := []) C hP hS hl.1 (NL_converter l hfl D cy aC aM q sz0 sa κ σ f H.size k1 k2 1 hCI ⟨by decide, by decide⟩) (lb_S wl_47 wl_48 wl_2 wl_49) ⟨by decide, by decide, by decide +kernel⟩ rfl rfl (lv_room (Nat.le_of_ble_eq_true rfl)) ⟨Nat.le_of_ble_eq_true rfl, Nat.le_of_ble_eq_true rfl⟩ ⟨Nat.le_trans (Nat.add_le_add_left (Nat.le_of_ble_eq_true rfl) _) hR.1, Nat.le_trans (Nat.add_le_add_left (Nat.le_of_ble_eq_true rfl) _) hR.2⟩ dL_law_406 (fun r13 u14 H locs hr13 hP hS => ?_)
    obtain ⟨hCI, hr13⟩ := hr13
    have hRE : RE u14.1 σ := RE.of hRE hr13.1 hr13.2.1 hr13.2.2 rfl rfl rfl
    obtain ⟨κ, f⟩ := u14
    dsimp only at hRE hP
    refine lv_istore (lv' := [(5, .int r13), (4, .int i), (3, .ref q), (2, .ref (aM 0)), (1, .ref (aC 0)), (0, .ref b)]) hx hb dL_law_409 hl (by decide) rfl (fun ls hl => ?_)
    refine lv_aload_n hx hb dL_law_411 rfl (lv_at hl 3 rfl) ?_
    refine lv_aload_n hx hb dL_law_412 rfl (lv_at hl 5 rfl) ?_
    refine lv_iload hx hb dL_law_413 (lv_at hl 1 rfl) ?_
    refine lv_iconst (v := 1) hx hb dL_law_415 (by decide +kernel) ?_
    refine lv_iadd hx hb dL_law_416 ?_
    refine va_sld hx hb hX hbl hbA hS (sin_ok hi (by decide +kernel)) dL_law_417 ?_
    refine lv_topi (fun k15 ek15 => ?_)
    obtain rfl : k1 = k15 := ek1.trans ek15.symm
    refine lv_aload_n hx hb dL_law_418 rfl (lv_at hl 5 rfl) ?_
    refine lv_iload hx hb dL_law_419 (lv_at hl 1 rfl) ?_
    refine lv_iconst (v := 2) hx hb dL_law_421 (by decide +kernel) ?_
    refine lv_iadd hx hb dL_law_422 ?_
    refine va_sld hx hb hX hbl hbA hS (sin_ok hi (by decide +kernel)) dL_law_423 ?_
    refine lv_topi (fun k16 ek16 => ?_)
    obtain rfl : k2 = k16 := ek2.trans ek16.symm
    refine lv_aload_n hx hb dL_law_424 rfl (lv_at hl 5 rfl) ?_
    refine lv_iload hx hb dL_law_425 (lv_at hl 1 rfl) ?_
    refine lv_iconst (v := 3) hx hb dL_law_427 (by decide +kernel) ?_
    refine lv_iadd hx hb dL_law_428 ?_
    refine va_sld hx hb hX hbl hbA hS (sin_ok hi (by decide +kernel)) dL_law_429 ?_
    refine lv_topi (fun k17 ek17 => ?_)
    obtain rfl : k3 = k17 := ek3.trans ek17.symm
    refine lv_if_eq (tgt := 437) hx hb dL_law_430 (by decide) (fun c9 => absurd c9 c4) (fun _ => ?_)
    refine lv_iconst (v := 1) hx hb dL_law_433 (by decide +kernel) ?_
    refine lv_goto (tgt := 438) hx hb dL_law_434 (by decide) ?_
    refine lc_ref (n := 3) (As := [.int k1, .int k2, .int 1]) (rest := []) C hP hS hl.1 (M_converter l D cy sz0 sa aM σ H.size k1 k2 1 ⟨hMI.2.2.2.2.2.2.2.1, Or.inr (by decide)⟩) (lb_R wl_50 wl_51 wl_52 wl_53) ⟨rfl, by decide +kernel⟩ rfl rfl (lv_room (Nat.le_of_ble_eq_true rfl)) ⟨Nat.le_of_ble_eq_true rfl, Nat.le_of_ble_eq_true rfl⟩ ⟨Nat.le_trans (by omega) hR.1, Nat.le_trans (by omega) hR.2⟩ dL_law_438 (fun r19 u20 H locs hr19 hP hS => ?_)
    have hMI2 := MI.converter hMI k1 k2 1 r19 u20 (Or.inr (by decide)) hr19
    clear hMI; have hMI := hMI2; clear hMI2
    refine lv_istore (lv' := [(6, .int r19), (5, .int r13), (4, .int i), (3, .ref q), (2, .ref (aM 0)), (1, .ref (aC 0)), (0, .ref b)]) hx hb dL_law_441 hl (by decide) rfl (fun ls hl => ?_)
    refine lv_goto (tgt := 629) hx hb dL_law_443 (by decide) ?_
    refine W.widen (k := cells + 1066) (n := slots + 9840) (by omega) (by omega) ?_
    exact kk _ _ _ H locs ls (lv_sub hl [2, 3, 4, 5, 6] rfl) hCI hMI (RE.of hRE rfl rfl rfl rfl rfl rfl) hP hS
set_option maxHeartbeats 2000000 in
theorem law_c7 {p : Program} {e : Env} {s : State} {m : MethodId} {below : List Frame} {meth : Method} {c : Code} (l : Launch) (hfl : l.stackTraces = false) {b L : Nat} {xs : Nat → Int32} {D : va_G} {cy : Nat → ClassId} {sa : Nat → Nat} {sz0 : Nat} {aC aM : Nat → Nat} {q : Nat} (C : LC p s m #[Value.ref b] meth c code 7 ret D cy sz0 sa lw_big) (hX : va_X b L xs s s.heap) (hbl : b < s.heap.size) (hbA : ¬ Fr sz0 b) {Q : State → Prop} {i : Int32} (hi : 0 ≤ i.toInt ∧ i.toInt + 7 ≤ (L : Int) ∧ L ≤ 3584) {κ : KS} {σ : RS} {f : Nat → Int64} {H : Heap} {locs : List Loc} {ls : Array Slot} {cells slots : Nat} (hCI : CI sa aC κ) (hMI : MI σ) (hRE : RE κ σ) (hP : LW D cy aC aM q (Fr sz0) κ σ f H) (hS : va_S (Fr sz0) s.heap H locs) (hl : lv_has ls 7 [(4, .int i), (3, .ref q), (2, .ref (aM 0)), (1, .ref (aC 0)), (0, .ref b)]) (hR : cells + 1066 ≤ room_1.cells ∧ slots + 9840 ≤ room_1.slots)
    (kk : ∀ (κ : KS) (σ : RS) (f : Nat → Int64) (H : Heap) (locs : List Loc) (ls : Array Slot), lv_has ls 7 [(4, .int i), (3, .ref q), (2, .ref (aM 0)), (1, .ref (aC 0)), (0, .ref b)] → CI sa aC κ → MI σ → RE κ σ → LW D cy aC aM q (Fr sz0) κ σ f H → va_S (Fr sz0) s.heap H locs → W p l e room_1 s m #[Value.ref b] below meth c H locs (cells + 1066) (slots + 9840) Q (F0 m 629 ls [])) : W p l e room_1 s m #[Value.ref b] below meth c H locs cells slots Q (F0 m 446 ls []) := by
  have hx := C.x
  have hb := C.b
  refine lv_aload_n hx hb dL_law_446 rfl (lv_at hl 3 rfl) ?_
  refine lv_aload_n hx hb dL_law_447 rfl (lv_at hl 4 rfl) ?_
  refine lv_iload hx hb dL_law_448 (lv_at hl 0 rfl) ?_
  refine lv_iconst (v := 1) hx hb dL_law_450 (by decide +kernel) ?_
  refine lv_iadd hx hb dL_law_451 ?_
  refine va_sld hx hb hX hbl hbA hS (sin_ok hi (by decide +kernel)) dL_law_452 ?_
  refine lv_topi (fun k1 ek1 => ?_)
  refine lv_aload_n hx hb dL_law_453 rfl (lv_at hl 4 rfl) ?_
  refine lv_iload hx hb dL_law_454 (lv_at hl 0 rfl) ?_
  refine lv_iconst (v := 2) hx hb dL_law_456 (by decide +kernel) ?_
  refine lv_iadd hx hb dL_law_457 ?_
  refine va_sld hx hb hX hbl hbA hS (sin_ok hi (by decide +kernel)) dL_law_458 ?_
  refine lv_topi (fun k2 ek2 => ?_)
  refine lv_aload_n hx hb dL_law_459 rfl (lv_at hl 1 rfl) ?_
  refine lc_stat (n := 4) (As := [.ref (aC 0), .int k1, .int k2, .ref q]) (rest := []) C hP hS hl.1 (NL_run l hfl D cy aC aM q sz0 sa κ σ f H.size k1 k2 hCI) (lb_S wl_54 wl_55 wl_2 wl_56) ⟨by decide, by decide, by decide +kernel⟩ rfl rfl (lv_room (Nat.le_of_ble_eq_true rfl)) ⟨Nat.le_of_ble_eq_true rfl, Nat.le_of_ble_eq_true rfl⟩ ⟨Nat.le_trans (Nat.add_le_add_left (Nat.le_of_ble_eq_true rfl) _) hR.1, Nat.le_trans (Nat.add_le_add_left (Nat.le_of_ble_eq_true rfl) _) hR.2⟩ dL_law_460 (fun r3 u4 H locs hr3 hP hS => ?_)
  obtain ⟨hCI, hr3⟩ := hr3
  have hRE : RE u4.1 σ := RE.of hRE hr3.1 hr3.2.1 hr3.2.2 rfl rfl rfl
  obtain ⟨κ, f⟩ := u4
  dsimp only at hRE hP
  refine lv_istore (lv' := [(5, .int r3), (4, .int i), (3, .ref q), (2, .ref (aM 0)), (1, .ref (aC 0)), (0, .ref b)]) hx hb dL_law_463 hl (by decide) rfl (fun ls hl => ?_)
  refine lv_aload_n hx hb dL_law_465 rfl (lv_at hl 3 rfl) ?_
  refine lv_aload_n hx hb dL_law_466 rfl (lv_at hl 5 rfl) ?_
  refine lv_iload hx hb dL_law_467 (lv_at hl 1 rfl) ?_
  refine lv_iconst (v := 1) hx hb dL_law_469 (by decide +kernel) ?_
  refine lv_iadd hx hb dL_law_470 ?_
  refine va_sld hx hb hX hbl hbA hS (sin_ok hi (by decide +kernel)) dL_law_471 ?_
  refine lv_topi (fun k5 ek5 => ?_)
  obtain rfl : k1 = k5 := ek1.trans ek5.symm
  refine lv_aload_n hx hb dL_law_472 rfl (lv_at hl 5 rfl) ?_
  refine lv_iload hx hb dL_law_473 (lv_at hl 1 rfl) ?_
  refine lv_iconst (v := 2) hx hb dL_law_475 (by decide +kernel) ?_
  refine lv_iadd hx hb dL_law_476 ?_
  refine va_sld hx hb hX hbl hbA hS (sin_ok hi (by decide +kernel)) dL_law_477 ?_
  refine lv_topi (fun k6 ek6 => ?_)
  obtain rfl : k2 = k6 := ek2.trans ek6.symm
  refine lc_ref (n := 2) (As := [.int k1, .int k2]) (rest := []) C hP hS hl.1 (M_run l D cy sz0 sa aM σ H.size k1 k2 ⟨hMI.1.1, hMI.1.2, hMI.2.1.1, hMI.2.1.2, hMI.2.2.1, hMI.2.2.2.1.1, hMI.2.2.2.1.2, hMI.2.2.2.2.1, hMI.2.2.2.2.2.1, hMI.2.2.2.2.2.2.1.1, hMI.2.2.2.2.2.2.1.2, hMI.2.2.2.2.2.2.2.1, hMI.2.2.2.2.2.2.2.2.1, hMI.2.2.2.2.2.2.2.2.2.1, hMI.2.2.2.2.2.2.2.2.2.2.1, hMI.2.2.2.2.2.2.2.2.2.2.2.1, hMI.2.2.2.2.2.2.2.2.2.2.2.2.1, hMI.2.2.2.2.2.2.2.2.2.2.2.2.2.1.1, hMI.2.2.2.2.2.2.2.2.2.2.2.2.2.1.2⟩) (lb_R wl_57 wl_58 wl_59 wl_60) ⟨rfl, by decide +kernel⟩ rfl rfl (lv_room (Nat.le_of_ble_eq_true rfl)) ⟨Nat.le_of_ble_eq_true rfl, Nat.le_of_ble_eq_true rfl⟩ ⟨Nat.le_trans (by omega) hR.1, Nat.le_trans (by omega) hR.2⟩ dL_law_478 (fun r7 u8 H locs hr7 hP hS => ?_)
  have hMI2 := MI.run hMI k1 k2 r7 u8 hr7
  clear hMI; have hMI := hMI2; clear hMI2
  refine lv_istore (lv' := [(6, .int r7), (5, .int r3), (4, .int i), (3, .ref q), (2, .ref (aM 0)), (1, .ref (aC 0)), (0, .ref b)]) hx hb dL_law_481 hl (by decide) rfl (fun ls hl => ?_)
  refine lv_goto (tgt := 629) hx hb dL_law_483 (by decide) ?_
  refine W.widen (k := cells + 1066) (n := slots + 9840) (by omega) (by omega) ?_
  exact kk _ _ _ H locs ls (lv_sub hl [2, 3, 4, 5, 6] rfl) hCI hMI (RE.of hRE rfl rfl rfl rfl rfl rfl) hP hS
set_option maxHeartbeats 2000000 in
theorem law_c8 {p : Program} {e : Env} {s : State} {m : MethodId} {below : List Frame} {meth : Method} {c : Code} (l : Launch) (hfl : l.stackTraces = false) {b L : Nat} {xs : Nat → Int32} {D : va_G} {cy : Nat → ClassId} {sa : Nat → Nat} {sz0 : Nat} {aC aM : Nat → Nat} {q : Nat} (C : LC p s m #[Value.ref b] meth c code 7 ret D cy sz0 sa lw_big) (hX : va_X b L xs s s.heap) (hbl : b < s.heap.size) (hbA : ¬ Fr sz0 b) {Q : State → Prop} {i : Int32} (hi : 0 ≤ i.toInt ∧ i.toInt + 7 ≤ (L : Int) ∧ L ≤ 3584) {κ : KS} {σ : RS} {f : Nat → Int64} {H : Heap} {locs : List Loc} {ls : Array Slot} {cells slots : Nat} (hCI : CI sa aC κ) (hMI : MI σ) (hRE : RE κ σ) (hP : LW D cy aC aM q (Fr sz0) κ σ f H) (hS : va_S (Fr sz0) s.heap H locs) (hl : lv_has ls 7 [(4, .int i), (3, .ref q), (2, .ref (aM 0)), (1, .ref (aC 0)), (0, .ref b)]) (hR : cells + 1066 ≤ room_1.cells ∧ slots + 9840 ≤ room_1.slots)
    (kk : ∀ (κ : KS) (σ : RS) (f : Nat → Int64) (H : Heap) (locs : List Loc) (ls : Array Slot), lv_has ls 7 [(4, .int i), (3, .ref q), (2, .ref (aM 0)), (1, .ref (aC 0)), (0, .ref b)] → CI sa aC κ → MI σ → RE κ σ → LW D cy aC aM q (Fr sz0) κ σ f H → va_S (Fr sz0) s.heap H locs → W p l e room_1 s m #[Value.ref b] below meth c H locs (cells + 1066) (slots + 9840) Q (F0 m 629 ls [])) : W p l e room_1 s m #[Value.ref b] below meth c H locs cells slots Q (F0 m 486 ls []) := by
  have hx := C.x
  have hb := C.b
  refine lv_aload_n hx hb dL_law_486 rfl (lv_at hl 3 rfl) ?_
  refine lv_aload_n hx hb dL_law_487 rfl (lv_at hl 4 rfl) ?_
  refine lv_iload hx hb dL_law_488 (lv_at hl 0 rfl) ?_
  refine lv_iconst (v := 1) hx hb dL_law_490 (by decide +kernel) ?_
  refine lv_iadd hx hb dL_law_491 ?_
  refine va_sld hx hb hX hbl hbA hS (sin_ok hi (by decide +kernel)) dL_law_492 ?_
  refine lv_topi (fun k1 ek1 => ?_)
  refine lv_aload_n hx hb dL_law_493 rfl (lv_at hl 1 rfl) ?_
  refine lc_stat (n := 3) (As := [.ref (aC 0), .int k1, .ref q]) (rest := []) C hP hS hl.1 (NL_keep l hfl D cy aC aM q sz0 sa κ σ f H.size k1 hCI) (lb_S wl_61 wl_62 wl_2 wl_63) ⟨by decide, by decide, by decide +kernel⟩ rfl rfl (lv_room (Nat.le_of_ble_eq_true rfl)) ⟨Nat.le_of_ble_eq_true rfl, Nat.le_of_ble_eq_true rfl⟩ ⟨Nat.le_trans (Nat.add_le_add_left (Nat.le_of_ble_eq_true rfl) _) hR.1, Nat.le_trans (Nat.add_le_add_left (Nat.le_of_ble_eq_true rfl) _) hR.2⟩ dL_law_494 (fun r2 u3 H locs hr2 hP hS => ?_)
  obtain ⟨hCI, hr2⟩ := hr2
  have hRE : RE u3.1 σ := RE.of hRE hr2.1 hr2.2.1 hr2.2.2 rfl rfl rfl
  obtain ⟨κ, f⟩ := u3
  dsimp only at hRE hP
  refine lv_istore (lv' := [(5, .int r2), (4, .int i), (3, .ref q), (2, .ref (aM 0)), (1, .ref (aC 0)), (0, .ref b)]) hx hb dL_law_497 hl (by decide) rfl (fun ls hl => ?_)
  refine lv_aload_n hx hb dL_law_499 rfl (lv_at hl 3 rfl) ?_
  refine lv_aload_n hx hb dL_law_500 rfl (lv_at hl 5 rfl) ?_
  refine lv_iload hx hb dL_law_501 (lv_at hl 1 rfl) ?_
  refine lv_iconst (v := 1) hx hb dL_law_503 (by decide +kernel) ?_
  refine lv_iadd hx hb dL_law_504 ?_
  refine va_sld hx hb hX hbl hbA hS (sin_ok hi (by decide +kernel)) dL_law_505 ?_
  refine lv_topi (fun k4 ek4 => ?_)
  obtain rfl : k1 = k4 := ek1.trans ek4.symm
  refine lc_ref (n := 1) (As := [.int k1]) (rest := []) C hP hS hl.1 (M_keep l D cy sz0 sa aM σ H.size k1 ⟨hMI.2.2.2.2.2.2.2.2.2.2.2.2.2.1.1, hMI.2.2.2.2.2.2.2.2.2.2.2.2.2.1.2, hMI.2.2.2.2.2.2.2.2.2.2.2.1, hMI.2.2.2.2.2.2.2.2.2.2.2.2.1, hMI.2.2.2.1.1, hMI.2.2.2.1.2⟩) (lb_R wl_64 wl_65 wl_66 wl_67) ⟨rfl, by decide +kernel⟩ rfl rfl (lv_room (Nat.le_of_ble_eq_true rfl)) ⟨Nat.le_of_ble_eq_true rfl, Nat.le_of_ble_eq_true rfl⟩ ⟨Nat.le_trans (by omega) hR.1, Nat.le_trans (by omega) hR.2⟩ dL_law_506 (fun r5 u6 H locs hr5 hP hS => ?_)
  have hMI2 := MI.keep hMI k1 r5 u6 hr5
  clear hMI; have hMI := hMI2; clear hMI2
  refine lv_istore (lv' := [(6, .int r5), (5, .int r2), (4, .int i), (3, .ref q), (2, .ref (aM 0)), (1, .ref (aC 0)), (0, .ref b)]) hx hb dL_law_509 hl (by decide) rfl (fun ls hl => ?_)
  refine lv_goto (tgt := 629) hx hb dL_law_511 (by decide) ?_
  refine W.widen (k := cells + 1066) (n := slots + 9840) (by omega) (by omega) ?_
  exact kk _ _ _ H locs ls (lv_sub hl [2, 3, 4, 5, 6] rfl) hCI hMI (RE.of hRE rfl rfl rfl rfl rfl rfl) hP hS
set_option maxHeartbeats 2000000 in
theorem law_c9 {p : Program} {e : Env} {s : State} {m : MethodId} {below : List Frame} {meth : Method} {c : Code} (l : Launch) (hfl : l.stackTraces = false) {b L : Nat} {xs : Nat → Int32} {D : va_G} {cy : Nat → ClassId} {sa : Nat → Nat} {sz0 : Nat} {aC aM : Nat → Nat} {q : Nat} (C : LC p s m #[Value.ref b] meth c code 7 ret D cy sz0 sa lw_big) (hX : va_X b L xs s s.heap) (hbl : b < s.heap.size) (hbA : ¬ Fr sz0 b) {Q : State → Prop} {i : Int32} (hi : 0 ≤ i.toInt ∧ i.toInt + 7 ≤ (L : Int) ∧ L ≤ 3584) {κ : KS} {σ : RS} {f : Nat → Int64} {H : Heap} {locs : List Loc} {ls : Array Slot} {cells slots : Nat} (hCI : CI sa aC κ) (hMI : MI σ) (hRE : RE κ σ) (hP : LW D cy aC aM q (Fr sz0) κ σ f H) (hS : va_S (Fr sz0) s.heap H locs) (hl : lv_has ls 7 [(4, .int i), (3, .ref q), (2, .ref (aM 0)), (1, .ref (aC 0)), (0, .ref b)]) (hR : cells + 1066 ≤ room_1.cells ∧ slots + 9840 ≤ room_1.slots)
    (kk : ∀ (κ : KS) (σ : RS) (f : Nat → Int64) (H : Heap) (locs : List Loc) (ls : Array Slot), lv_has ls 7 [(4, .int i), (3, .ref q), (2, .ref (aM 0)), (1, .ref (aC 0)), (0, .ref b)] → CI sa aC κ → MI σ → RE κ σ → LW D cy aC aM q (Fr sz0) κ σ f H → va_S (Fr sz0) s.heap H locs → W p l e room_1 s m #[Value.ref b] below meth c H locs (cells + 1066) (slots + 9840) Q (F0 m 629 ls [])) : W p l e room_1 s m #[Value.ref b] below meth c H locs cells slots Q (F0 m 514 ls []) := by
  have hx := C.x
  have hb := C.b
  refine lv_aload_n hx hb dL_law_514 rfl (lv_at hl 3 rfl) ?_
  refine lv_aload_n hx hb dL_law_515 rfl (lv_at hl 4 rfl) ?_
  refine lv_iload hx hb dL_law_516 (lv_at hl 0 rfl) ?_
  refine lv_iconst (v := 1) hx hb dL_law_518 (by decide +kernel) ?_
  refine lv_iadd hx hb dL_law_519 ?_
  refine va_sld hx hb hX hbl hbA hS (sin_ok hi (by decide +kernel)) dL_law_520 ?_
  refine lv_topi (fun k1 ek1 => ?_)
  refine lc_class (n := 1) (As := [.int k1]) (rest := []) C hP hS hl.1 (fun A hAF hAn => NX11_result l D cy aC A sz0 sa κ _ _ hAF hAn k1 hCI.1 hCI.2.1) (lb_C wl_68 wl_69 wl_70 wl_71) ⟨rfl, by decide +kernel⟩ rfl rfl (lv_room (Nat.le_of_ble_eq_true rfl)) ⟨Nat.le_of_ble_eq_true rfl, Nat.le_of_ble_eq_true rfl⟩ ⟨Nat.le_trans (Nat.add_le_add_left (Nat.le_of_ble_eq_true rfl) _) hR.1, Nat.le_trans (Nat.add_le_add_left (Nat.le_of_ble_eq_true rfl) _) hR.2⟩ dL_law_521 (fun r2 u3 H locs hr2 hP hS => ?_)
  refine lv_pop hx hb dL_law_524 rfl ?_
  refine lv_aload_n hx hb dL_law_525 rfl (lv_at hl 2 rfl) ?_
  refine lv_aload_n hx hb dL_law_526 rfl (lv_at hl 4 rfl) ?_
  refine lv_iload hx hb dL_law_527 (lv_at hl 0 rfl) ?_
  refine lv_iconst (v := 1) hx hb dL_law_529 (by decide +kernel) ?_
  refine lv_iadd hx hb dL_law_530 ?_
  refine va_sld hx hb hX hbl hbA hS (sin_ok hi (by decide +kernel)) dL_law_531 ?_
  refine lv_topi (fun k4 ek4 => ?_)
  obtain rfl : k1 = k4 := ek1.trans ek4.symm
  refine lc_ref (n := 1) (As := [.int k1]) (rest := []) C hP hS hl.1 (M_result l D cy sz0 sa aM σ H.size k1 hMI.2.2.2.2.2.2.2.2.2.2.2.2.1) (lb_R wl_72 wl_73 wl_74 wl_75) ⟨rfl, by decide +kernel⟩ rfl rfl (lv_room (Nat.le_of_ble_eq_true rfl)) ⟨Nat.le_of_ble_eq_true rfl, Nat.le_of_ble_eq_true rfl⟩ ⟨Nat.le_trans (by omega) hR.1, Nat.le_trans (by omega) hR.2⟩ dL_law_532 (fun r5 u6 H locs hr5 hP hS => ?_)
  have hMI2 := MI.result hMI k1 r5 u6 hr5
  clear hMI; have hMI := hMI2; clear hMI2
  refine lv_pop hx hb dL_law_535 rfl ?_
  refine lv_goto (tgt := 629) hx hb dL_law_536 (by decide) ?_
  refine W.widen (k := cells + 1066) (n := slots + 9840) (by omega) (by omega) ?_
  exact kk _ _ _ H locs ls (lv_sub hl [0, 1, 2, 3, 4] rfl) hCI hMI (RE.of hRE rfl rfl rfl rfl rfl rfl) hP hS
set_option maxHeartbeats 2000000 in
theorem law_c10 {p : Program} {e : Env} {s : State} {m : MethodId} {below : List Frame} {meth : Method} {c : Code} (l : Launch) (hfl : l.stackTraces = false) {b L : Nat} {xs : Nat → Int32} {D : va_G} {cy : Nat → ClassId} {sa : Nat → Nat} {sz0 : Nat} {aC aM : Nat → Nat} {q : Nat} (C : LC p s m #[Value.ref b] meth c code 7 ret D cy sz0 sa lw_big) (hX : va_X b L xs s s.heap) (hbl : b < s.heap.size) (hbA : ¬ Fr sz0 b) {Q : State → Prop} {i : Int32} (hi : 0 ≤ i.toInt ∧ i.toInt + 7 ≤ (L : Int) ∧ L ≤ 3584) {κ : KS} {σ : RS} {f : Nat → Int64} {H : Heap} {locs : List Loc} {ls : Array Slot} {cells slots : Nat} (hCI : CI sa aC κ) (hMI : MI σ) (hRE : RE κ σ) (hP : LW D cy aC aM q (Fr sz0) κ σ f H) (hS : va_S (Fr sz0) s.heap H locs) (hl : lv_has ls 7 [(4, .int i), (3, .ref q), (2, .ref (aM 0)), (1, .ref (aC 0)), (0, .ref b)]) (hR : cells + 1066 ≤ room_1.cells ∧ slots + 9840 ≤ room_1.slots)
    (kk : ∀ (κ : KS) (σ : RS) (f : Nat → Int64) (H : Heap) (locs : List Loc) (ls : Array Slot), lv_has ls 7 [(4, .int i), (3, .ref q), (2, .ref (aM 0)), (1, .ref (aC 0)), (0, .ref b)] → CI sa aC κ → MI σ → RE κ σ → LW D cy aC aM q (Fr sz0) κ σ f H → va_S (Fr sz0) s.heap H locs → W p l e room_1 s m #[Value.ref b] below meth c H locs (cells + 1066) (slots + 9840) Q (F0 m 629 ls [])) : W p l e room_1 s m #[Value.ref b] below meth c H locs cells slots Q (F0 m 539 ls []) := by
  have hx := C.x
  have hb := C.b
  refine lv_aload_n hx hb dL_law_539 rfl (lv_at hl 3 rfl) ?_
  refine lv_aload_n hx hb dL_law_540 rfl (lv_at hl 4 rfl) ?_
  refine lv_iload hx hb dL_law_541 (lv_at hl 0 rfl) ?_
  refine lv_iconst (v := 1) hx hb dL_law_543 (by decide +kernel) ?_
  refine lv_iadd hx hb dL_law_544 ?_
  refine va_sld hx hb hX hbl hbA hS (sin_ok hi (by decide +kernel)) dL_law_545 ?_
  refine lv_topi (fun k1 ek1 => ?_)
  refine lc_class (n := 1) (As := [.int k1]) (rest := []) C hP hS hl.1 (fun A hAF hAn => NX11_text l D cy aC A sz0 sa κ _ _ hAF hAn k1 hCI.1 hCI.2.1) (lb_C wl_76 wl_77 wl_78 wl_79) ⟨rfl, by decide +kernel⟩ rfl rfl (lv_room (Nat.le_of_ble_eq_true rfl)) ⟨Nat.le_of_ble_eq_true rfl, Nat.le_of_ble_eq_true rfl⟩ ⟨Nat.le_trans (Nat.add_le_add_left (Nat.le_of_ble_eq_true rfl) _) hR.1, Nat.le_trans (Nat.add_le_add_left (Nat.le_of_ble_eq_true rfl) _) hR.2⟩ dL_law_546 (fun r2 u3 H locs hr2 hP hS => ?_)
  refine lv_pop hx hb dL_law_549 rfl ?_
  refine lv_aload_n hx hb dL_law_550 rfl (lv_at hl 2 rfl) ?_
  refine lv_aload_n hx hb dL_law_551 rfl (lv_at hl 4 rfl) ?_
  refine lv_iload hx hb dL_law_552 (lv_at hl 0 rfl) ?_
  refine lv_iconst (v := 1) hx hb dL_law_554 (by decide +kernel) ?_
  refine lv_iadd hx hb dL_law_555 ?_
  refine va_sld hx hb hX hbl hbA hS (sin_ok hi (by decide +kernel)) dL_law_556 ?_
  refine lv_topi (fun k4 ek4 => ?_)
  obtain rfl : k1 = k4 := ek1.trans ek4.symm
  refine lc_ref (n := 1) (As := [.int k1]) (rest := []) C hP hS hl.1 (M_text l D cy sz0 sa aM σ H.size k1 trivial) (lb_R wl_80 wl_81 wl_82 wl_83) ⟨rfl, by decide +kernel⟩ rfl rfl (lv_room (Nat.le_of_ble_eq_true rfl)) ⟨Nat.le_of_ble_eq_true rfl, Nat.le_of_ble_eq_true rfl⟩ ⟨Nat.le_trans (by omega) hR.1, Nat.le_trans (by omega) hR.2⟩ dL_law_557 (fun r5 u6 H locs hr5 hP hS => ?_)
  have hMI2 := MI.text hMI k1 r5 u6 hr5
  clear hMI; have hMI := hMI2; clear hMI2
  refine lv_pop hx hb dL_law_560 rfl ?_
  refine lv_goto (tgt := 629) hx hb dL_law_561 (by decide) ?_
  refine W.widen (k := cells + 1066) (n := slots + 9840) (by omega) (by omega) ?_
  exact kk _ _ _ H locs ls (lv_sub hl [0, 1, 2, 3, 4] rfl) hCI hMI (RE.of hRE rfl rfl rfl rfl rfl rfl) hP hS
set_option maxHeartbeats 2000000 in
theorem law_c11 {p : Program} {e : Env} {s : State} {m : MethodId} {below : List Frame} {meth : Method} {c : Code} (l : Launch) (hfl : l.stackTraces = false) {b L : Nat} {xs : Nat → Int32} {D : va_G} {cy : Nat → ClassId} {sa : Nat → Nat} {sz0 : Nat} {aC aM : Nat → Nat} {q : Nat} (C : LC p s m #[Value.ref b] meth c code 7 ret D cy sz0 sa lw_big) (hX : va_X b L xs s s.heap) (hbl : b < s.heap.size) (hbA : ¬ Fr sz0 b) {Q : State → Prop} {i : Int32} (hi : 0 ≤ i.toInt ∧ i.toInt + 7 ≤ (L : Int) ∧ L ≤ 3584) {κ : KS} {σ : RS} {f : Nat → Int64} {H : Heap} {locs : List Loc} {ls : Array Slot} {cells slots : Nat} (hCI : CI sa aC κ) (hMI : MI σ) (hRE : RE κ σ) (hP : LW D cy aC aM q (Fr sz0) κ σ f H) (hS : va_S (Fr sz0) s.heap H locs) (hl : lv_has ls 7 [(4, .int i), (3, .ref q), (2, .ref (aM 0)), (1, .ref (aC 0)), (0, .ref b)]) (hR : cells + 1066 ≤ room_1.cells ∧ slots + 9840 ≤ room_1.slots)
    (kk : ∀ (κ : KS) (σ : RS) (f : Nat → Int64) (H : Heap) (locs : List Loc) (ls : Array Slot), lv_has ls 7 [(4, .int i), (3, .ref q), (2, .ref (aM 0)), (1, .ref (aC 0)), (0, .ref b)] → CI sa aC κ → MI σ → RE κ σ → LW D cy aC aM q (Fr sz0) κ σ f H → va_S (Fr sz0) s.heap H locs → W p l e room_1 s m #[Value.ref b] below meth c H locs (cells + 1066) (slots + 9840) Q (F0 m 629 ls [])) : W p l e room_1 s m #[Value.ref b] below meth c H locs cells slots Q (F0 m 564 ls []) := by
  have hx := C.x
  have hb := C.b
  refine lv_aload_n hx hb dL_law_564 rfl (lv_at hl 3 rfl) ?_
  refine lv_aload_n hx hb dL_law_565 rfl (lv_at hl 4 rfl) ?_
  refine lv_iload hx hb dL_law_566 (lv_at hl 0 rfl) ?_
  refine lv_iconst (v := 1) hx hb dL_law_568 (by decide +kernel) ?_
  refine lv_iadd hx hb dL_law_569 ?_
  refine va_sld hx hb hX hbl hbA hS (sin_ok hi (by decide +kernel)) dL_law_570 ?_
  refine lv_topi (fun k1 ek1 => ?_)
  refine lv_aload_n hx hb dL_law_571 rfl (lv_at hl 4 rfl) ?_
  refine lv_iload hx hb dL_law_572 (lv_at hl 0 rfl) ?_
  refine lv_iconst (v := 2) hx hb dL_law_574 (by decide +kernel) ?_
  refine lv_iadd hx hb dL_law_575 ?_
  refine va_sld hx hb hX hbl hbA hS (sin_ok hi (by decide +kernel)) dL_law_576 ?_
  refine lv_topi (fun k2 ek2 => ?_)
  refine lv_aload_n hx hb dL_law_577 rfl (lv_at hl 1 rfl) ?_
  refine lc_stat (n := 4) (As := [.ref (aC 0), .int k1, .int k2, .ref q]) (rest := []) C hP hS hl.1 (NL_put l hfl D cy aC aM q sz0 sa κ σ f H.size k1 k2 hCI) (lb_S wl_84 wl_85 wl_2 wl_86) ⟨by decide, by decide, by decide +kernel⟩ rfl rfl (lv_room (Nat.le_of_ble_eq_true rfl)) ⟨Nat.le_of_ble_eq_true rfl, Nat.le_of_ble_eq_true rfl⟩ ⟨Nat.le_trans (Nat.add_le_add_left (Nat.le_of_ble_eq_true rfl) _) hR.1, Nat.le_trans (Nat.add_le_add_left (Nat.le_of_ble_eq_true rfl) _) hR.2⟩ dL_law_578 (fun r3 u4 H locs hr3 hP hS => ?_)
  obtain ⟨hCI, hr3⟩ := hr3
  have hRE : RE u4.1 σ := RE.of hRE hr3.1 hr3.2.1 hr3.2.2 rfl rfl rfl
  obtain ⟨κ, f⟩ := u4
  dsimp only at hRE hP
  refine lv_istore (lv' := [(5, .int r3), (4, .int i), (3, .ref q), (2, .ref (aM 0)), (1, .ref (aC 0)), (0, .ref b)]) hx hb dL_law_581 hl (by decide) rfl (fun ls hl => ?_)
  refine lv_aload_n hx hb dL_law_583 rfl (lv_at hl 3 rfl) ?_
  refine lv_aload_n hx hb dL_law_584 rfl (lv_at hl 5 rfl) ?_
  refine lv_iload hx hb dL_law_585 (lv_at hl 1 rfl) ?_
  refine lv_iconst (v := 1) hx hb dL_law_587 (by decide +kernel) ?_
  refine lv_iadd hx hb dL_law_588 ?_
  refine va_sld hx hb hX hbl hbA hS (sin_ok hi (by decide +kernel)) dL_law_589 ?_
  refine lv_topi (fun k5 ek5 => ?_)
  obtain rfl : k1 = k5 := ek1.trans ek5.symm
  refine lv_aload_n hx hb dL_law_590 rfl (lv_at hl 5 rfl) ?_
  refine lv_iload hx hb dL_law_591 (lv_at hl 1 rfl) ?_
  refine lv_iconst (v := 2) hx hb dL_law_593 (by decide +kernel) ?_
  refine lv_iadd hx hb dL_law_594 ?_
  refine va_sld hx hb hX hbl hbA hS (sin_ok hi (by decide +kernel)) dL_law_595 ?_
  refine lv_topi (fun k6 ek6 => ?_)
  obtain rfl : k2 = k6 := ek2.trans ek6.symm
  refine lc_ref (n := 2) (As := [.int k1, .int k2]) (rest := []) C hP hS hl.1 (M_put l D cy sz0 sa aM σ H.size k1 k2 ⟨hMI.2.2.2.1.1, hMI.2.2.2.1.2, hMI.2.2.2.2.1, hMI.2.2.2.2.2.1, hMI.2.2.2.2.2.2.1.1, hMI.2.2.2.2.2.2.1.2, hMI.2.2.2.2.2.2.2.1, hMI.2.2.2.2.2.2.2.2.1, hMI.2.2.2.2.2.2.2.2.2.2.2.1, hMI.2.2.2.2.2.2.2.2.2.2.2.2.1⟩) (lb_R wl_87 wl_88 wl_89 wl_90) ⟨rfl, by decide +kernel⟩ rfl rfl (lv_room (Nat.le_of_ble_eq_true rfl)) ⟨Nat.le_of_ble_eq_true rfl, Nat.le_of_ble_eq_true rfl⟩ ⟨Nat.le_trans (by omega) hR.1, Nat.le_trans (by omega) hR.2⟩ dL_law_596 (fun r7 u8 H locs hr7 hP hS => ?_)
  have hMI2 := MI.put hMI k1 k2 r7 u8 hr7
  clear hMI; have hMI := hMI2; clear hMI2
  refine lv_istore (lv' := [(6, .int r7), (5, .int r3), (4, .int i), (3, .ref q), (2, .ref (aM 0)), (1, .ref (aC 0)), (0, .ref b)]) hx hb dL_law_599 hl (by decide) rfl (fun ls hl => ?_)
  refine lv_goto (tgt := 629) hx hb dL_law_601 (by decide) ?_
  refine W.widen (k := cells + 1066) (n := slots + 9840) (by omega) (by omega) ?_
  exact kk _ _ _ H locs ls (lv_sub hl [2, 3, 4, 5, 6] rfl) hCI hMI (RE.of hRE rfl rfl rfl rfl rfl rfl) hP hS
set_option maxHeartbeats 2000000 in
theorem law_c12 {p : Program} {e : Env} {s : State} {m : MethodId} {below : List Frame} {meth : Method} {c : Code} (l : Launch) (hfl : l.stackTraces = false) {b L : Nat} {xs : Nat → Int32} {D : va_G} {cy : Nat → ClassId} {sa : Nat → Nat} {sz0 : Nat} {aC aM : Nat → Nat} {q : Nat} (C : LC p s m #[Value.ref b] meth c code 7 ret D cy sz0 sa lw_big) (hX : va_X b L xs s s.heap) (hbl : b < s.heap.size) (hbA : ¬ Fr sz0 b) {Q : State → Prop} {i : Int32} (hi : 0 ≤ i.toInt ∧ i.toInt + 7 ≤ (L : Int) ∧ L ≤ 3584) {κ : KS} {σ : RS} {f : Nat → Int64} {H : Heap} {locs : List Loc} {ls : Array Slot} {cells slots : Nat} (hCI : CI sa aC κ) (hMI : MI σ) (hRE : RE κ σ) (hP : LW D cy aC aM q (Fr sz0) κ σ f H) (hS : va_S (Fr sz0) s.heap H locs) (hl : lv_has ls 7 [(4, .int i), (3, .ref q), (2, .ref (aM 0)), (1, .ref (aC 0)), (0, .ref b)]) (hR : cells + 1066 ≤ room_1.cells ∧ slots + 9840 ≤ room_1.slots)
    (kk : ∀ (κ : KS) (σ : RS) (f : Nat → Int64) (H : Heap) (locs : List Loc) (ls : Array Slot), lv_has ls 7 [(4, .int i), (3, .ref q), (2, .ref (aM 0)), (1, .ref (aC 0)), (0, .ref b)] → CI sa aC κ → MI σ → RE κ σ → LW D cy aC aM q (Fr sz0) κ σ f H → va_S (Fr sz0) s.heap H locs → W p l e room_1 s m #[Value.ref b] below meth c H locs (cells + 1066) (slots + 9840) Q (F0 m 629 ls [])) : W p l e room_1 s m #[Value.ref b] below meth c H locs cells slots Q (F0 m 604 ls []) := by
  have hx := C.x
  have hb := C.b
  refine lv_aload_n hx hb dL_law_604 rfl (lv_at hl 3 rfl) ?_
  refine lv_aload_n hx hb dL_law_605 rfl (lv_at hl 4 rfl) ?_
  refine lv_iload hx hb dL_law_606 (lv_at hl 0 rfl) ?_
  refine lv_iconst (v := 1) hx hb dL_law_608 (by decide +kernel) ?_
  refine lv_iadd hx hb dL_law_609 ?_
  refine va_sld hx hb hX hbl hbA hS (sin_ok hi (by decide +kernel)) dL_law_610 ?_
  refine lv_topi (fun k1 ek1 => ?_)
  refine lc_class (n := 1) (As := [.int k1]) (rest := []) C hP hS hl.1 (fun A hAF hAn => NX11_about l D cy aC A sz0 sa κ _ _ hAF hAn k1 ) (lb_C wl_91 wl_92 wl_93 wl_94) ⟨rfl, by decide +kernel⟩ rfl rfl (lv_room (Nat.le_of_ble_eq_true rfl)) ⟨Nat.le_of_ble_eq_true rfl, Nat.le_of_ble_eq_true rfl⟩ ⟨Nat.le_trans (Nat.add_le_add_left (Nat.le_of_ble_eq_true rfl) _) hR.1, Nat.le_trans (Nat.add_le_add_left (Nat.le_of_ble_eq_true rfl) _) hR.2⟩ dL_law_611 (fun r2 u3 H locs hr2 hP hS => ?_)
  refine lv_pop hx hb dL_law_614 rfl ?_
  refine lv_aload_n hx hb dL_law_615 rfl (lv_at hl 2 rfl) ?_
  refine lv_aload_n hx hb dL_law_616 rfl (lv_at hl 4 rfl) ?_
  refine lv_iload hx hb dL_law_617 (lv_at hl 0 rfl) ?_
  refine lv_iconst (v := 1) hx hb dL_law_619 (by decide +kernel) ?_
  refine lv_iadd hx hb dL_law_620 ?_
  refine va_sld hx hb hX hbl hbA hS (sin_ok hi (by decide +kernel)) dL_law_621 ?_
  refine lv_topi (fun k4 ek4 => ?_)
  obtain rfl : k1 = k4 := ek1.trans ek4.symm
  refine lc_ref (n := 1) (As := [.int k1]) (rest := []) C hP hS hl.1 (M_about l D cy sz0 sa aM σ H.size k1 trivial) (lb_R wl_95 wl_96 wl_97 wl_98) ⟨rfl, by decide +kernel⟩ rfl rfl (lv_room (Nat.le_of_ble_eq_true rfl)) ⟨Nat.le_of_ble_eq_true rfl, Nat.le_of_ble_eq_true rfl⟩ ⟨Nat.le_trans (by omega) hR.1, Nat.le_trans (by omega) hR.2⟩ dL_law_622 (fun r5 u6 H locs hr5 hP hS => ?_)
  have hMI2 := MI.about hMI k1 r5 u6 hr5
  clear hMI; have hMI := hMI2; clear hMI2
  refine lv_pop hx hb dL_law_625 rfl ?_
  refine lv_goto (tgt := 629) hx hb dL_law_626 (by decide) ?_
  refine W.widen (k := cells + 1066) (n := slots + 9840) (by omega) (by omega) ?_
  exact kk _ _ _ H locs ls (lv_sub hl [0, 1, 2, 3, 4] rfl) hCI hMI (RE.of hRE rfl rfl rfl rfl rfl rfl) hP hS
