set_option maxHeartbeats 2000000 in
theorem law_c0 {p : Program} {e : Env} {s : State} {m : MethodId} {below : List Frame} {meth : Method} {c : Code} (l : Launch) (hfl : l.stackTraces = false) {b L : Nat} {xs : Nat → Int32} {D : va_G} {cy : Nat → ClassId} {sa : Nat → Nat} {sz0 : Nat} {aC aM : Nat → Nat} {q : Nat} (C : LC p s m #[Value.ref b] meth c code 7 ret D cy sz0 sa lw_big) (hX : va_X b L xs s s.heap) (hbl : b < s.heap.size) (hbA : ¬ Fr sz0 b) {Q : State → Prop} {i : Int32} (hi : 0 ≤ i.toInt ∧ i.toInt + 7 ≤ (L : Int) ∧ L ≤ 3584) {κ : KS} {σ : RS} {f : Nat → Int64} {H : Heap} {locs : List Loc} {ls : Array Slot} {cells slots : Nat} (hCI : CI sa aC κ) (hMI : MI σ) (hRE : RE κ σ) (hP : LW D cy aC aM q (Fr sz0) κ σ f H) (hS : va_S (Fr sz0) s.heap H locs) (hl : lv_has ls 7 [(4, .int i), (3, .ref q), (2, .ref (aM 0)), (1, .ref (aC 0)), (0, .ref b)]) (hR : cells + 1066 ≤ room_1.cells ∧ slots + 9840 ≤ room_1.slots)
    (kk : ∀ (κ : KS) (σ : RS) (f : Nat → Int64) (H : Heap) (locs : List Loc) (ls : Array Slot), lv_has ls 7 [(4, .int i), (3, .ref q), (2, .ref (aM 0)), (1, .ref (aC 0)), (0, .ref b)] → CI sa aC κ → MI σ → RE κ σ → LW D cy aC aM q (Fr sz0) κ σ f H → va_S (Fr sz0) s.heap H locs → W p l e room_1 s m #[Value.ref b] below meth c H locs (cells + 1066) (slots + 9840) Q (F0 m 636 ls [])) : W p l e room_1 s m #[Value.ref b] below meth c H locs cells slots Q (F0 m 108 ls []) := by
  have hx := C.x
  have hb := C.b
  refine lv_aload_n hx hb dL_law_108 rfl (lv_at hl 3 rfl) ?_
  refine lv_aload_n hx hb dL_law_109 rfl (lv_at hl 4 rfl) ?_
  refine lv_iload hx hb dL_law_110 (lv_at hl 0 rfl) ?_
  refine lv_iconst (v := 1) hx hb dL_law_112 (by decide +kernel) ?_
  refine lv_iadd hx hb dL_law_113 ?_
  refine va_sld hx hb hX hbl hbA hS (sin_ok hi (by decide +kernel)) dL_law_114 ?_
  refine lv_topi (fun k1 ek1 => ?_)
  refine lv_aload_n hx hb dL_law_115 rfl (lv_at hl 1 rfl) ?_
  refine lc_stat (n := 3) (As := [.ref (aC 0), .int k1, .ref q]) (rest := []) C hP hS hl.1 (NL_letter l hfl D cy aC aM q sz0 sa κ σ f H.size k1 hCI) (lb_S wl_0 wl_1 wl_2 wl_3) ⟨by decide, by decide, by decide +kernel⟩ rfl rfl (lv_room (Nat.le_of_ble_eq_true rfl)) ⟨Nat.le_of_ble_eq_true rfl, Nat.le_of_ble_eq_true rfl⟩ ⟨Nat.le_trans (Nat.add_le_add_left (Nat.le_of_ble_eq_true rfl) _) hR.1, Nat.le_trans (Nat.add_le_add_left (Nat.le_of_ble_eq_true rfl) _) hR.2⟩ dL_law_116 (fun r2 u3 H locs hr2 hP hS => ?_)
  obtain ⟨hCI, hr2⟩ := hr2
  have hRE : RE u3.1 σ := RE.of hRE hr2.1 hr2.2.1 hr2.2.2 rfl rfl rfl
  obtain ⟨κ, f⟩ := u3
  dsimp only at hRE hP
  refine lv_istore (lv' := [(5, .int r2), (4, .int i), (3, .ref q), (2, .ref (aM 0)), (1, .ref (aC 0)), (0, .ref b)]) hx hb dL_law_119 hl (by decide) rfl (fun ls hl => ?_)
  refine lv_aload_n hx hb dL_law_121 rfl (lv_at hl 3 rfl) ?_
  refine lv_aload_n hx hb dL_law_122 rfl (lv_at hl 5 rfl) ?_
  refine lv_iload hx hb dL_law_123 (lv_at hl 1 rfl) ?_
  refine lv_iconst (v := 1) hx hb dL_law_125 (by decide +kernel) ?_
  refine lv_iadd hx hb dL_law_126 ?_
  refine va_sld hx hb hX hbl hbA hS (sin_ok hi (by decide +kernel)) dL_law_127 ?_
  refine lv_topi (fun k4 ek4 => ?_)
  obtain rfl : k1 = k4 := ek1.trans ek4.symm
  refine lc_ref (n := 1) (As := [.int k1]) (rest := []) C hP hS hl.1 (M_letter l D cy sz0 sa aM σ H.size k1 ⟨hMI.1.1, hMI.1.2⟩) (lb_R wl_4 wl_5 wl_6 wl_7) ⟨rfl, by decide +kernel⟩ rfl rfl (lv_room (Nat.le_of_ble_eq_true rfl)) ⟨Nat.le_of_ble_eq_true rfl, Nat.le_of_ble_eq_true rfl⟩ ⟨Nat.le_trans (by omega) hR.1, Nat.le_trans (by omega) hR.2⟩ dL_law_128 (fun r5 u6 H locs hr5 hP hS => ?_)
  have hMI2 := MI.letter hMI k1 r5 u6 hr5
  clear hMI; have hMI := hMI2; clear hMI2
  refine lv_istore (lv' := [(6, .int r5), (5, .int r2), (4, .int i), (3, .ref q), (2, .ref (aM 0)), (1, .ref (aC 0)), (0, .ref b)]) hx hb dL_law_131 hl (by decide) rfl (fun ls hl => ?_)
  refine lv_goto (tgt := 636) hx hb dL_law_133 (by decide) ?_
  refine W.widen (k := cells + 1066) (n := slots + 9840) (by omega) (by omega) ?_
  exact kk _ _ _ H locs ls (lv_sub hl [2, 3, 4, 5, 6] rfl) hCI hMI (RE.of hRE rfl rfl rfl rfl rfl rfl) hP hS
set_option maxHeartbeats 2000000 in
theorem law_c1 {p : Program} {e : Env} {s : State} {m : MethodId} {below : List Frame} {meth : Method} {c : Code} (l : Launch) (hfl : l.stackTraces = false) {b L : Nat} {xs : Nat → Int32} {D : va_G} {cy : Nat → ClassId} {sa : Nat → Nat} {sz0 : Nat} {aC aM : Nat → Nat} {q : Nat} (C : LC p s m #[Value.ref b] meth c code 7 ret D cy sz0 sa lw_big) (hX : va_X b L xs s s.heap) (hbl : b < s.heap.size) (hbA : ¬ Fr sz0 b) {Q : State → Prop} {i : Int32} (hi : 0 ≤ i.toInt ∧ i.toInt + 7 ≤ (L : Int) ∧ L ≤ 3584) {κ : KS} {σ : RS} {f : Nat → Int64} {H : Heap} {locs : List Loc} {ls : Array Slot} {cells slots : Nat} (hCI : CI sa aC κ) (hMI : MI σ) (hRE : RE κ σ) (hP : LW D cy aC aM q (Fr sz0) κ σ f H) (hS : va_S (Fr sz0) s.heap H locs) (hl : lv_has ls 7 [(4, .int i), (3, .ref q), (2, .ref (aM 0)), (1, .ref (aC 0)), (0, .ref b)]) (hR : cells + 1066 ≤ room_1.cells ∧ slots + 9840 ≤ room_1.slots)
    (kk : ∀ (κ : KS) (σ : RS) (f : Nat → Int64) (H : Heap) (locs : List Loc) (ls : Array Slot), lv_has ls 7 [(4, .int i), (3, .ref q), (2, .ref (aM 0)), (1, .ref (aC 0)), (0, .ref b)] → CI sa aC κ → MI σ → RE κ σ → LW D cy aC aM q (Fr sz0) κ σ f H → va_S (Fr sz0) s.heap H locs → W p l e room_1 s m #[Value.ref b] below meth c H locs (cells + 1066) (slots + 9840) Q (F0 m 636 ls [])) : W p l e room_1 s m #[Value.ref b] below meth c H locs cells slots Q (F0 m 136 ls []) := by
  have hx := C.x
  have hb := C.b
  refine lv_aload_n hx hb dL_law_136 rfl (lv_at hl 3 rfl) ?_
  refine lv_aload_n hx hb dL_law_137 rfl (lv_at hl 1 rfl) ?_
  refine lc_stat (n := 2) (As := [.ref (aC 0), .ref q]) (rest := []) C hP hS hl.1 (NL_parse l hfl D cy aC aM q sz0 sa κ σ f H.size  hCI) (lb_S wl_8 wl_9 wl_2 wl_10) ⟨by decide, by decide, by decide +kernel⟩ rfl rfl (lv_room (Nat.le_of_ble_eq_true rfl)) ⟨Nat.le_of_ble_eq_true rfl, Nat.le_of_ble_eq_true rfl⟩ ⟨Nat.le_trans (Nat.add_le_add_left (Nat.le_of_ble_eq_true rfl) _) hR.1, Nat.le_trans (Nat.add_le_add_left (Nat.le_of_ble_eq_true rfl) _) hR.2⟩ dL_law_138 (fun r1 u2 H locs hr1 hP hS => ?_)
  obtain ⟨hCI, hr1⟩ := hr1
  have hRE : RE u2.1 σ := RE.of hRE hr1.1 hr1.2.1 hr1.2.2 rfl rfl rfl
  obtain ⟨κ, f⟩ := u2
  dsimp only at hRE hP
  refine lv_istore (lv' := [(5, .int r1), (4, .int i), (3, .ref q), (2, .ref (aM 0)), (1, .ref (aC 0)), (0, .ref b)]) hx hb dL_law_141 hl (by decide) rfl (fun ls hl => ?_)
  refine lv_aload_n hx hb dL_law_143 rfl (lv_at hl 3 rfl) ?_
  refine lc_ref (n := 0) (As := []) (rest := []) C hP hS hl.1 (M_parse l D cy sz0 sa aM σ H.size  ⟨hMI.1.1, hMI.1.2, hMI.2.1.1, hMI.2.1.2, hMI.2.2.1⟩) (lb_R wl_11 wl_12 wl_13 wl_14) ⟨rfl, by decide +kernel⟩ rfl rfl (lv_room (Nat.le_of_ble_eq_true rfl)) ⟨Nat.le_of_ble_eq_true rfl, Nat.le_of_ble_eq_true rfl⟩ ⟨Nat.le_trans (by omega) hR.1, Nat.le_trans (by omega) hR.2⟩ dL_law_144 (fun r3 u4 H locs hr3 hP hS => ?_)
  have hMI2 := MI.parse hMI  r3 u4 hr3
  clear hMI; have hMI := hMI2; clear hMI2
  refine lv_istore (lv' := [(6, .int r3), (5, .int r1), (4, .int i), (3, .ref q), (2, .ref (aM 0)), (1, .ref (aC 0)), (0, .ref b)]) hx hb dL_law_147 hl (by decide) rfl (fun ls hl => ?_)
  refine lv_goto (tgt := 636) hx hb dL_law_149 (by decide) ?_
  refine W.widen (k := cells + 1066) (n := slots + 9840) (by omega) (by omega) ?_
  exact kk _ _ _ H locs ls (lv_sub hl [2, 3, 4, 5, 6] rfl) hCI hMI (RE.of hRE rfl rfl rfl rfl rfl rfl) hP hS
set_option maxHeartbeats 2000000 in
theorem law_c2 {p : Program} {e : Env} {s : State} {m : MethodId} {below : List Frame} {meth : Method} {c : Code} (l : Launch) (hfl : l.stackTraces = false) {b L : Nat} {xs : Nat → Int32} {D : va_G} {cy : Nat → ClassId} {sa : Nat → Nat} {sz0 : Nat} {aC aM : Nat → Nat} {q : Nat} (C : LC p s m #[Value.ref b] meth c code 7 ret D cy sz0 sa lw_big) (hX : va_X b L xs s s.heap) (hbl : b < s.heap.size) (hbA : ¬ Fr sz0 b) {Q : State → Prop} {i : Int32} (hi : 0 ≤ i.toInt ∧ i.toInt + 7 ≤ (L : Int) ∧ L ≤ 3584) {κ : KS} {σ : RS} {f : Nat → Int64} {H : Heap} {locs : List Loc} {ls : Array Slot} {cells slots : Nat} (hCI : CI sa aC κ) (hMI : MI σ) (hRE : RE κ σ) (hP : LW D cy aC aM q (Fr sz0) κ σ f H) (hS : va_S (Fr sz0) s.heap H locs) (hl : lv_has ls 7 [(4, .int i), (3, .ref q), (2, .ref (aM 0)), (1, .ref (aC 0)), (0, .ref b)]) (hR : cells + 1066 ≤ room_1.cells ∧ slots + 9840 ≤ room_1.slots)
    (kk : ∀ (κ : KS) (σ : RS) (f : Nat → Int64) (H : Heap) (locs : List Loc) (ls : Array Slot), lv_has ls 7 [(4, .int i), (3, .ref q), (2, .ref (aM 0)), (1, .ref (aC 0)), (0, .ref b)] → CI sa aC κ → MI σ → RE κ σ → LW D cy aC aM q (Fr sz0) κ σ f H → va_S (Fr sz0) s.heap H locs → W p l e room_1 s m #[Value.ref b] below meth c H locs (cells + 1066) (slots + 9840) Q (F0 m 636 ls [])) : W p l e room_1 s m #[Value.ref b] below meth c H locs cells slots Q (F0 m 152 ls []) := by
  have hx := C.x
  have hb := C.b
  refine lv_aload_n hx hb dL_law_152 rfl (lv_at hl 3 rfl) ?_
  refine lv_aload_n hx hb dL_law_153 rfl (lv_at hl 4 rfl) ?_
  refine lv_iload hx hb dL_law_154 (lv_at hl 0 rfl) ?_
  refine lv_iconst (v := 1) hx hb dL_law_156 (by decide +kernel) ?_
  refine lv_iadd hx hb dL_law_157 ?_
  refine va_sld hx hb hX hbl hbA hS (sin_ok hi (by decide +kernel)) dL_law_158 ?_
  refine lv_topi (fun k1 ek1 => ?_)
  refine lv_aload_n hx hb dL_law_159 rfl (lv_at hl 1 rfl) ?_
  refine lc_stat (n := 3) (As := [.ref (aC 0), .int k1, .ref q]) (rest := []) C hP hS hl.1 (NL_type l hfl D cy aC aM q sz0 sa κ σ f H.size k1 hCI) (lb_S wl_15 wl_16 wl_2 wl_17) ⟨by decide, by decide, by decide +kernel⟩ rfl rfl (lv_room (Nat.le_of_ble_eq_true rfl)) ⟨Nat.le_of_ble_eq_true rfl, Nat.le_of_ble_eq_true rfl⟩ ⟨Nat.le_trans (Nat.add_le_add_left (Nat.le_of_ble_eq_true rfl) _) hR.1, Nat.le_trans (Nat.add_le_add_left (Nat.le_of_ble_eq_true rfl) _) hR.2⟩ dL_law_160 (fun r2 u3 H locs hr2 hP hS => ?_)
  obtain ⟨hCI, hr2⟩ := hr2
  obtain ⟨κ2, f⟩ := u3
  dsimp only at hP
  refine lv_istore (lv' := [(5, .int r2), (4, .int i), (3, .ref q), (2, .ref (aM 0)), (1, .ref (aC 0)), (0, .ref b)]) hx hb dL_law_163 hl (by decide) rfl (fun ls hl => ?_)
  refine lv_aload_n hx hb dL_law_165 rfl (lv_at hl 3 rfl) ?_
  refine lv_aload_n hx hb dL_law_166 rfl (lv_at hl 5 rfl) ?_
  refine lv_iload hx hb dL_law_167 (lv_at hl 1 rfl) ?_
  refine lv_iconst (v := 1) hx hb dL_law_169 (by decide +kernel) ?_
  refine lv_iadd hx hb dL_law_170 ?_
  refine va_sld hx hb hX hbl hbA hS (sin_ok hi (by decide +kernel)) dL_law_171 ?_
  refine lv_topi (fun k4 ek4 => ?_)
  obtain rfl : k1 = k4 := ek1.trans ek4.symm
  refine lc_ref (n := 1) (As := [.int k1]) (rest := []) C hP hS hl.1 (M_type l D cy sz0 sa aM σ H.size k1 hMI.2.2.2.1) (lb_R wl_18 wl_19 wl_20 wl_21) ⟨rfl, by decide +kernel⟩ rfl rfl (lv_room (Nat.le_of_ble_eq_true rfl)) ⟨Nat.le_of_ble_eq_true rfl, Nat.le_of_ble_eq_true rfl⟩ ⟨Nat.le_trans (by omega) hR.1, Nat.le_trans (by omega) hR.2⟩ dL_law_172 (fun r5 u6 H locs hr5 hP hS => ?_)
  have hMI2 := MI.type hMI k1 r5 u6 hr5
  clear hMI; have hMI := hMI2; clear hMI2
  obtain ⟨hc, q2, q3⟩ := hr2
  dsimp only at hc q2 q3
  obtain ⟨e1, e2, e3⟩ := hRE
  have key : u6.1 = r2 ∧ (r2 = 0 → f 0 = r5.toInt64) ∧ (κ2.1 1).toInt = u6.2.2.toInt := by
    rcases hc with ⟨a1, ⟨x, a2, a3⟩, a4, a5, a6⟩ | ⟨a1, a4, a5, a6⟩ | ⟨a1, a4, a5, a6⟩ <;> rcases hr5 with ⟨b1, b2, b3, b4⟩ | ⟨b1, b2, b3, b4, b5⟩ | ⟨b1, b2, b3, b4, b5, b6⟩
    · exfalso; omega
    · exfalso; omega
    · refine ⟨by rw [a1]; exact Int32.toInt_inj.mp b3, fun _ => ?_, by omega⟩
      rw [a2, show x = r5 from Int32.toInt_inj.mp (by omega)]
    · refine ⟨by rw [a1]; exact Int32.toInt_inj.mp b2, fun z => ?_, by rw [b4]; omega⟩
      rw [a1] at z; exact absurd z (by decide)
    · exfalso; omega
    · exfalso; omega
    · exfalso; omega
    · refine ⟨by rw [a1]; exact Int32.toInt_inj.mp b3, fun z => ?_, by rw [b5]; omega⟩
      rw [a1] at z; exact absurd z (by decide)
    · exfalso; omega
  have hthr := key.1
  have hout := key.2.1
  have hRE : RE κ2 (rS (rA (rS σ 0 u6.1) 36 u6.2.1) 35 u6.2.2) := ⟨key.2.2, (congrArg Int32.toInt q2).trans e2, fun j hj => (congrArg Int32.toInt (congrFun q3 j)).trans (e3 j hj)⟩
  refine lv_istore (lv' := [(6, .int r5), (5, .int r2), (4, .int i), (3, .ref q), (2, .ref (aM 0)), (1, .ref (aC 0)), (0, .ref b)]) hx hb dL_law_175 hl (by decide) rfl (fun ls hl => ?_)
  refine lv_goto (tgt := 636) hx hb dL_law_177 (by decide) ?_
  refine W.widen (k := cells + 1066) (n := slots + 9840) (by omega) (by omega) ?_
  exact kk _ _ _ H locs ls (lv_sub hl [2, 3, 4, 5, 6] rfl) hCI hMI (RE.of hRE rfl rfl rfl rfl rfl rfl) hP hS
set_option maxHeartbeats 2000000 in
theorem law_c3 {p : Program} {e : Env} {s : State} {m : MethodId} {below : List Frame} {meth : Method} {c : Code} (l : Launch) (hfl : l.stackTraces = false) {b L : Nat} {xs : Nat → Int32} {D : va_G} {cy : Nat → ClassId} {sa : Nat → Nat} {sz0 : Nat} {aC aM : Nat → Nat} {q : Nat} (C : LC p s m #[Value.ref b] meth c code 7 ret D cy sz0 sa lw_big) (hX : va_X b L xs s s.heap) (hbl : b < s.heap.size) (hbA : ¬ Fr sz0 b) {Q : State → Prop} {i : Int32} (hi : 0 ≤ i.toInt ∧ i.toInt + 7 ≤ (L : Int) ∧ L ≤ 3584) {κ : KS} {σ : RS} {f : Nat → Int64} {H : Heap} {locs : List Loc} {ls : Array Slot} {cells slots : Nat} (hCI : CI sa aC κ) (hMI : MI σ) (hRE : RE κ σ) (hP : LW D cy aC aM q (Fr sz0) κ σ f H) (hS : va_S (Fr sz0) s.heap H locs) (hl : lv_has ls 7 [(4, .int i), (3, .ref q), (2, .ref (aM 0)), (1, .ref (aC 0)), (0, .ref b)]) (hR : cells + 1066 ≤ room_1.cells ∧ slots + 9840 ≤ room_1.slots)
    (kk : ∀ (κ : KS) (σ : RS) (f : Nat → Int64) (H : Heap) (locs : List Loc) (ls : Array Slot), lv_has ls 7 [(4, .int i), (3, .ref q), (2, .ref (aM 0)), (1, .ref (aC 0)), (0, .ref b)] → CI sa aC κ → MI σ → RE κ σ → LW D cy aC aM q (Fr sz0) κ σ f H → va_S (Fr sz0) s.heap H locs → W p l e room_1 s m #[Value.ref b] below meth c H locs (cells + 1066) (slots + 9840) Q (F0 m 636 ls [])) : W p l e room_1 s m #[Value.ref b] below meth c H locs cells slots Q (F0 m 180 ls []) := by
  have hx := C.x
  have hb := C.b
  refine lv_aload_n hx hb dL_law_180 rfl (lv_at hl 3 rfl) ?_
  refine lv_aload_n hx hb dL_law_181 rfl (lv_at hl 4 rfl) ?_
  refine lv_iload hx hb dL_law_182 (lv_at hl 0 rfl) ?_
  refine lv_iconst (v := 1) hx hb dL_law_184 (by decide +kernel) ?_
  refine lv_iadd hx hb dL_law_185 ?_
  refine va_sld hx hb hX hbl hbA hS (sin_ok hi (by decide +kernel)) dL_law_186 ?_
  refine lv_topi (fun k1 ek1 => ?_)
  refine lv_aload_n hx hb dL_law_187 rfl (lv_at hl 4 rfl) ?_
  refine lv_iload hx hb dL_law_188 (lv_at hl 0 rfl) ?_
  refine lv_iconst (v := 2) hx hb dL_law_190 (by decide +kernel) ?_
  refine lv_iadd hx hb dL_law_191 ?_
  refine va_sld hx hb hX hbl hbA hS (sin_ok hi (by decide +kernel)) dL_law_192 ?_
  refine lv_topi (fun k2 ek2 => ?_)
  refine lv_aload_n hx hb dL_law_193 rfl (lv_at hl 4 rfl) ?_
  refine lv_iload hx hb dL_law_194 (lv_at hl 0 rfl) ?_
  refine lv_iconst (v := 3) hx hb dL_law_196 (by decide +kernel) ?_
  refine lv_iadd hx hb dL_law_197 ?_
  refine va_sld hx hb hX hbl hbA hS (sin_ok hi (by decide +kernel)) dL_law_198 ?_
  refine lv_topi (fun k3 ek3 => ?_)
  refine lv_aload_n hx hb dL_law_199 rfl (lv_at hl 1 rfl) ?_
  refine lc_stat (n := 5) (As := [.ref (aC 0), .int k1, .int k2, .int k3, .ref q]) (rest := []) C hP hS hl.1 (NL_field l hfl D cy aC aM q sz0 sa κ σ f H.size k1 k2 k3 hCI) (lb_S wl_22 wl_23 wl_2 wl_24) ⟨by decide, by decide, by decide +kernel⟩ rfl rfl (lv_room (Nat.le_of_ble_eq_true rfl)) ⟨Nat.le_of_ble_eq_true rfl, Nat.le_of_ble_eq_true rfl⟩ ⟨Nat.le_trans (Nat.add_le_add_left (Nat.le_of_ble_eq_true rfl) _) hR.1, Nat.le_trans (Nat.add_le_add_left (Nat.le_of_ble_eq_true rfl) _) hR.2⟩ dL_law_200 (fun r4 u5 H locs hr4 hP hS => ?_)
  obtain ⟨hCI, hr4⟩ := hr4
  have hRE : RE u5.1 σ := RE.of hRE hr4.1 hr4.2.1 hr4.2.2 rfl rfl rfl
  obtain ⟨κ, f⟩ := u5
  dsimp only at hRE hP
  refine lv_istore (lv' := [(5, .int r4), (4, .int i), (3, .ref q), (2, .ref (aM 0)), (1, .ref (aC 0)), (0, .ref b)]) hx hb dL_law_203 hl (by decide) rfl (fun ls hl => ?_)
  refine lv_aload_n hx hb dL_law_205 rfl (lv_at hl 3 rfl) ?_
  refine lv_aload_n hx hb dL_law_206 rfl (lv_at hl 5 rfl) ?_
  refine lv_iload hx hb dL_law_207 (lv_at hl 1 rfl) ?_
  refine lv_iconst (v := 1) hx hb dL_law_209 (by decide +kernel) ?_
  refine lv_iadd hx hb dL_law_210 ?_
  refine va_sld hx hb hX hbl hbA hS (sin_ok hi (by decide +kernel)) dL_law_211 ?_
  refine lv_topi (fun k6 ek6 => ?_)
  obtain rfl : k1 = k6 := ek1.trans ek6.symm
  refine lv_aload_n hx hb dL_law_212 rfl (lv_at hl 5 rfl) ?_
  refine lv_iload hx hb dL_law_213 (lv_at hl 1 rfl) ?_
  refine lv_iconst (v := 2) hx hb dL_law_215 (by decide +kernel) ?_
  refine lv_iadd hx hb dL_law_216 ?_
  refine va_sld hx hb hX hbl hbA hS (sin_ok hi (by decide +kernel)) dL_law_217 ?_
  refine lv_topi (fun k7 ek7 => ?_)
  obtain rfl : k2 = k7 := ek2.trans ek7.symm
  refine lv_aload_n hx hb dL_law_218 rfl (lv_at hl 5 rfl) ?_
  refine lv_iload hx hb dL_law_219 (lv_at hl 1 rfl) ?_
  refine lv_iconst (v := 3) hx hb dL_law_221 (by decide +kernel) ?_
  refine lv_iadd hx hb dL_law_222 ?_
  refine va_sld hx hb hX hbl hbA hS (sin_ok hi (by decide +kernel)) dL_law_223 ?_
  refine lv_topi (fun k8 ek8 => ?_)
  obtain rfl : k3 = k8 := ek3.trans ek8.symm
  refine lc_ref (n := 3) (As := [.int k1, .int k2, .int k3]) (rest := []) C hP hS hl.1 (M_field l D cy sz0 sa aM σ H.size k1 k2 k3 ⟨hMI.2.2.2.1.1, hMI.2.2.2.1.2, hMI.2.2.2.2.1⟩) (lb_R wl_25 wl_26 wl_27 wl_28) ⟨rfl, by decide +kernel⟩ rfl rfl (lv_room (Nat.le_of_ble_eq_true rfl)) ⟨Nat.le_of_ble_eq_true rfl, Nat.le_of_ble_eq_true rfl⟩ ⟨Nat.le_trans (by omega) hR.1, Nat.le_trans (by omega) hR.2⟩ dL_law_224 (fun r9 u10 H locs hr9 hP hS => ?_)
  have hMI2 := MI.field hMI k1 k2 k3 r9 u10 hr9
  clear hMI; have hMI := hMI2; clear hMI2
  refine lv_istore (lv' := [(6, .int r9), (5, .int r4), (4, .int i), (3, .ref q), (2, .ref (aM 0)), (1, .ref (aC 0)), (0, .ref b)]) hx hb dL_law_227 hl (by decide) rfl (fun ls hl => ?_)
  refine lv_goto (tgt := 636) hx hb dL_law_229 (by decide) ?_
  refine W.widen (k := cells + 1066) (n := slots + 9840) (by omega) (by omega) ?_
  exact kk _ _ _ H locs ls (lv_sub hl [2, 3, 4, 5, 6] rfl) hCI hMI (RE.of hRE rfl rfl rfl rfl rfl rfl) hP hS
set_option maxHeartbeats 2000000 in
theorem law_c4 {p : Program} {e : Env} {s : State} {m : MethodId} {below : List Frame} {meth : Method} {c : Code} (l : Launch) (hfl : l.stackTraces = false) {b L : Nat} {xs : Nat → Int32} {D : va_G} {cy : Nat → ClassId} {sa : Nat → Nat} {sz0 : Nat} {aC aM : Nat → Nat} {q : Nat} (C : LC p s m #[Value.ref b] meth c code 7 ret D cy sz0 sa lw_big) (hX : va_X b L xs s s.heap) (hbl : b < s.heap.size) (hbA : ¬ Fr sz0 b) {Q : State → Prop} {i : Int32} (hi : 0 ≤ i.toInt ∧ i.toInt + 7 ≤ (L : Int) ∧ L ≤ 3584) {κ : KS} {σ : RS} {f : Nat → Int64} {H : Heap} {locs : List Loc} {ls : Array Slot} {cells slots : Nat} (hCI : CI sa aC κ) (hMI : MI σ) (hRE : RE κ σ) (hP : LW D cy aC aM q (Fr sz0) κ σ f H) (hS : va_S (Fr sz0) s.heap H locs) (hl : lv_has ls 7 [(4, .int i), (3, .ref q), (2, .ref (aM 0)), (1, .ref (aC 0)), (0, .ref b)]) (hR : cells + 1066 ≤ room_1.cells ∧ slots + 9840 ≤ room_1.slots)
    (kk : ∀ (κ : KS) (σ : RS) (f : Nat → Int64) (H : Heap) (locs : List Loc) (ls : Array Slot), lv_has ls 7 [(4, .int i), (3, .ref q), (2, .ref (aM 0)), (1, .ref (aC 0)), (0, .ref b)] → CI sa aC κ → MI σ → RE κ σ → LW D cy aC aM q (Fr sz0) κ σ f H → va_S (Fr sz0) s.heap H locs → W p l e room_1 s m #[Value.ref b] below meth c H locs (cells + 1066) (slots + 9840) Q (F0 m 636 ls [])) : W p l e room_1 s m #[Value.ref b] below meth c H locs cells slots Q (F0 m 232 ls []) := by
  have hx := C.x
  have hb := C.b
  refine lv_aload_n hx hb dL_law_232 rfl (lv_at hl 3 rfl) ?_
  refine lv_aload_n hx hb dL_law_233 rfl (lv_at hl 4 rfl) ?_
  refine lv_iload hx hb dL_law_234 (lv_at hl 0 rfl) ?_
  refine lv_iconst (v := 1) hx hb dL_law_236 (by decide +kernel) ?_
  refine lv_iadd hx hb dL_law_237 ?_
  refine va_sld hx hb hX hbl hbA hS (sin_ok hi (by decide +kernel)) dL_law_238 ?_
  refine lv_topi (fun k1 ek1 => ?_)
  refine lv_aload_n hx hb dL_law_239 rfl (lv_at hl 4 rfl) ?_
  refine lv_iload hx hb dL_law_240 (lv_at hl 0 rfl) ?_
  refine lv_iconst (v := 2) hx hb dL_law_242 (by decide +kernel) ?_
  refine lv_iadd hx hb dL_law_243 ?_
  refine va_sld hx hb hX hbl hbA hS (sin_ok hi (by decide +kernel)) dL_law_244 ?_
  refine lv_topi (fun k2 ek2 => ?_)
  refine lv_aload_n hx hb dL_law_245 rfl (lv_at hl 4 rfl) ?_
  refine lv_iload hx hb dL_law_246 (lv_at hl 0 rfl) ?_
  refine lv_iconst (v := 3) hx hb dL_law_248 (by decide +kernel) ?_
  refine lv_iadd hx hb dL_law_249 ?_
  refine va_sld hx hb hX hbl hbA hS (sin_ok hi (by decide +kernel)) dL_law_250 ?_
  refine lv_topi (fun k3 ek3 => ?_)
  refine lv_aload_n hx hb dL_law_251 rfl (lv_at hl 4 rfl) ?_
  refine lv_iload hx hb dL_law_252 (lv_at hl 0 rfl) ?_
  refine lv_iconst (v := 4) hx hb dL_law_254 (by decide +kernel) ?_
  refine lv_iadd hx hb dL_law_255 ?_
  refine va_sld hx hb hX hbl hbA hS (sin_ok hi (by decide +kernel)) dL_law_256 ?_
  refine lv_topi (fun k4 ek4 => ?_)
  refine lv_aload_n hx hb dL_law_257 rfl (lv_at hl 4 rfl) ?_
  refine lv_iload hx hb dL_law_258 (lv_at hl 0 rfl) ?_
  refine lv_iconst (v := 5) hx hb dL_law_260 (by decide +kernel) ?_
  refine lv_iadd hx hb dL_law_261 ?_
  refine va_sld hx hb hX hbl hbA hS (sin_ok hi (by decide +kernel)) dL_law_262 ?_
  refine lv_topi (fun k5 ek5 => ?_)
  refine lv_aload_n hx hb dL_law_263 rfl (lv_at hl 4 rfl) ?_
  refine lv_iload hx hb dL_law_264 (lv_at hl 0 rfl) ?_
  refine lv_bipush (v := 6) hx hb dL_law_266 (by decide +kernel) ?_
  refine lv_iadd hx hb dL_law_268 ?_
  refine va_sld hx hb hX hbl hbA hS (sin_ok hi (by decide +kernel)) dL_law_269 ?_
  refine lv_topi (fun k6 ek6 => ?_)
  refine lv_aload_n hx hb dL_law_270 rfl (lv_at hl 1 rfl) ?_
  refine lc_stat (n := 8) (As := [.ref (aC 0), .int k1, .int k2, .int k3, .int k4, .int k5, .int k6, .ref q]) (rest := []) C hP hS hl.1 (NL_method l hfl D cy aC aM q sz0 sa κ σ f H.size k1 k2 k3 k4 k5 k6 hCI) (lb_S wl_29 wl_30 wl_2 wl_31) ⟨by decide, by decide, by decide +kernel⟩ rfl rfl (lv_room (Nat.le_of_ble_eq_true rfl)) ⟨Nat.le_of_ble_eq_true rfl, Nat.le_of_ble_eq_true rfl⟩ ⟨Nat.le_trans (Nat.add_le_add_left (Nat.le_of_ble_eq_true rfl) _) hR.1, Nat.le_trans (Nat.add_le_add_left (Nat.le_of_ble_eq_true rfl) _) hR.2⟩ dL_law_271 (fun r7 u8 H locs hr7 hP hS => ?_)
  obtain ⟨hCI, hr7⟩ := hr7
  have hRE : RE u8.1 σ := RE.of hRE hr7.1 hr7.2.1 hr7.2.2 rfl rfl rfl
  obtain ⟨κ, f⟩ := u8
  dsimp only at hRE hP
  refine lv_istore (lv' := [(5, .int r7), (4, .int i), (3, .ref q), (2, .ref (aM 0)), (1, .ref (aC 0)), (0, .ref b)]) hx hb dL_law_274 hl (by decide) rfl (fun ls hl => ?_)
  refine lv_aload_n hx hb dL_law_276 rfl (lv_at hl 3 rfl) ?_
  refine lv_aload_n hx hb dL_law_277 rfl (lv_at hl 5 rfl) ?_
  refine lv_iload hx hb dL_law_278 (lv_at hl 1 rfl) ?_
  refine lv_iconst (v := 1) hx hb dL_law_280 (by decide +kernel) ?_
  refine lv_iadd hx hb dL_law_281 ?_
  refine va_sld hx hb hX hbl hbA hS (sin_ok hi (by decide +kernel)) dL_law_282 ?_
  refine lv_topi (fun k9 ek9 => ?_)
  obtain rfl : k1 = k9 := ek1.trans ek9.symm
  refine lv_aload_n hx hb dL_law_283 rfl (lv_at hl 5 rfl) ?_
  refine lv_iload hx hb dL_law_284 (lv_at hl 1 rfl) ?_
  refine lv_iconst (v := 2) hx hb dL_law_286 (by decide +kernel) ?_
  refine lv_iadd hx hb dL_law_287 ?_
  refine va_sld hx hb hX hbl hbA hS (sin_ok hi (by decide +kernel)) dL_law_288 ?_
  refine lv_topi (fun k10 ek10 => ?_)
  obtain rfl : k2 = k10 := ek2.trans ek10.symm
  refine lv_aload_n hx hb dL_law_289 rfl (lv_at hl 5 rfl) ?_
  refine lv_iload hx hb dL_law_290 (lv_at hl 1 rfl) ?_
  refine lv_iconst (v := 3) hx hb dL_law_292 (by decide +kernel) ?_
  refine lv_iadd hx hb dL_law_293 ?_
  refine va_sld hx hb hX hbl hbA hS (sin_ok hi (by decide +kernel)) dL_law_294 ?_
  refine lv_topi (fun k11 ek11 => ?_)
  obtain rfl : k3 = k11 := ek3.trans ek11.symm
  refine lv_aload_n hx hb dL_law_295 rfl (lv_at hl 5 rfl) ?_
  refine lv_iload hx hb dL_law_296 (lv_at hl 1 rfl) ?_
  refine lv_iconst (v := 4) hx hb dL_law_298 (by decide +kernel) ?_
  refine lv_iadd hx hb dL_law_299 ?_
  refine va_sld hx hb hX hbl hbA hS (sin_ok hi (by decide +kernel)) dL_law_300 ?_
  refine lv_topi (fun k12 ek12 => ?_)
  obtain rfl : k4 = k12 := ek4.trans ek12.symm
  refine lv_aload_n hx hb dL_law_301 rfl (lv_at hl 5 rfl) ?_
  refine lv_iload hx hb dL_law_302 (lv_at hl 1 rfl) ?_
  refine lv_iconst (v := 5) hx hb dL_law_304 (by decide +kernel) ?_
  refine lv_iadd hx hb dL_law_305 ?_
  refine va_sld hx hb hX hbl hbA hS (sin_ok hi (by decide +kernel)) dL_law_306 ?_
  refine lv_topi (fun k13 ek13 => ?_)
  obtain rfl : k5 = k13 := ek5.trans ek13.symm
  refine lv_aload_n hx hb dL_law_307 rfl (lv_at hl 5 rfl) ?_
  refine lv_iload hx hb dL_law_308 (lv_at hl 1 rfl) ?_
  refine lv_bipush (v := 6) hx hb dL_law_310 (by decide +kernel) ?_
  refine lv_iadd hx hb dL_law_312 ?_
  refine va_sld hx hb hX hbl hbA hS (sin_ok hi (by decide +kernel)) dL_law_313 ?_
  refine lv_topi (fun k14 ek14 => ?_)
  obtain rfl : k6 = k14 := ek6.trans ek14.symm
  refine lc_ref (n := 6) (As := [.int k1, .int k2, .int k3, .int k4, .int k5, .int k6]) (rest := []) C hP hS hl.1 (M_method l D cy sz0 sa aM σ H.size k1 k2 k3 k4 k5 k6 ⟨hMI.2.2.2.1.1, hMI.2.2.2.1.2, hMI.2.2.2.2.1⟩) (lb_R wl_32 wl_33 wl_34 wl_35) ⟨rfl, by decide +kernel⟩ rfl rfl (lv_room (Nat.le_of_ble_eq_true rfl)) ⟨Nat.le_of_ble_eq_true rfl, Nat.le_of_ble_eq_true rfl⟩ ⟨Nat.le_trans (by omega) hR.1, Nat.le_trans (by omega) hR.2⟩ dL_law_314 (fun r15 u16 H locs hr15 hP hS => ?_)
  have hMI2 := MI.method hMI k1 k2 k3 k4 k5 k6 r15 u16 hr15
  clear hMI; have hMI := hMI2; clear hMI2
  refine lv_istore (lv' := [(6, .int r15), (5, .int r7), (4, .int i), (3, .ref q), (2, .ref (aM 0)), (1, .ref (aC 0)), (0, .ref b)]) hx hb dL_law_317 hl (by decide) rfl (fun ls hl => ?_)
  refine lv_goto (tgt := 636) hx hb dL_law_319 (by decide) ?_
  refine W.widen (k := cells + 1066) (n := slots + 9840) (by omega) (by omega) ?_
  exact kk _ _ _ H locs ls (lv_sub hl [2, 3, 4, 5, 6] rfl) hCI hMI (RE.of hRE rfl rfl rfl rfl rfl rfl) hP hS
set_option maxHeartbeats 2000000 in
theorem law_c5 {p : Program} {e : Env} {s : State} {m : MethodId} {below : List Frame} {meth : Method} {c : Code} (l : Launch) (hfl : l.stackTraces = false) {b L : Nat} {xs : Nat → Int32} {D : va_G} {cy : Nat → ClassId} {sa : Nat → Nat} {sz0 : Nat} {aC aM : Nat → Nat} {q : Nat} (C : LC p s m #[Value.ref b] meth c code 7 ret D cy sz0 sa lw_big) (hX : va_X b L xs s s.heap) (hbl : b < s.heap.size) (hbA : ¬ Fr sz0 b) {Q : State → Prop} {i : Int32} (hi : 0 ≤ i.toInt ∧ i.toInt + 7 ≤ (L : Int) ∧ L ≤ 3584) {κ : KS} {σ : RS} {f : Nat → Int64} {H : Heap} {locs : List Loc} {ls : Array Slot} {cells slots : Nat} (hCI : CI sa aC κ) (hMI : MI σ) (hRE : RE κ σ) (hP : LW D cy aC aM q (Fr sz0) κ σ f H) (hS : va_S (Fr sz0) s.heap H locs) (hl : lv_has ls 7 [(4, .int i), (3, .ref q), (2, .ref (aM 0)), (1, .ref (aC 0)), (0, .ref b)]) (hR : cells + 1066 ≤ room_1.cells ∧ slots + 9840 ≤ room_1.slots)
    (kk : ∀ (κ : KS) (σ : RS) (f : Nat → Int64) (H : Heap) (locs : List Loc) (ls : Array Slot), lv_has ls 7 [(4, .int i), (3, .ref q), (2, .ref (aM 0)), (1, .ref (aC 0)), (0, .ref b)] → CI sa aC κ → MI σ → RE κ σ → LW D cy aC aM q (Fr sz0) κ σ f H → va_S (Fr sz0) s.heap H locs → W p l e room_1 s m #[Value.ref b] below meth c H locs (cells + 1066) (slots + 9840) Q (F0 m 636 ls [])) : W p l e room_1 s m #[Value.ref b] below meth c H locs cells slots Q (F0 m 322 ls []) := by
  have hx := C.x
  have hb := C.b
  refine lv_aload_n hx hb dL_law_322 rfl (lv_at hl 3 rfl) ?_
  refine lv_aload_n hx hb dL_law_323 rfl (lv_at hl 4 rfl) ?_
  refine lv_iload hx hb dL_law_324 (lv_at hl 0 rfl) ?_
  refine lv_iconst (v := 1) hx hb dL_law_326 (by decide +kernel) ?_
  refine lv_iadd hx hb dL_law_327 ?_
  refine va_sld hx hb hX hbl hbA hS (sin_ok hi (by decide +kernel)) dL_law_328 ?_
  refine lv_topi (fun k1 ek1 => ?_)
  refine lv_aload_n hx hb dL_law_329 rfl (lv_at hl 1 rfl) ?_
  refine lc_stat (n := 3) (As := [.ref (aC 0), .int k1, .ref q]) (rest := []) C hP hS hl.1 (NL_make l hfl D cy aC aM q sz0 sa κ σ f H.size k1 hCI) (lb_S wl_36 wl_37 wl_2 wl_38) ⟨by decide, by decide, by decide +kernel⟩ rfl rfl (lv_room (Nat.le_of_ble_eq_true rfl)) ⟨Nat.le_of_ble_eq_true rfl, Nat.le_of_ble_eq_true rfl⟩ ⟨Nat.le_trans (Nat.add_le_add_left (Nat.le_of_ble_eq_true rfl) _) hR.1, Nat.le_trans (Nat.add_le_add_left (Nat.le_of_ble_eq_true rfl) _) hR.2⟩ dL_law_330 (fun r2 u3 H locs hr2 hP hS => ?_)
  obtain ⟨hCI, hr2⟩ := hr2
  obtain ⟨κ2, f⟩ := u3
  dsimp only at hP
  refine lv_istore (lv' := [(5, .int r2), (4, .int i), (3, .ref q), (2, .ref (aM 0)), (1, .ref (aC 0)), (0, .ref b)]) hx hb dL_law_333 hl (by decide) rfl (fun ls hl => ?_)
  refine lv_aload_n hx hb dL_law_335 rfl (lv_at hl 3 rfl) ?_
  refine lv_aload_n hx hb dL_law_336 rfl (lv_at hl 5 rfl) ?_
  refine lv_iload hx hb dL_law_337 (lv_at hl 1 rfl) ?_
  refine lv_iconst (v := 1) hx hb dL_law_339 (by decide +kernel) ?_
  refine lv_iadd hx hb dL_law_340 ?_
  refine va_sld hx hb hX hbl hbA hS (sin_ok hi (by decide +kernel)) dL_law_341 ?_
  refine lv_topi (fun k4 ek4 => ?_)
  obtain rfl : k1 = k4 := ek1.trans ek4.symm
  refine lc_ref (n := 1) (As := [.int k1]) (rest := []) C hP hS hl.1 (M_make l D cy sz0 sa aM σ H.size k1 ⟨hMI.2.2.2.1.1, hMI.2.2.2.1.2, hMI.2.2.2.2.2.2.1.1, hMI.2.2.2.2.2.2.1.2⟩) (lb_R wl_39 wl_40 wl_41 wl_42) ⟨rfl, by decide +kernel⟩ rfl rfl (lv_room (Nat.le_of_ble_eq_true rfl)) ⟨Nat.le_of_ble_eq_true rfl, Nat.le_of_ble_eq_true rfl⟩ ⟨Nat.le_trans (by omega) hR.1, Nat.le_trans (by omega) hR.2⟩ dL_law_342 (fun r5 u6 H locs hr5 hP hS => ?_)
  have hMI2 := MI.make hMI k1 r5 u6 hr5
  clear hMI; have hMI := hMI2; clear hMI2
  obtain ⟨hc, q2, q3⟩ := hr2
  dsimp only at hc q2 q3
  obtain ⟨e1, e2, e3⟩ := hRE
  have key : u6.1 = r2 ∧ (r2 = 0 → f 0 = r5.toInt64) ∧ (κ2.1 2).toInt = u6.2.2.toInt := by
    rcases hc with ⟨a1, ⟨x, a2, a3⟩, a4, a5, a6⟩ | ⟨a1, a4, a5⟩ | ⟨a1, a4, a5, a6⟩ <;> rcases hr5 with ⟨b1, b2, b3, b4⟩ | ⟨b0, b1, b2, b3, b4, b5⟩ | ⟨b0, b1, b2, b3, b4, b5, b6⟩
    · exfalso; omega
    · exfalso; omega
    · refine ⟨by rw [a1]; exact Int32.toInt_inj.mp b3, fun _ => ?_, by omega⟩
      rw [a2, show x = r5 from Int32.toInt_inj.mp (by omega)]
    · refine ⟨by rw [a1]; exact Int32.toInt_inj.mp b2, fun z => ?_, by rw [b4]; omega⟩
      rw [a1] at z; exact absurd z (by decide)
    · exfalso; omega
    · exfalso; omega
    · exfalso; omega
    · refine ⟨by rw [a1]; exact Int32.toInt_inj.mp b3, fun z => ?_, by rw [b5]; omega⟩
      rw [a1] at z; exact absurd z (by decide)
    · exfalso; omega
  have hthr := key.1
  have hout := key.2.1
  have hRE : RE κ2 (rS (rA (rS σ 0 u6.1) 48 u6.2.1) 47 u6.2.2) := ⟨(congrArg Int32.toInt q2).trans e1, key.2.2, fun j hj => (congrArg Int32.toInt (congrFun q3 j)).trans (e3 j hj)⟩
  refine lv_istore (lv' := [(6, .int r5), (5, .int r2), (4, .int i), (3, .ref q), (2, .ref (aM 0)), (1, .ref (aC 0)), (0, .ref b)]) hx hb dL_law_345 hl (by decide) rfl (fun ls hl => ?_)
  refine lv_goto (tgt := 636) hx hb dL_law_347 (by decide) ?_
  refine W.widen (k := cells + 1066) (n := slots + 9840) (by omega) (by omega) ?_
  exact kk _ _ _ H locs ls (lv_sub hl [2, 3, 4, 5, 6] rfl) hCI hMI (RE.of hRE rfl rfl rfl rfl rfl rfl) hP hS
set_option maxHeartbeats 2000000 in
theorem law_c6 {p : Program} {e : Env} {s : State} {m : MethodId} {below : List Frame} {meth : Method} {c : Code} (l : Launch) (hfl : l.stackTraces = false) {b L : Nat} {xs : Nat → Int32} {D : va_G} {cy : Nat → ClassId} {sa : Nat → Nat} {sz0 : Nat} {aC aM : Nat → Nat} {q : Nat} (C : LC p s m #[Value.ref b] meth c code 7 ret D cy sz0 sa lw_big) (hX : va_X b L xs s s.heap) (hbl : b < s.heap.size) (hbA : ¬ Fr sz0 b) {Q : State → Prop} {i : Int32} (hi : 0 ≤ i.toInt ∧ i.toInt + 7 ≤ (L : Int) ∧ L ≤ 3584) {κ : KS} {σ : RS} {f : Nat → Int64} {H : Heap} {locs : List Loc} {ls : Array Slot} {cells slots : Nat} (hCI : CI sa aC κ) (hMI : MI σ) (hRE : RE κ σ) (hP : LW D cy aC aM q (Fr sz0) κ σ f H) (hS : va_S (Fr sz0) s.heap H locs) (hl : lv_has ls 7 [(4, .int i), (3, .ref q), (2, .ref (aM 0)), (1, .ref (aC 0)), (0, .ref b)]) (hR : cells + 1066 ≤ room_1.cells ∧ slots + 9840 ≤ room_1.slots)
    (kk : ∀ (κ : KS) (σ : RS) (f : Nat → Int64) (H : Heap) (locs : List Loc) (ls : Array Slot), lv_has ls 7 [(4, .int i), (3, .ref q), (2, .ref (aM 0)), (1, .ref (aC 0)), (0, .ref b)] → CI sa aC κ → MI σ → RE κ σ → LW D cy aC aM q (Fr sz0) κ σ f H → va_S (Fr sz0) s.heap H locs → W p l e room_1 s m #[Value.ref b] below meth c H locs (cells + 1066) (slots + 9840) Q (F0 m 636 ls [])) : W p l e room_1 s m #[Value.ref b] below meth c H locs cells slots Q (F0 m 350 ls []) := by
  have hx := C.x
  have hb := C.b
  refine lv_aload_n hx hb dL_law_350 rfl (lv_at hl 3 rfl) ?_
  refine lv_aload_n hx hb dL_law_351 rfl (lv_at hl 4 rfl) ?_
  refine lv_iload hx hb dL_law_352 (lv_at hl 0 rfl) ?_
  refine lv_iconst (v := 1) hx hb dL_law_354 (by decide +kernel) ?_
  refine lv_iadd hx hb dL_law_355 ?_
  refine va_sld hx hb hX hbl hbA hS (sin_ok hi (by decide +kernel)) dL_law_356 ?_
  refine lv_topi (fun k1 ek1 => ?_)
  refine lv_aload_n hx hb dL_law_357 rfl (lv_at hl 4 rfl) ?_
  refine lv_iload hx hb dL_law_358 (lv_at hl 0 rfl) ?_
  refine lv_iconst (v := 2) hx hb dL_law_360 (by decide +kernel) ?_
  refine lv_iadd hx hb dL_law_361 ?_
  refine va_sld hx hb hX hbl hbA hS (sin_ok hi (by decide +kernel)) dL_law_362 ?_
  refine lv_topi (fun k2 ek2 => ?_)
  refine lv_aload_n hx hb dL_law_363 rfl (lv_at hl 4 rfl) ?_
  refine lv_iload hx hb dL_law_364 (lv_at hl 0 rfl) ?_
  refine lv_iconst (v := 3) hx hb dL_law_366 (by decide +kernel) ?_
  refine lv_iadd hx hb dL_law_367 ?_
  refine va_sld hx hb hX hbl hbA hS (sin_ok hi (by decide +kernel)) dL_law_368 ?_
  refine lv_topi (fun k3 ek3 => ?_)
  refine lv_if_eq (tgt := 376) hx hb dL_law_369 (by decide) (fun c4 => ?_) (fun c4 => ?_)
  · refine lv_iconst (v := 0) hx hb dL_law_376 (by decide +kernel) ?_
    refine lv_aload_n hx hb dL_law_377 rfl (lv_at hl 1 rfl) ?_
    refine lc_stat (n := 5) (As := [.ref (aC 0), .int k1, .int k2, .int 0, .ref q]) (rest := []) C hP hS hl.1 (NL_converter l hfl D cy aC aM q sz0 sa κ σ f H.size k1 k2 0 hCI ⟨by decide, by decide⟩) (lb_S wl_43 wl_44 wl_2 wl_45) ⟨by decide, by decide, by decide +kernel⟩ rfl rfl (lv_room (Nat.le_of_ble_eq_true rfl)) ⟨Nat.le_of_ble_eq_true rfl, Nat.le_of_ble_eq_true rfl⟩ ⟨Nat.le_trans (Nat.add_le_add_left (Nat.le_of_ble_eq_true rfl) _) hR.1, Nat.le_trans (Nat.add_le_add_left (Nat.le_of_ble_eq_true rfl) _) hR.2⟩ dL_law_378 (fun r5 u6 H locs hr5 hP hS => ?_)
    obtain ⟨hCI, hr5⟩ := hr5
    obtain ⟨κ2, f⟩ := u6
    dsimp only at hP
    refine lv_istore (lv' := [(5, .int r5), (4, .int i), (3, .ref q), (2, .ref (aM 0)), (1, .ref (aC 0)), (0, .ref b)]) hx hb dL_law_381 hl (by decide) rfl (fun ls hl => ?_)
    refine lv_aload_n hx hb dL_law_383 rfl (lv_at hl 3 rfl) ?_
    refine lv_aload_n hx hb dL_law_384 rfl (lv_at hl 5 rfl) ?_
    refine lv_iload hx hb dL_law_385 (lv_at hl 1 rfl) ?_
    refine lv_iconst (v := 1) hx hb dL_law_387 (by decide +kernel) ?_
    refine lv_iadd hx hb dL_law_388 ?_
    refine va_sld hx hb hX hbl hbA hS (sin_ok hi (by decide +kernel)) dL_law_389 ?_
    refine lv_topi (fun k7 ek7 => ?_)
    obtain rfl : k1 = k7 := ek1.trans ek7.symm
    refine lv_aload_n hx hb dL_law_390 rfl (lv_at hl 5 rfl) ?_
    refine lv_iload hx hb dL_law_391 (lv_at hl 1 rfl) ?_
    refine lv_iconst (v := 2) hx hb dL_law_393 (by decide +kernel) ?_
    refine lv_iadd hx hb dL_law_394 ?_
    refine va_sld hx hb hX hbl hbA hS (sin_ok hi (by decide +kernel)) dL_law_395 ?_
    refine lv_topi (fun k8 ek8 => ?_)
    obtain rfl : k2 = k8 := ek2.trans ek8.symm
    refine lv_aload_n hx hb dL_law_396 rfl (lv_at hl 5 rfl) ?_
    refine lv_iload hx hb dL_law_397 (lv_at hl 1 rfl) ?_
    refine lv_iconst (v := 3) hx hb dL_law_399 (by decide +kernel) ?_
    refine lv_iadd hx hb dL_law_400 ?_
    refine va_sld hx hb hX hbl hbA hS (sin_ok hi (by decide +kernel)) dL_law_401 ?_
    refine lv_topi (fun k9 ek9 => ?_)
    obtain rfl : k3 = k9 := ek3.trans ek9.symm
    refine lv_if_eq (tgt := 409) hx hb dL_law_402 (by decide) (fun _ => ?_) (fun c9 => absurd c4 c9)
    refine lv_iconst (v := 0) hx hb dL_law_409 (by decide +kernel) ?_
    refine lc_ref (n := 3) (As := [.int k1, .int k2, .int 0]) (rest := []) C hP hS hl.1 (M_converter l D cy sz0 sa aM σ H.size k1 k2 0 ⟨hMI.2.2.2.2.2.2.2.1, Or.inl (by decide)⟩) (lb_R wl_46 wl_47 wl_48 wl_49) ⟨rfl, by decide +kernel⟩ rfl rfl (lv_room (Nat.le_of_ble_eq_true rfl)) ⟨Nat.le_of_ble_eq_true rfl, Nat.le_of_ble_eq_true rfl⟩ ⟨Nat.le_trans (by omega) hR.1, Nat.le_trans (by omega) hR.2⟩ dL_law_410 (fun r11 u12 H locs hr11 hP hS => ?_)
    have hMI2 := MI.converter hMI k1 k2 0 r11 u12 (Or.inl (by decide)) hr11
    clear hMI; have hMI := hMI2; clear hMI2
    obtain ⟨hc, q1, q2⟩ := hr5
    dsimp only at hc q1 q2
    obtain ⟨e1, e2, e3⟩ := hRE
    have key : u12.1 = r5 ∧ (r5 = 0 → (r11 = 0 → f 0 = 0) ∧ (¬ r11 = 0 → f 0 = 1)) ∧ ∀ j : Nat, j < 65 → (κ2.2.2.1 14 j).toInt = (u12.2 j).toInt := by
      rcases hc with ⟨a1, a2, a3, a4⟩ | ⟨a1, a2, a3⟩ <;> rcases hr11 with ⟨b1, b2, b3, b4⟩ | ⟨b1, b2, b3, b4⟩
      · exact absurd a2 b1
      · have hix : (κ.2.2.1 14 (5 * k1.toInt + k2.toInt).toNat).toInt = (σ.2.1 46 (5 * k1.toInt + k2.toInt).toNat).toInt := e3 _ (by omega)
        refine ⟨by rw [a1]; exact Int32.toInt_inj.mp b2, fun _ => ⟨fun z => ?_, fun z => ?_⟩, ?_⟩
        · rcases a3 with ⟨c1, c2⟩ | ⟨c1, c2⟩
          · exfalso; rw [z, show (0 : Int32).toInt = 0 by decide] at b3; omega
          · exact c1
        · rcases a3 with ⟨c1, c2⟩ | ⟨c1, c2⟩
          · exact c1
          · exact absurd (Int32.toInt_inj.mp (show r11.toInt = (0 : Int32).toInt by rw [show (0 : Int32).toInt = 0 by decide]; omega)) z
        · rw [a4, b4]; exact upd_both e3
      · refine ⟨by rw [a1]; exact Int32.toInt_inj.mp b2, fun z => ?_, ?_⟩
        · rw [a1] at z; exact absurd z (by decide)
        · rw [a3, b4]; exact e3
      · exact absurd b1 a2
    have hthr := key.1
    have hout := key.2.1
    have hRE : RE κ2 (rA (rS σ 0 u12.1) 46 u12.2) := ⟨(congrArg Int32.toInt q1).trans e1, (congrArg Int32.toInt q2).trans e2, key.2.2⟩
    refine lv_istore (lv' := [(6, .int r11), (5, .int r5), (4, .int i), (3, .ref q), (2, .ref (aM 0)), (1, .ref (aC 0)), (0, .ref b)]) hx hb dL_law_413 hl (by decide) rfl (fun ls hl => ?_)
    refine lv_aload_n hx hb dL_law_415 rfl (lv_at hl 4 rfl) ?_
    refine lc_ref (n := 0) (As := []) (rest := []) C hP hS hl.1 (M_thrown l D cy sz0 sa aM _ H.size  trivial) (lb_R wl_50 wl_51 wl_52 wl_53) ⟨rfl, by decide +kernel⟩ rfl rfl (lv_room (Nat.le_of_ble_eq_true rfl)) ⟨Nat.le_of_ble_eq_true rfl, Nat.le_of_ble_eq_true rfl⟩ ⟨Nat.le_trans (by omega) hR.1, Nat.le_trans (by omega) hR.2⟩ dL_law_416 (fun r13 u14 H locs hr13 hP hS => ?_)
    subst hr13
    refine lv_iload hx hb dL_law_419 (lv_at hl 1 rfl) ?_
    refine lv_icmp_eq (tgt := 426) hx hb dL_law_421 (by decide) (fun _ => ?_) (fun c9 => absurd hthr c9)
    refine lv_iload hx hb dL_law_426 (lv_at hl 1 rfl) ?_
    refine lv_if_ne (tgt := 450) hx hb dL_law_428 (by decide) (fun c15 => ?_) (fun c15 => ?_)
    · refine lv_goto (tgt := 636) hx hb dL_law_450 (by decide) ?_
      refine W.widen (k := cells + 1066) (n := slots + 9840) (by omega) (by omega) ?_
      exact kk _ _ _ H locs ls (lv_sub hl [2, 3, 4, 5, 6] rfl) hCI hMI (RE.of hRE rfl rfl rfl rfl rfl rfl) hP hS
    · refine lv_aload_n hx hb dL_law_431 rfl (lv_at hl 3 rfl) ?_
      refine lv_iconst (v := 0) hx hb dL_law_432 (by decide +kernel) ?_
      refine lc_lald C hP dL_law_433 ?_
      refine lv_iload hx hb dL_law_434 (lv_at hl 0 rfl) ?_
      refine lv_if_eq (tgt := 443) hx hb dL_law_436 (by decide) (fun c16 => ?_) (fun c16 => ?_)
      · refine lv_lconst (v := 0) hx hb dL_law_443 (by decide +kernel) ?_
        rw [(hout c15).1 c16]
        refine W.lcmp hx hb dL_law_444 ?_
        refine lv_topi (fun x17 ex17 => ?_)
        obtain rfl : x17 = 0 := ex17.trans (by unfold lg_cmp; simp)
        refine lv_if_eq (tgt := 450) hx hb dL_law_445 (by decide) (fun _ => ?_) (fun c9 => absurd rfl c9)
        refine lv_goto (tgt := 636) hx hb dL_law_450 (by decide) ?_
        refine W.widen (k := cells + 1066) (n := slots + 9840) (by omega) (by omega) ?_
        exact kk _ _ _ H locs ls (lv_sub hl [2, 3, 4, 5, 6] rfl) hCI hMI (RE.of hRE rfl rfl rfl rfl rfl rfl) hP hS
      · refine lv_lconst (v := 1) hx hb dL_law_439 (by decide +kernel) ?_
        refine lv_goto (tgt := 444) hx hb dL_law_440 (by decide) ?_
        rw [(hout c15).2 c16]
        refine W.lcmp hx hb dL_law_444 ?_
        refine lv_topi (fun x18 ex18 => ?_)
        obtain rfl : x18 = 0 := ex18.trans (by unfold lg_cmp; simp)
        refine lv_if_eq (tgt := 450) hx hb dL_law_445 (by decide) (fun _ => ?_) (fun c9 => absurd rfl c9)
        refine lv_goto (tgt := 636) hx hb dL_law_450 (by decide) ?_
        refine W.widen (k := cells + 1066) (n := slots + 9840) (by omega) (by omega) ?_
        exact kk _ _ _ H locs ls (lv_sub hl [2, 3, 4, 5, 6] rfl) hCI hMI (RE.of hRE rfl rfl rfl rfl rfl rfl) hP hS
  · refine lv_iconst (v := 1) hx hb dL_law_372 (by decide +kernel) ?_
    refine lv_goto (tgt := 377) hx hb dL_law_373 (by decide) ?_
    refine lv_aload_n hx hb dL_law_377 rfl (lv_at hl 1 rfl) ?_
    refine lc_stat (n := 5) (As := [.ref (aC 0), .int k1, .int k2, .int 1, .ref q]) (rest := []) C hP hS hl.1 (NL_converter l hfl D cy aC aM q sz0 sa κ σ f H.size k1 k2 1 hCI ⟨by decide, by decide⟩) (lb_S wl_43 wl_44 wl_2 wl_45) ⟨by decide, by decide, by decide +kernel⟩ rfl rfl (lv_room (Nat.le_of_ble_eq_true rfl)) ⟨Nat.le_of_ble_eq_true rfl, Nat.le_of_ble_eq_true rfl⟩ ⟨Nat.le_trans (Nat.add_le_add_left (Nat.le_of_ble_eq_true rfl) _) hR.1, Nat.le_trans (Nat.add_le_add_left (Nat.le_of_ble_eq_true rfl) _) hR.2⟩ dL_law_378 (fun r19 u20 H locs hr19 hP hS => ?_)
    obtain ⟨hCI, hr19⟩ := hr19
    obtain ⟨κ2, f⟩ := u20
    dsimp only at hP
    refine lv_istore (lv' := [(5, .int r19), (4, .int i), (3, .ref q), (2, .ref (aM 0)), (1, .ref (aC 0)), (0, .ref b)]) hx hb dL_law_381 hl (by decide) rfl (fun ls hl => ?_)
    refine lv_aload_n hx hb dL_law_383 rfl (lv_at hl 3 rfl) ?_
    refine lv_aload_n hx hb dL_law_384 rfl (lv_at hl 5 rfl) ?_
    refine lv_iload hx hb dL_law_385 (lv_at hl 1 rfl) ?_
    refine lv_iconst (v := 1) hx hb dL_law_387 (by decide +kernel) ?_
    refine lv_iadd hx hb dL_law_388 ?_
    refine va_sld hx hb hX hbl hbA hS (sin_ok hi (by decide +kernel)) dL_law_389 ?_
    refine lv_topi (fun k21 ek21 => ?_)
    obtain rfl : k1 = k21 := ek1.trans ek21.symm
    refine lv_aload_n hx hb dL_law_390 rfl (lv_at hl 5 rfl) ?_
    refine lv_iload hx hb dL_law_391 (lv_at hl 1 rfl) ?_
    refine lv_iconst (v := 2) hx hb dL_law_393 (by decide +kernel) ?_
    refine lv_iadd hx hb dL_law_394 ?_
    refine va_sld hx hb hX hbl hbA hS (sin_ok hi (by decide +kernel)) dL_law_395 ?_
    refine lv_topi (fun k22 ek22 => ?_)
    obtain rfl : k2 = k22 := ek2.trans ek22.symm
    refine lv_aload_n hx hb dL_law_396 rfl (lv_at hl 5 rfl) ?_
    refine lv_iload hx hb dL_law_397 (lv_at hl 1 rfl) ?_
    refine lv_iconst (v := 3) hx hb dL_law_399 (by decide +kernel) ?_
    refine lv_iadd hx hb dL_law_400 ?_
    refine va_sld hx hb hX hbl hbA hS (sin_ok hi (by decide +kernel)) dL_law_401 ?_
    refine lv_topi (fun k23 ek23 => ?_)
    obtain rfl : k3 = k23 := ek3.trans ek23.symm
    refine lv_if_eq (tgt := 409) hx hb dL_law_402 (by decide) (fun c9 => absurd c9 c4) (fun _ => ?_)
    refine lv_iconst (v := 1) hx hb dL_law_405 (by decide +kernel) ?_
    refine lv_goto (tgt := 410) hx hb dL_law_406 (by decide) ?_
    refine lc_ref (n := 3) (As := [.int k1, .int k2, .int 1]) (rest := []) C hP hS hl.1 (M_converter l D cy sz0 sa aM σ H.size k1 k2 1 ⟨hMI.2.2.2.2.2.2.2.1, Or.inr (by decide)⟩) (lb_R wl_46 wl_47 wl_48 wl_49) ⟨rfl, by decide +kernel⟩ rfl rfl (lv_room (Nat.le_of_ble_eq_true rfl)) ⟨Nat.le_of_ble_eq_true rfl, Nat.le_of_ble_eq_true rfl⟩ ⟨Nat.le_trans (by omega) hR.1, Nat.le_trans (by omega) hR.2⟩ dL_law_410 (fun r25 u26 H locs hr25 hP hS => ?_)
    have hMI2 := MI.converter hMI k1 k2 1 r25 u26 (Or.inr (by decide)) hr25
    clear hMI; have hMI := hMI2; clear hMI2
    obtain ⟨hc, q1, q2⟩ := hr19
    dsimp only at hc q1 q2
    obtain ⟨e1, e2, e3⟩ := hRE
    have key : u26.1 = r19 ∧ (r19 = 0 → (r25 = 0 → f 0 = 0) ∧ (¬ r25 = 0 → f 0 = 1)) ∧ ∀ j : Nat, j < 65 → (κ2.2.2.1 14 j).toInt = (u26.2 j).toInt := by
      rcases hc with ⟨a1, a2, a3, a4⟩ | ⟨a1, a2, a3⟩ <;> rcases hr25 with ⟨b1, b2, b3, b4⟩ | ⟨b1, b2, b3, b4⟩
      · exact absurd a2 b1
      · have hix : (κ.2.2.1 14 (5 * k1.toInt + k2.toInt).toNat).toInt = (σ.2.1 46 (5 * k1.toInt + k2.toInt).toNat).toInt := e3 _ (by omega)
        refine ⟨by rw [a1]; exact Int32.toInt_inj.mp b2, fun _ => ⟨fun z => ?_, fun z => ?_⟩, ?_⟩
        · rcases a3 with ⟨c1, c2⟩ | ⟨c1, c2⟩
          · exfalso; rw [z, show (0 : Int32).toInt = 0 by decide] at b3; omega
          · exact c1
        · rcases a3 with ⟨c1, c2⟩ | ⟨c1, c2⟩
          · exact c1
          · exact absurd (Int32.toInt_inj.mp (show r25.toInt = (0 : Int32).toInt by rw [show (0 : Int32).toInt = 0 by decide]; omega)) z
        · rw [a4, b4]; exact upd_both e3
      · refine ⟨by rw [a1]; exact Int32.toInt_inj.mp b2, fun z => ?_, ?_⟩
        · rw [a1] at z; exact absurd z (by decide)
        · rw [a3, b4]; exact e3
      · exact absurd b1 a2
    have hthr := key.1
    have hout := key.2.1
    have hRE : RE κ2 (rA (rS σ 0 u26.1) 46 u26.2) := ⟨(congrArg Int32.toInt q1).trans e1, (congrArg Int32.toInt q2).trans e2, key.2.2⟩
    refine lv_istore (lv' := [(6, .int r25), (5, .int r19), (4, .int i), (3, .ref q), (2, .ref (aM 0)), (1, .ref (aC 0)), (0, .ref b)]) hx hb dL_law_413 hl (by decide) rfl (fun ls hl => ?_)
    refine lv_aload_n hx hb dL_law_415 rfl (lv_at hl 4 rfl) ?_
    refine lc_ref (n := 0) (As := []) (rest := []) C hP hS hl.1 (M_thrown l D cy sz0 sa aM _ H.size  trivial) (lb_R wl_50 wl_51 wl_52 wl_53) ⟨rfl, by decide +kernel⟩ rfl rfl (lv_room (Nat.le_of_ble_eq_true rfl)) ⟨Nat.le_of_ble_eq_true rfl, Nat.le_of_ble_eq_true rfl⟩ ⟨Nat.le_trans (by omega) hR.1, Nat.le_trans (by omega) hR.2⟩ dL_law_416 (fun r27 u28 H locs hr27 hP hS => ?_)
    subst hr27
    refine lv_iload hx hb dL_law_419 (lv_at hl 1 rfl) ?_
    refine lv_icmp_eq (tgt := 426) hx hb dL_law_421 (by decide) (fun _ => ?_) (fun c9 => absurd hthr c9)
    refine lv_iload hx hb dL_law_426 (lv_at hl 1 rfl) ?_
    refine lv_if_ne (tgt := 450) hx hb dL_law_428 (by decide) (fun c29 => ?_) (fun c29 => ?_)
    · refine lv_goto (tgt := 636) hx hb dL_law_450 (by decide) ?_
      refine W.widen (k := cells + 1066) (n := slots + 9840) (by omega) (by omega) ?_
      exact kk _ _ _ H locs ls (lv_sub hl [2, 3, 4, 5, 6] rfl) hCI hMI (RE.of hRE rfl rfl rfl rfl rfl rfl) hP hS
    · refine lv_aload_n hx hb dL_law_431 rfl (lv_at hl 3 rfl) ?_
      refine lv_iconst (v := 0) hx hb dL_law_432 (by decide +kernel) ?_
      refine lc_lald C hP dL_law_433 ?_
      refine lv_iload hx hb dL_law_434 (lv_at hl 0 rfl) ?_
      refine lv_if_eq (tgt := 443) hx hb dL_law_436 (by decide) (fun c30 => ?_) (fun c30 => ?_)
      · refine lv_lconst (v := 0) hx hb dL_law_443 (by decide +kernel) ?_
        rw [(hout c29).1 c30]
        refine W.lcmp hx hb dL_law_444 ?_
        refine lv_topi (fun x31 ex31 => ?_)
        obtain rfl : x31 = 0 := ex31.trans (by unfold lg_cmp; simp)
        refine lv_if_eq (tgt := 450) hx hb dL_law_445 (by decide) (fun _ => ?_) (fun c9 => absurd rfl c9)
        refine lv_goto (tgt := 636) hx hb dL_law_450 (by decide) ?_
        refine W.widen (k := cells + 1066) (n := slots + 9840) (by omega) (by omega) ?_
        exact kk _ _ _ H locs ls (lv_sub hl [2, 3, 4, 5, 6] rfl) hCI hMI (RE.of hRE rfl rfl rfl rfl rfl rfl) hP hS
      · refine lv_lconst (v := 1) hx hb dL_law_439 (by decide +kernel) ?_
        refine lv_goto (tgt := 444) hx hb dL_law_440 (by decide) ?_
        rw [(hout c29).2 c30]
        refine W.lcmp hx hb dL_law_444 ?_
        refine lv_topi (fun x32 ex32 => ?_)
        obtain rfl : x32 = 0 := ex32.trans (by unfold lg_cmp; simp)
        refine lv_if_eq (tgt := 450) hx hb dL_law_445 (by decide) (fun _ => ?_) (fun c9 => absurd rfl c9)
        refine lv_goto (tgt := 636) hx hb dL_law_450 (by decide) ?_
        refine W.widen (k := cells + 1066) (n := slots + 9840) (by omega) (by omega) ?_
        exact kk _ _ _ H locs ls (lv_sub hl [2, 3, 4, 5, 6] rfl) hCI hMI (RE.of hRE rfl rfl rfl rfl rfl rfl) hP hS
set_option maxHeartbeats 2000000 in
theorem law_c7 {p : Program} {e : Env} {s : State} {m : MethodId} {below : List Frame} {meth : Method} {c : Code} (l : Launch) (hfl : l.stackTraces = false) {b L : Nat} {xs : Nat → Int32} {D : va_G} {cy : Nat → ClassId} {sa : Nat → Nat} {sz0 : Nat} {aC aM : Nat → Nat} {q : Nat} (C : LC p s m #[Value.ref b] meth c code 7 ret D cy sz0 sa lw_big) (hX : va_X b L xs s s.heap) (hbl : b < s.heap.size) (hbA : ¬ Fr sz0 b) {Q : State → Prop} {i : Int32} (hi : 0 ≤ i.toInt ∧ i.toInt + 7 ≤ (L : Int) ∧ L ≤ 3584) {κ : KS} {σ : RS} {f : Nat → Int64} {H : Heap} {locs : List Loc} {ls : Array Slot} {cells slots : Nat} (hCI : CI sa aC κ) (hMI : MI σ) (hRE : RE κ σ) (hP : LW D cy aC aM q (Fr sz0) κ σ f H) (hS : va_S (Fr sz0) s.heap H locs) (hl : lv_has ls 7 [(4, .int i), (3, .ref q), (2, .ref (aM 0)), (1, .ref (aC 0)), (0, .ref b)]) (hR : cells + 1066 ≤ room_1.cells ∧ slots + 9840 ≤ room_1.slots)
    (kk : ∀ (κ : KS) (σ : RS) (f : Nat → Int64) (H : Heap) (locs : List Loc) (ls : Array Slot), lv_has ls 7 [(4, .int i), (3, .ref q), (2, .ref (aM 0)), (1, .ref (aC 0)), (0, .ref b)] → CI sa aC κ → MI σ → RE κ σ → LW D cy aC aM q (Fr sz0) κ σ f H → va_S (Fr sz0) s.heap H locs → W p l e room_1 s m #[Value.ref b] below meth c H locs (cells + 1066) (slots + 9840) Q (F0 m 636 ls [])) : W p l e room_1 s m #[Value.ref b] below meth c H locs cells slots Q (F0 m 453 ls []) := by
  have hx := C.x
  have hb := C.b
  refine lv_aload_n hx hb dL_law_453 rfl (lv_at hl 3 rfl) ?_
  refine lv_aload_n hx hb dL_law_454 rfl (lv_at hl 4 rfl) ?_
  refine lv_iload hx hb dL_law_455 (lv_at hl 0 rfl) ?_
  refine lv_iconst (v := 1) hx hb dL_law_457 (by decide +kernel) ?_
  refine lv_iadd hx hb dL_law_458 ?_
  refine va_sld hx hb hX hbl hbA hS (sin_ok hi (by decide +kernel)) dL_law_459 ?_
  refine lv_topi (fun k1 ek1 => ?_)
  refine lv_aload_n hx hb dL_law_460 rfl (lv_at hl 4 rfl) ?_
  refine lv_iload hx hb dL_law_461 (lv_at hl 0 rfl) ?_
  refine lv_iconst (v := 2) hx hb dL_law_463 (by decide +kernel) ?_
  refine lv_iadd hx hb dL_law_464 ?_
  refine va_sld hx hb hX hbl hbA hS (sin_ok hi (by decide +kernel)) dL_law_465 ?_
  refine lv_topi (fun k2 ek2 => ?_)
  refine lv_aload_n hx hb dL_law_466 rfl (lv_at hl 1 rfl) ?_
  refine lc_stat (n := 4) (As := [.ref (aC 0), .int k1, .int k2, .ref q]) (rest := []) C hP hS hl.1 (NL_run l hfl D cy aC aM q sz0 sa κ σ f H.size k1 k2 hCI) (lb_S wl_54 wl_55 wl_2 wl_56) ⟨by decide, by decide, by decide +kernel⟩ rfl rfl (lv_room (Nat.le_of_ble_eq_true rfl)) ⟨Nat.le_of_ble_eq_true rfl, Nat.le_of_ble_eq_true rfl⟩ ⟨Nat.le_trans (Nat.add_le_add_left (Nat.le_of_ble_eq_true rfl) _) hR.1, Nat.le_trans (Nat.add_le_add_left (Nat.le_of_ble_eq_true rfl) _) hR.2⟩ dL_law_467 (fun r3 u4 H locs hr3 hP hS => ?_)
  obtain ⟨hCI, hr3⟩ := hr3
  have hRE : RE u4.1 σ := RE.of hRE hr3.1 hr3.2.1 hr3.2.2 rfl rfl rfl
  obtain ⟨κ, f⟩ := u4
  dsimp only at hRE hP
  refine lv_istore (lv' := [(5, .int r3), (4, .int i), (3, .ref q), (2, .ref (aM 0)), (1, .ref (aC 0)), (0, .ref b)]) hx hb dL_law_470 hl (by decide) rfl (fun ls hl => ?_)
  refine lv_aload_n hx hb dL_law_472 rfl (lv_at hl 3 rfl) ?_
  refine lv_aload_n hx hb dL_law_473 rfl (lv_at hl 5 rfl) ?_
  refine lv_iload hx hb dL_law_474 (lv_at hl 1 rfl) ?_
  refine lv_iconst (v := 1) hx hb dL_law_476 (by decide +kernel) ?_
  refine lv_iadd hx hb dL_law_477 ?_
  refine va_sld hx hb hX hbl hbA hS (sin_ok hi (by decide +kernel)) dL_law_478 ?_
  refine lv_topi (fun k5 ek5 => ?_)
  obtain rfl : k1 = k5 := ek1.trans ek5.symm
  refine lv_aload_n hx hb dL_law_479 rfl (lv_at hl 5 rfl) ?_
  refine lv_iload hx hb dL_law_480 (lv_at hl 1 rfl) ?_
  refine lv_iconst (v := 2) hx hb dL_law_482 (by decide +kernel) ?_
  refine lv_iadd hx hb dL_law_483 ?_
  refine va_sld hx hb hX hbl hbA hS (sin_ok hi (by decide +kernel)) dL_law_484 ?_
  refine lv_topi (fun k6 ek6 => ?_)
  obtain rfl : k2 = k6 := ek2.trans ek6.symm
  refine lc_ref (n := 2) (As := [.int k1, .int k2]) (rest := []) C hP hS hl.1 (M_run l D cy sz0 sa aM σ H.size k1 k2 ⟨hMI.1.1, hMI.1.2, hMI.2.1.1, hMI.2.1.2, hMI.2.2.1, hMI.2.2.2.1.1, hMI.2.2.2.1.2, hMI.2.2.2.2.1, hMI.2.2.2.2.2.1, hMI.2.2.2.2.2.2.1.1, hMI.2.2.2.2.2.2.1.2, hMI.2.2.2.2.2.2.2.1, hMI.2.2.2.2.2.2.2.2.1, hMI.2.2.2.2.2.2.2.2.2.1, hMI.2.2.2.2.2.2.2.2.2.2.1, hMI.2.2.2.2.2.2.2.2.2.2.2.1, hMI.2.2.2.2.2.2.2.2.2.2.2.2.1, hMI.2.2.2.2.2.2.2.2.2.2.2.2.2.1.1, hMI.2.2.2.2.2.2.2.2.2.2.2.2.2.1.2⟩) (lb_R wl_57 wl_58 wl_59 wl_60) ⟨rfl, by decide +kernel⟩ rfl rfl (lv_room (Nat.le_of_ble_eq_true rfl)) ⟨Nat.le_of_ble_eq_true rfl, Nat.le_of_ble_eq_true rfl⟩ ⟨Nat.le_trans (by omega) hR.1, Nat.le_trans (by omega) hR.2⟩ dL_law_485 (fun r7 u8 H locs hr7 hP hS => ?_)
  have hMI2 := MI.run hMI k1 k2 r7 u8 hr7
  clear hMI; have hMI := hMI2; clear hMI2
  refine lv_istore (lv' := [(6, .int r7), (5, .int r3), (4, .int i), (3, .ref q), (2, .ref (aM 0)), (1, .ref (aC 0)), (0, .ref b)]) hx hb dL_law_488 hl (by decide) rfl (fun ls hl => ?_)
  refine lv_goto (tgt := 636) hx hb dL_law_490 (by decide) ?_
  refine W.widen (k := cells + 1066) (n := slots + 9840) (by omega) (by omega) ?_
  exact kk _ _ _ H locs ls (lv_sub hl [2, 3, 4, 5, 6] rfl) hCI hMI (RE.of hRE rfl rfl rfl rfl rfl rfl) hP hS
set_option maxHeartbeats 2000000 in
theorem law_c8 {p : Program} {e : Env} {s : State} {m : MethodId} {below : List Frame} {meth : Method} {c : Code} (l : Launch) (hfl : l.stackTraces = false) {b L : Nat} {xs : Nat → Int32} {D : va_G} {cy : Nat → ClassId} {sa : Nat → Nat} {sz0 : Nat} {aC aM : Nat → Nat} {q : Nat} (C : LC p s m #[Value.ref b] meth c code 7 ret D cy sz0 sa lw_big) (hX : va_X b L xs s s.heap) (hbl : b < s.heap.size) (hbA : ¬ Fr sz0 b) {Q : State → Prop} {i : Int32} (hi : 0 ≤ i.toInt ∧ i.toInt + 7 ≤ (L : Int) ∧ L ≤ 3584) {κ : KS} {σ : RS} {f : Nat → Int64} {H : Heap} {locs : List Loc} {ls : Array Slot} {cells slots : Nat} (hCI : CI sa aC κ) (hMI : MI σ) (hRE : RE κ σ) (hP : LW D cy aC aM q (Fr sz0) κ σ f H) (hS : va_S (Fr sz0) s.heap H locs) (hl : lv_has ls 7 [(4, .int i), (3, .ref q), (2, .ref (aM 0)), (1, .ref (aC 0)), (0, .ref b)]) (hR : cells + 1066 ≤ room_1.cells ∧ slots + 9840 ≤ room_1.slots)
    (kk : ∀ (κ : KS) (σ : RS) (f : Nat → Int64) (H : Heap) (locs : List Loc) (ls : Array Slot), lv_has ls 7 [(4, .int i), (3, .ref q), (2, .ref (aM 0)), (1, .ref (aC 0)), (0, .ref b)] → CI sa aC κ → MI σ → RE κ σ → LW D cy aC aM q (Fr sz0) κ σ f H → va_S (Fr sz0) s.heap H locs → W p l e room_1 s m #[Value.ref b] below meth c H locs (cells + 1066) (slots + 9840) Q (F0 m 636 ls [])) : W p l e room_1 s m #[Value.ref b] below meth c H locs cells slots Q (F0 m 493 ls []) := by
  have hx := C.x
  have hb := C.b
  refine lv_aload_n hx hb dL_law_493 rfl (lv_at hl 3 rfl) ?_
  refine lv_aload_n hx hb dL_law_494 rfl (lv_at hl 4 rfl) ?_
  refine lv_iload hx hb dL_law_495 (lv_at hl 0 rfl) ?_
  refine lv_iconst (v := 1) hx hb dL_law_497 (by decide +kernel) ?_
  refine lv_iadd hx hb dL_law_498 ?_
  refine va_sld hx hb hX hbl hbA hS (sin_ok hi (by decide +kernel)) dL_law_499 ?_
  refine lv_topi (fun k1 ek1 => ?_)
  refine lv_aload_n hx hb dL_law_500 rfl (lv_at hl 1 rfl) ?_
  refine lc_stat (n := 3) (As := [.ref (aC 0), .int k1, .ref q]) (rest := []) C hP hS hl.1 (NL_keep l hfl D cy aC aM q sz0 sa κ σ f H.size k1 hCI) (lb_S wl_61 wl_62 wl_2 wl_63) ⟨by decide, by decide, by decide +kernel⟩ rfl rfl (lv_room (Nat.le_of_ble_eq_true rfl)) ⟨Nat.le_of_ble_eq_true rfl, Nat.le_of_ble_eq_true rfl⟩ ⟨Nat.le_trans (Nat.add_le_add_left (Nat.le_of_ble_eq_true rfl) _) hR.1, Nat.le_trans (Nat.add_le_add_left (Nat.le_of_ble_eq_true rfl) _) hR.2⟩ dL_law_501 (fun r2 u3 H locs hr2 hP hS => ?_)
  obtain ⟨hCI, hr2⟩ := hr2
  have hRE : RE u3.1 σ := RE.of hRE hr2.1 hr2.2.1 hr2.2.2 rfl rfl rfl
  obtain ⟨κ, f⟩ := u3
  dsimp only at hRE hP
  refine lv_istore (lv' := [(5, .int r2), (4, .int i), (3, .ref q), (2, .ref (aM 0)), (1, .ref (aC 0)), (0, .ref b)]) hx hb dL_law_504 hl (by decide) rfl (fun ls hl => ?_)
  refine lv_aload_n hx hb dL_law_506 rfl (lv_at hl 3 rfl) ?_
  refine lv_aload_n hx hb dL_law_507 rfl (lv_at hl 5 rfl) ?_
  refine lv_iload hx hb dL_law_508 (lv_at hl 1 rfl) ?_
  refine lv_iconst (v := 1) hx hb dL_law_510 (by decide +kernel) ?_
  refine lv_iadd hx hb dL_law_511 ?_
  refine va_sld hx hb hX hbl hbA hS (sin_ok hi (by decide +kernel)) dL_law_512 ?_
  refine lv_topi (fun k4 ek4 => ?_)
  obtain rfl : k1 = k4 := ek1.trans ek4.symm
  refine lc_ref (n := 1) (As := [.int k1]) (rest := []) C hP hS hl.1 (M_keep l D cy sz0 sa aM σ H.size k1 ⟨hMI.2.2.2.2.2.2.2.2.2.2.2.2.2.1.1, hMI.2.2.2.2.2.2.2.2.2.2.2.2.2.1.2, hMI.2.2.2.2.2.2.2.2.2.2.2.1, hMI.2.2.2.2.2.2.2.2.2.2.2.2.1, hMI.2.2.2.1.1, hMI.2.2.2.1.2⟩) (lb_R wl_64 wl_65 wl_66 wl_67) ⟨rfl, by decide +kernel⟩ rfl rfl (lv_room (Nat.le_of_ble_eq_true rfl)) ⟨Nat.le_of_ble_eq_true rfl, Nat.le_of_ble_eq_true rfl⟩ ⟨Nat.le_trans (by omega) hR.1, Nat.le_trans (by omega) hR.2⟩ dL_law_513 (fun r5 u6 H locs hr5 hP hS => ?_)
  have hMI2 := MI.keep hMI k1 r5 u6 hr5
  clear hMI; have hMI := hMI2; clear hMI2
  refine lv_istore (lv' := [(6, .int r5), (5, .int r2), (4, .int i), (3, .ref q), (2, .ref (aM 0)), (1, .ref (aC 0)), (0, .ref b)]) hx hb dL_law_516 hl (by decide) rfl (fun ls hl => ?_)
  refine lv_goto (tgt := 636) hx hb dL_law_518 (by decide) ?_
  refine W.widen (k := cells + 1066) (n := slots + 9840) (by omega) (by omega) ?_
  exact kk _ _ _ H locs ls (lv_sub hl [2, 3, 4, 5, 6] rfl) hCI hMI (RE.of hRE rfl rfl rfl rfl rfl rfl) hP hS
set_option maxHeartbeats 2000000 in
theorem law_c9 {p : Program} {e : Env} {s : State} {m : MethodId} {below : List Frame} {meth : Method} {c : Code} (l : Launch) (hfl : l.stackTraces = false) {b L : Nat} {xs : Nat → Int32} {D : va_G} {cy : Nat → ClassId} {sa : Nat → Nat} {sz0 : Nat} {aC aM : Nat → Nat} {q : Nat} (C : LC p s m #[Value.ref b] meth c code 7 ret D cy sz0 sa lw_big) (hX : va_X b L xs s s.heap) (hbl : b < s.heap.size) (hbA : ¬ Fr sz0 b) {Q : State → Prop} {i : Int32} (hi : 0 ≤ i.toInt ∧ i.toInt + 7 ≤ (L : Int) ∧ L ≤ 3584) {κ : KS} {σ : RS} {f : Nat → Int64} {H : Heap} {locs : List Loc} {ls : Array Slot} {cells slots : Nat} (hCI : CI sa aC κ) (hMI : MI σ) (hRE : RE κ σ) (hP : LW D cy aC aM q (Fr sz0) κ σ f H) (hS : va_S (Fr sz0) s.heap H locs) (hl : lv_has ls 7 [(4, .int i), (3, .ref q), (2, .ref (aM 0)), (1, .ref (aC 0)), (0, .ref b)]) (hR : cells + 1066 ≤ room_1.cells ∧ slots + 9840 ≤ room_1.slots)
    (kk : ∀ (κ : KS) (σ : RS) (f : Nat → Int64) (H : Heap) (locs : List Loc) (ls : Array Slot), lv_has ls 7 [(4, .int i), (3, .ref q), (2, .ref (aM 0)), (1, .ref (aC 0)), (0, .ref b)] → CI sa aC κ → MI σ → RE κ σ → LW D cy aC aM q (Fr sz0) κ σ f H → va_S (Fr sz0) s.heap H locs → W p l e room_1 s m #[Value.ref b] below meth c H locs (cells + 1066) (slots + 9840) Q (F0 m 636 ls [])) : W p l e room_1 s m #[Value.ref b] below meth c H locs cells slots Q (F0 m 521 ls []) := by
  have hx := C.x
  have hb := C.b
  refine lv_aload_n hx hb dL_law_521 rfl (lv_at hl 3 rfl) ?_
  refine lv_aload_n hx hb dL_law_522 rfl (lv_at hl 4 rfl) ?_
  refine lv_iload hx hb dL_law_523 (lv_at hl 0 rfl) ?_
  refine lv_iconst (v := 1) hx hb dL_law_525 (by decide +kernel) ?_
  refine lv_iadd hx hb dL_law_526 ?_
  refine va_sld hx hb hX hbl hbA hS (sin_ok hi (by decide +kernel)) dL_law_527 ?_
  refine lv_topi (fun k1 ek1 => ?_)
  refine lc_class (n := 1) (As := [.int k1]) (rest := []) C hP hS hl.1 (fun A hAF hAn => NX11_result l D cy aC A sz0 sa κ _ _ hAF hAn k1 hCI.1 hCI.2.1) (lb_C wl_68 wl_69 wl_70 wl_71) ⟨rfl, by decide +kernel⟩ rfl rfl (lv_room (Nat.le_of_ble_eq_true rfl)) ⟨Nat.le_of_ble_eq_true rfl, Nat.le_of_ble_eq_true rfl⟩ ⟨Nat.le_trans (Nat.add_le_add_left (Nat.le_of_ble_eq_true rfl) _) hR.1, Nat.le_trans (Nat.add_le_add_left (Nat.le_of_ble_eq_true rfl) _) hR.2⟩ dL_law_528 (fun r2 u3 H locs hr2 hP hS => ?_)
  refine lv_pop hx hb dL_law_531 rfl ?_
  refine lv_aload_n hx hb dL_law_532 rfl (lv_at hl 2 rfl) ?_
  refine lv_aload_n hx hb dL_law_533 rfl (lv_at hl 4 rfl) ?_
  refine lv_iload hx hb dL_law_534 (lv_at hl 0 rfl) ?_
  refine lv_iconst (v := 1) hx hb dL_law_536 (by decide +kernel) ?_
  refine lv_iadd hx hb dL_law_537 ?_
  refine va_sld hx hb hX hbl hbA hS (sin_ok hi (by decide +kernel)) dL_law_538 ?_
  refine lv_topi (fun k4 ek4 => ?_)
  obtain rfl : k1 = k4 := ek1.trans ek4.symm
  refine lc_ref (n := 1) (As := [.int k1]) (rest := []) C hP hS hl.1 (M_result l D cy sz0 sa aM σ H.size k1 hMI.2.2.2.2.2.2.2.2.2.2.2.2.1) (lb_R wl_72 wl_73 wl_74 wl_75) ⟨rfl, by decide +kernel⟩ rfl rfl (lv_room (Nat.le_of_ble_eq_true rfl)) ⟨Nat.le_of_ble_eq_true rfl, Nat.le_of_ble_eq_true rfl⟩ ⟨Nat.le_trans (by omega) hR.1, Nat.le_trans (by omega) hR.2⟩ dL_law_539 (fun r5 u6 H locs hr5 hP hS => ?_)
  have hMI2 := MI.result hMI k1 r5 u6 hr5
  clear hMI; have hMI := hMI2; clear hMI2
  refine lv_pop hx hb dL_law_542 rfl ?_
  refine lv_goto (tgt := 636) hx hb dL_law_543 (by decide) ?_
  refine W.widen (k := cells + 1066) (n := slots + 9840) (by omega) (by omega) ?_
  exact kk _ _ _ H locs ls (lv_sub hl [0, 1, 2, 3, 4] rfl) hCI hMI (RE.of hRE rfl rfl rfl rfl rfl rfl) hP hS
set_option maxHeartbeats 2000000 in
theorem law_c10 {p : Program} {e : Env} {s : State} {m : MethodId} {below : List Frame} {meth : Method} {c : Code} (l : Launch) (hfl : l.stackTraces = false) {b L : Nat} {xs : Nat → Int32} {D : va_G} {cy : Nat → ClassId} {sa : Nat → Nat} {sz0 : Nat} {aC aM : Nat → Nat} {q : Nat} (C : LC p s m #[Value.ref b] meth c code 7 ret D cy sz0 sa lw_big) (hX : va_X b L xs s s.heap) (hbl : b < s.heap.size) (hbA : ¬ Fr sz0 b) {Q : State → Prop} {i : Int32} (hi : 0 ≤ i.toInt ∧ i.toInt + 7 ≤ (L : Int) ∧ L ≤ 3584) {κ : KS} {σ : RS} {f : Nat → Int64} {H : Heap} {locs : List Loc} {ls : Array Slot} {cells slots : Nat} (hCI : CI sa aC κ) (hMI : MI σ) (hRE : RE κ σ) (hP : LW D cy aC aM q (Fr sz0) κ σ f H) (hS : va_S (Fr sz0) s.heap H locs) (hl : lv_has ls 7 [(4, .int i), (3, .ref q), (2, .ref (aM 0)), (1, .ref (aC 0)), (0, .ref b)]) (hR : cells + 1066 ≤ room_1.cells ∧ slots + 9840 ≤ room_1.slots)
    (kk : ∀ (κ : KS) (σ : RS) (f : Nat → Int64) (H : Heap) (locs : List Loc) (ls : Array Slot), lv_has ls 7 [(4, .int i), (3, .ref q), (2, .ref (aM 0)), (1, .ref (aC 0)), (0, .ref b)] → CI sa aC κ → MI σ → RE κ σ → LW D cy aC aM q (Fr sz0) κ σ f H → va_S (Fr sz0) s.heap H locs → W p l e room_1 s m #[Value.ref b] below meth c H locs (cells + 1066) (slots + 9840) Q (F0 m 636 ls [])) : W p l e room_1 s m #[Value.ref b] below meth c H locs cells slots Q (F0 m 546 ls []) := by
  have hx := C.x
  have hb := C.b
  refine lv_aload_n hx hb dL_law_546 rfl (lv_at hl 3 rfl) ?_
  refine lv_aload_n hx hb dL_law_547 rfl (lv_at hl 4 rfl) ?_
  refine lv_iload hx hb dL_law_548 (lv_at hl 0 rfl) ?_
  refine lv_iconst (v := 1) hx hb dL_law_550 (by decide +kernel) ?_
  refine lv_iadd hx hb dL_law_551 ?_
  refine va_sld hx hb hX hbl hbA hS (sin_ok hi (by decide +kernel)) dL_law_552 ?_
  refine lv_topi (fun k1 ek1 => ?_)
  refine lc_class (n := 1) (As := [.int k1]) (rest := []) C hP hS hl.1 (fun A hAF hAn => NX11_text l D cy aC A sz0 sa κ _ _ hAF hAn k1 hCI.1 hCI.2.1) (lb_C wl_76 wl_77 wl_78 wl_79) ⟨rfl, by decide +kernel⟩ rfl rfl (lv_room (Nat.le_of_ble_eq_true rfl)) ⟨Nat.le_of_ble_eq_true rfl, Nat.le_of_ble_eq_true rfl⟩ ⟨Nat.le_trans (Nat.add_le_add_left (Nat.le_of_ble_eq_true rfl) _) hR.1, Nat.le_trans (Nat.add_le_add_left (Nat.le_of_ble_eq_true rfl) _) hR.2⟩ dL_law_553 (fun r2 u3 H locs hr2 hP hS => ?_)
  refine lv_pop hx hb dL_law_556 rfl ?_
  refine lv_aload_n hx hb dL_law_557 rfl (lv_at hl 2 rfl) ?_
  refine lv_aload_n hx hb dL_law_558 rfl (lv_at hl 4 rfl) ?_
  refine lv_iload hx hb dL_law_559 (lv_at hl 0 rfl) ?_
  refine lv_iconst (v := 1) hx hb dL_law_561 (by decide +kernel) ?_
  refine lv_iadd hx hb dL_law_562 ?_
  refine va_sld hx hb hX hbl hbA hS (sin_ok hi (by decide +kernel)) dL_law_563 ?_
  refine lv_topi (fun k4 ek4 => ?_)
  obtain rfl : k1 = k4 := ek1.trans ek4.symm
  refine lc_ref (n := 1) (As := [.int k1]) (rest := []) C hP hS hl.1 (M_text l D cy sz0 sa aM σ H.size k1 trivial) (lb_R wl_80 wl_81 wl_82 wl_83) ⟨rfl, by decide +kernel⟩ rfl rfl (lv_room (Nat.le_of_ble_eq_true rfl)) ⟨Nat.le_of_ble_eq_true rfl, Nat.le_of_ble_eq_true rfl⟩ ⟨Nat.le_trans (by omega) hR.1, Nat.le_trans (by omega) hR.2⟩ dL_law_564 (fun r5 u6 H locs hr5 hP hS => ?_)
  have hMI2 := MI.text hMI k1 r5 u6 hr5
  clear hMI; have hMI := hMI2; clear hMI2
  refine lv_pop hx hb dL_law_567 rfl ?_
  refine lv_goto (tgt := 636) hx hb dL_law_568 (by decide) ?_
  refine W.widen (k := cells + 1066) (n := slots + 9840) (by omega) (by omega) ?_
  exact kk _ _ _ H locs ls (lv_sub hl [0, 1, 2, 3, 4] rfl) hCI hMI (RE.of hRE rfl rfl rfl rfl rfl rfl) hP hS
set_option maxHeartbeats 2000000 in
theorem law_c11 {p : Program} {e : Env} {s : State} {m : MethodId} {below : List Frame} {meth : Method} {c : Code} (l : Launch) (hfl : l.stackTraces = false) {b L : Nat} {xs : Nat → Int32} {D : va_G} {cy : Nat → ClassId} {sa : Nat → Nat} {sz0 : Nat} {aC aM : Nat → Nat} {q : Nat} (C : LC p s m #[Value.ref b] meth c code 7 ret D cy sz0 sa lw_big) (hX : va_X b L xs s s.heap) (hbl : b < s.heap.size) (hbA : ¬ Fr sz0 b) {Q : State → Prop} {i : Int32} (hi : 0 ≤ i.toInt ∧ i.toInt + 7 ≤ (L : Int) ∧ L ≤ 3584) {κ : KS} {σ : RS} {f : Nat → Int64} {H : Heap} {locs : List Loc} {ls : Array Slot} {cells slots : Nat} (hCI : CI sa aC κ) (hMI : MI σ) (hRE : RE κ σ) (hP : LW D cy aC aM q (Fr sz0) κ σ f H) (hS : va_S (Fr sz0) s.heap H locs) (hl : lv_has ls 7 [(4, .int i), (3, .ref q), (2, .ref (aM 0)), (1, .ref (aC 0)), (0, .ref b)]) (hR : cells + 1066 ≤ room_1.cells ∧ slots + 9840 ≤ room_1.slots)
    (kk : ∀ (κ : KS) (σ : RS) (f : Nat → Int64) (H : Heap) (locs : List Loc) (ls : Array Slot), lv_has ls 7 [(4, .int i), (3, .ref q), (2, .ref (aM 0)), (1, .ref (aC 0)), (0, .ref b)] → CI sa aC κ → MI σ → RE κ σ → LW D cy aC aM q (Fr sz0) κ σ f H → va_S (Fr sz0) s.heap H locs → W p l e room_1 s m #[Value.ref b] below meth c H locs (cells + 1066) (slots + 9840) Q (F0 m 636 ls [])) : W p l e room_1 s m #[Value.ref b] below meth c H locs cells slots Q (F0 m 571 ls []) := by
  have hx := C.x
  have hb := C.b
  refine lv_aload_n hx hb dL_law_571 rfl (lv_at hl 3 rfl) ?_
  refine lv_aload_n hx hb dL_law_572 rfl (lv_at hl 4 rfl) ?_
  refine lv_iload hx hb dL_law_573 (lv_at hl 0 rfl) ?_
  refine lv_iconst (v := 1) hx hb dL_law_575 (by decide +kernel) ?_
  refine lv_iadd hx hb dL_law_576 ?_
  refine va_sld hx hb hX hbl hbA hS (sin_ok hi (by decide +kernel)) dL_law_577 ?_
  refine lv_topi (fun k1 ek1 => ?_)
  refine lv_aload_n hx hb dL_law_578 rfl (lv_at hl 4 rfl) ?_
  refine lv_iload hx hb dL_law_579 (lv_at hl 0 rfl) ?_
  refine lv_iconst (v := 2) hx hb dL_law_581 (by decide +kernel) ?_
  refine lv_iadd hx hb dL_law_582 ?_
  refine va_sld hx hb hX hbl hbA hS (sin_ok hi (by decide +kernel)) dL_law_583 ?_
  refine lv_topi (fun k2 ek2 => ?_)
  refine lv_aload_n hx hb dL_law_584 rfl (lv_at hl 1 rfl) ?_
  refine lc_stat (n := 4) (As := [.ref (aC 0), .int k1, .int k2, .ref q]) (rest := []) C hP hS hl.1 (NL_put l hfl D cy aC aM q sz0 sa κ σ f H.size k1 k2 hCI) (lb_S wl_84 wl_85 wl_2 wl_86) ⟨by decide, by decide, by decide +kernel⟩ rfl rfl (lv_room (Nat.le_of_ble_eq_true rfl)) ⟨Nat.le_of_ble_eq_true rfl, Nat.le_of_ble_eq_true rfl⟩ ⟨Nat.le_trans (Nat.add_le_add_left (Nat.le_of_ble_eq_true rfl) _) hR.1, Nat.le_trans (Nat.add_le_add_left (Nat.le_of_ble_eq_true rfl) _) hR.2⟩ dL_law_585 (fun r3 u4 H locs hr3 hP hS => ?_)
  obtain ⟨hCI, hr3⟩ := hr3
  have hRE : RE u4.1 σ := RE.of hRE hr3.1 hr3.2.1 hr3.2.2 rfl rfl rfl
  obtain ⟨κ, f⟩ := u4
  dsimp only at hRE hP
  refine lv_istore (lv' := [(5, .int r3), (4, .int i), (3, .ref q), (2, .ref (aM 0)), (1, .ref (aC 0)), (0, .ref b)]) hx hb dL_law_588 hl (by decide) rfl (fun ls hl => ?_)
  refine lv_aload_n hx hb dL_law_590 rfl (lv_at hl 3 rfl) ?_
  refine lv_aload_n hx hb dL_law_591 rfl (lv_at hl 5 rfl) ?_
  refine lv_iload hx hb dL_law_592 (lv_at hl 1 rfl) ?_
  refine lv_iconst (v := 1) hx hb dL_law_594 (by decide +kernel) ?_
  refine lv_iadd hx hb dL_law_595 ?_
  refine va_sld hx hb hX hbl hbA hS (sin_ok hi (by decide +kernel)) dL_law_596 ?_
  refine lv_topi (fun k5 ek5 => ?_)
  obtain rfl : k1 = k5 := ek1.trans ek5.symm
  refine lv_aload_n hx hb dL_law_597 rfl (lv_at hl 5 rfl) ?_
  refine lv_iload hx hb dL_law_598 (lv_at hl 1 rfl) ?_
  refine lv_iconst (v := 2) hx hb dL_law_600 (by decide +kernel) ?_
  refine lv_iadd hx hb dL_law_601 ?_
  refine va_sld hx hb hX hbl hbA hS (sin_ok hi (by decide +kernel)) dL_law_602 ?_
  refine lv_topi (fun k6 ek6 => ?_)
  obtain rfl : k2 = k6 := ek2.trans ek6.symm
  refine lc_ref (n := 2) (As := [.int k1, .int k2]) (rest := []) C hP hS hl.1 (M_put l D cy sz0 sa aM σ H.size k1 k2 ⟨hMI.2.2.2.1.1, hMI.2.2.2.1.2, hMI.2.2.2.2.1, hMI.2.2.2.2.2.1, hMI.2.2.2.2.2.2.1.1, hMI.2.2.2.2.2.2.1.2, hMI.2.2.2.2.2.2.2.1, hMI.2.2.2.2.2.2.2.2.1, hMI.2.2.2.2.2.2.2.2.2.2.2.1, hMI.2.2.2.2.2.2.2.2.2.2.2.2.1⟩) (lb_R wl_87 wl_88 wl_89 wl_90) ⟨rfl, by decide +kernel⟩ rfl rfl (lv_room (Nat.le_of_ble_eq_true rfl)) ⟨Nat.le_of_ble_eq_true rfl, Nat.le_of_ble_eq_true rfl⟩ ⟨Nat.le_trans (by omega) hR.1, Nat.le_trans (by omega) hR.2⟩ dL_law_603 (fun r7 u8 H locs hr7 hP hS => ?_)
  have hMI2 := MI.put hMI k1 k2 r7 u8 hr7
  clear hMI; have hMI := hMI2; clear hMI2
  refine lv_istore (lv' := [(6, .int r7), (5, .int r3), (4, .int i), (3, .ref q), (2, .ref (aM 0)), (1, .ref (aC 0)), (0, .ref b)]) hx hb dL_law_606 hl (by decide) rfl (fun ls hl => ?_)
  refine lv_goto (tgt := 636) hx hb dL_law_608 (by decide) ?_
  refine W.widen (k := cells + 1066) (n := slots + 9840) (by omega) (by omega) ?_
  exact kk _ _ _ H locs ls (lv_sub hl [2, 3, 4, 5, 6] rfl) hCI hMI (RE.of hRE rfl rfl rfl rfl rfl rfl) hP hS
set_option maxHeartbeats 2000000 in
theorem law_c12 {p : Program} {e : Env} {s : State} {m : MethodId} {below : List Frame} {meth : Method} {c : Code} (l : Launch) (hfl : l.stackTraces = false) {b L : Nat} {xs : Nat → Int32} {D : va_G} {cy : Nat → ClassId} {sa : Nat → Nat} {sz0 : Nat} {aC aM : Nat → Nat} {q : Nat} (C : LC p s m #[Value.ref b] meth c code 7 ret D cy sz0 sa lw_big) (hX : va_X b L xs s s.heap) (hbl : b < s.heap.size) (hbA : ¬ Fr sz0 b) {Q : State → Prop} {i : Int32} (hi : 0 ≤ i.toInt ∧ i.toInt + 7 ≤ (L : Int) ∧ L ≤ 3584) {κ : KS} {σ : RS} {f : Nat → Int64} {H : Heap} {locs : List Loc} {ls : Array Slot} {cells slots : Nat} (hCI : CI sa aC κ) (hMI : MI σ) (hRE : RE κ σ) (hP : LW D cy aC aM q (Fr sz0) κ σ f H) (hS : va_S (Fr sz0) s.heap H locs) (hl : lv_has ls 7 [(4, .int i), (3, .ref q), (2, .ref (aM 0)), (1, .ref (aC 0)), (0, .ref b)]) (hR : cells + 1066 ≤ room_1.cells ∧ slots + 9840 ≤ room_1.slots)
    (kk : ∀ (κ : KS) (σ : RS) (f : Nat → Int64) (H : Heap) (locs : List Loc) (ls : Array Slot), lv_has ls 7 [(4, .int i), (3, .ref q), (2, .ref (aM 0)), (1, .ref (aC 0)), (0, .ref b)] → CI sa aC κ → MI σ → RE κ σ → LW D cy aC aM q (Fr sz0) κ σ f H → va_S (Fr sz0) s.heap H locs → W p l e room_1 s m #[Value.ref b] below meth c H locs (cells + 1066) (slots + 9840) Q (F0 m 636 ls [])) : W p l e room_1 s m #[Value.ref b] below meth c H locs cells slots Q (F0 m 611 ls []) := by
  have hx := C.x
  have hb := C.b
  refine lv_aload_n hx hb dL_law_611 rfl (lv_at hl 3 rfl) ?_
  refine lv_aload_n hx hb dL_law_612 rfl (lv_at hl 4 rfl) ?_
  refine lv_iload hx hb dL_law_613 (lv_at hl 0 rfl) ?_
  refine lv_iconst (v := 1) hx hb dL_law_615 (by decide +kernel) ?_
  refine lv_iadd hx hb dL_law_616 ?_
  refine va_sld hx hb hX hbl hbA hS (sin_ok hi (by decide +kernel)) dL_law_617 ?_
  refine lv_topi (fun k1 ek1 => ?_)
  refine lc_class (n := 1) (As := [.int k1]) (rest := []) C hP hS hl.1 (fun A hAF hAn => NX11_about l D cy aC A sz0 sa κ _ _ hAF hAn k1 ) (lb_C wl_91 wl_92 wl_93 wl_94) ⟨rfl, by decide +kernel⟩ rfl rfl (lv_room (Nat.le_of_ble_eq_true rfl)) ⟨Nat.le_of_ble_eq_true rfl, Nat.le_of_ble_eq_true rfl⟩ ⟨Nat.le_trans (Nat.add_le_add_left (Nat.le_of_ble_eq_true rfl) _) hR.1, Nat.le_trans (Nat.add_le_add_left (Nat.le_of_ble_eq_true rfl) _) hR.2⟩ dL_law_618 (fun r2 u3 H locs hr2 hP hS => ?_)
  refine lv_pop hx hb dL_law_621 rfl ?_
  refine lv_aload_n hx hb dL_law_622 rfl (lv_at hl 2 rfl) ?_
  refine lv_aload_n hx hb dL_law_623 rfl (lv_at hl 4 rfl) ?_
  refine lv_iload hx hb dL_law_624 (lv_at hl 0 rfl) ?_
  refine lv_iconst (v := 1) hx hb dL_law_626 (by decide +kernel) ?_
  refine lv_iadd hx hb dL_law_627 ?_
  refine va_sld hx hb hX hbl hbA hS (sin_ok hi (by decide +kernel)) dL_law_628 ?_
  refine lv_topi (fun k4 ek4 => ?_)
  obtain rfl : k1 = k4 := ek1.trans ek4.symm
  refine lc_ref (n := 1) (As := [.int k1]) (rest := []) C hP hS hl.1 (M_about l D cy sz0 sa aM σ H.size k1 trivial) (lb_R wl_95 wl_96 wl_97 wl_98) ⟨rfl, by decide +kernel⟩ rfl rfl (lv_room (Nat.le_of_ble_eq_true rfl)) ⟨Nat.le_of_ble_eq_true rfl, Nat.le_of_ble_eq_true rfl⟩ ⟨Nat.le_trans (by omega) hR.1, Nat.le_trans (by omega) hR.2⟩ dL_law_629 (fun r5 u6 H locs hr5 hP hS => ?_)
  have hMI2 := MI.about hMI k1 r5 u6 hr5
  clear hMI; have hMI := hMI2; clear hMI2
  refine lv_pop hx hb dL_law_632 rfl ?_
  refine lv_goto (tgt := 636) hx hb dL_law_633 (by decide) ?_
  refine W.widen (k := cells + 1066) (n := slots + 9840) (by omega) (by omega) ?_
  exact kk _ _ _ H locs ls (lv_sub hl [0, 1, 2, 3, 4] rfl) hCI hMI (RE.of hRE rfl rfl rfl rfl rfl rfl) hP hS
