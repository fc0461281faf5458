/-! ===== the law's helpers ===== -/
def GWL : List Cond := [.initialized RX11, .classLink RL 13 "java/lang/IllegalArgumentException", .classLink RL 15 "java/lang/IllegalStateException", .methodLink RL 7 yX11_letter, .instanceMethod yX11_letter, .selects RX11 yX11_letter yX11_letter, .code yX11_letter cX11_letter 2 (some .int), .methodLink RL 17 yX11_parse, .instanceMethod yX11_parse, .selects RX11 yX11_parse yX11_parse, .code yX11_parse cX11_parse 2 (some .int), .methodLink RL 21 yX11_type, .instanceMethod yX11_type, .selects RX11 yX11_type yX11_type, .code yX11_type cX11_type 3 (some .int), .methodLink RL 24 yX11_field, .instanceMethod yX11_field, .selects RX11 yX11_field yX11_field, .code yX11_field cX11_field 5 (some .int), .methodLink RL 28 yX11_method, .instanceMethod yX11_method, .selects RX11 yX11_method yX11_method, .code yX11_method cX11_method 8 (some .int), .methodLink RL 32 yX11_make, .instanceMethod yX11_make, .selects RX11 yX11_make yX11_make, .code yX11_make cX11_make 3 (some .int), .methodLink RL 35 yX11_converter, .instanceMethod yX11_converter, .selects RX11 yX11_converter yX11_converter, .code yX11_converter cX11_converter 5 (some .boolean), .methodLink RL 39 yX11_run, .instanceMethod yX11_run, .selects RX11 yX11_run yX11_run, .code yX11_run cX11_run 6 (some .int), .methodLink RL 43 yX11_keep, .instanceMethod yX11_keep, .selects RX11 yX11_keep yX11_keep, .code yX11_keep cX11_keep 2 (some .int), .methodLink RL 46 yX11_put, .instanceMethod yX11_put, .selects RX11 yX11_put yX11_put, .code yX11_put cX11_put 4 (some .int)]
def GWl : List Cond := GWL ++ GWc
theorem GWL_ok : ∀ w ∈ GWL, goodWord w = true := by decide +kernel
theorem gl_w {h w : Cond} (hw : w ∈ GWL) : w ∈ h :: GWl := List.mem_cons_of_mem _ (List.mem_append_left _ hw)
theorem gl_V {h : Cond} {idx n : Nat} {y : MethodName} {b : ByteArray} {r : Option FieldType} (h1 : Cond.methodLink RL idx y ∈ GWL) (h2 : Cond.instanceMethod y ∈ GWL) (h3 : Cond.selects RX11 y y ∈ GWL) (h4 : Cond.code y b n r ∈ GWL) : GoodIn (h :: GWl) (wsV RL idx RX11 y (Cond.code y b n r :: GWc)) := fun w hw => by
  have a : GoodIn (h :: GWl) GWL := fun w hw => ⟨gl_w hw, good_of_word (GWL_ok w hw)⟩
  unfold wsV at hw
  rcases List.mem_append.mp hw with hw | hw
  · simp only [List.mem_cons, List.not_mem_nil, or_false] at hw
    rcases hw with rfl | rfl | rfl | rfl
    · exact a _ h1
    · exact a _ h2
    · exact a _ h3
    · exact a _ (List.mem_of_getElem? (i := 0) rfl)
  rcases List.mem_cons.mp hw with rfl | hw
  · exact a _ h4
  · exact ⟨List.mem_cons_of_mem _ (List.mem_append_right _ hw), good_of_word (GWc_ok w hw)⟩
theorem NL_letter (l : Launch) (hfl : l.stackTraces = false) (D : va_G) (cy : Nat → ClassId) (aC aM : Nat → Nat) (q : Nat) (sz0 : Nat) (sa : Nat → Nat) (κ : KS) (σ : RS) (f : Nat → Int64) (sz : Nat) (k0 : Int32) (hCI : CI sa aC κ) : Met l yL_letter (Cond.codeWith yL_letter cL_letter 4 (some .int) [(0, 9, 12, 13), (0, 9, 15, 15)] :: GWl) ({ frames := 7, cells := 1, slots := 6, locals := 111 }) (PcL D cy aC aM q sz0 sa [.ref (aC 0), .int k0, .ref q] κ σ f sz) (va_Qi (fun (r : Int32) (u : KS × (Nat → Int64)) => CI sa aC u.1 ∧ (((r = 0 ∧ (∃ x : Int32, u.2 0 = x.toInt64 ∧ x.toInt = (u.1.1 6).toInt) ∧ (u.1.1 6).toInt = (κ.1 6).toInt + 1 ∧ (κ.1 6).toInt < 40 ∧ 32 ≤ k0.toInt ∧ k0.toInt ≤ 126 ∧ u.1.2.2.1 9 = upd (κ.2.2.1 9) (κ.1 6).toNatClampNeg k0) ∨ (r = 1 ∧ (k0.toInt < 32 ∨ 126 < k0.toInt) ∧ (u.1.1 6).toInt = (κ.1 6).toInt ∧ u.1.2.2.1 9 = κ.2.2.1 9) ∨ (r = 2 ∧ 32 ≤ k0.toInt ∧ k0.toInt ≤ 126 ∧ 40 ≤ (κ.1 6).toInt ∧ (u.1.1 6).toInt = (κ.1 6).toInt ∧ u.1.2.2.1 9 = κ.2.2.1 9)) ∧ u.1.1 0 = κ.1 0)) (fun (u : KS × (Nat → Int64)) (t : State) => LW D cy aC aM q (Fr sz0) u.1 σ u.2 t.heap) (Fr sz0)) 1 6 (Fr sz0) := by
  refine LM_of (loc0 := [(0, .ref (aC 0)), (1, .int k0), (2, .ref q)]) (by decide) rfl rfl (Nat.le_of_ble_eq_true rfl) ?_
  intro p e s m below meth c ls hsz hex C hP hS hl
  have hx := C.x
  have hb := C.b
  have hlk := C.k
  clear hsz
  refine lv_aload_n hx hb dL_letter_0 rfl (lv_at hl 2 rfl) ?_
  refine lv_iconst (v := 0) hx hb dL_letter_1 (by decide +kernel) ?_
  refine lv_aload_n hx hb dL_letter_2 rfl (lv_at hl 0 rfl) ?_
  refine lv_iload_n hx hb dL_letter_3 rfl (lv_at hl 1 rfl) ?_
  refine lc_classX (n := 1) (As := [.int k0]) (rest := [.int 0, .ref q]) C hP hS hl.1 (fun A hAF hAn => NX11_letter l D cy aC A sz0 sa hfl κ _ _ hAF hAn k0 ⟨hCI.2.2.1, hCI.2.2.2.1⟩) (gl_V (List.mem_of_getElem? (i := 3) rfl) (List.mem_of_getElem? (i := 4) rfl) (List.mem_of_getElem? (i := 5) rfl) (List.mem_of_getElem? (i := 6) rfl)) ⟨rfl, by decide +kernel⟩ rfl rfl (lv_room (Nat.le_of_ble_eq_true rfl)) ⟨Nat.le_of_ble_eq_true rfl, Nat.le_of_ble_eq_true rfl⟩ ⟨Nat.le_of_ble_eq_true rfl, Nat.le_of_ble_eq_true rfl⟩ dL_letter_4 (fun E ce q9 u H locs hx1 hP hS h9 hv9 hc9 => ?_) (fun r u H locs hp hP hS => ?_)
  · have hc : CI sa aC (tI (tA κ 9 u.1) 6 u.2) := hCI.letter hx1.2.1 (by have := hCI.2.2.2.1; have := hx1.2.2.1; omega)
    have hE := hx1.1
    rcases hE with ⟨rfl, hc9c⟩ | ⟨rfl, hc9c⟩
    · refine vx_catch C.o [] _ _ (hex.trans rfl) (fun z hz => absurd hz List.not_mem_nil) (by decide) (by decide) (C.w (.classLink RL 13 "java/lang/IllegalArgumentException") (gl_w (List.mem_of_getElem? (i := 1) rfl))) (va_Nw.use rfl C.en.2.2.2.2.2.1.2.2.2.1) h9 hv9 hc9 ?_
      refine lv_astore_n (lv' := [(3, .ref q9), (0, .ref (aC 0)), (1, .int k0), (2, .ref q)]) hx hb dL_letter_12 rfl hl (by decide) rfl (fun ls hl => ?_)
      refine lv_iconst (v := 1) hx hb dL_letter_13 (by decide +kernel) ?_
      refine W.widen (k := 1) (n := 6) (Nat.le_of_ble_eq_true rfl) (Nat.le_of_ble_eq_true rfl) ?_
      exact W.iret (v := 1) C.x hb C.r (fun t ht hW => ⟨⟨1, ((tI (tA κ 9 u.1) 6 u.2), f), rfl, ⟨hc, ⟨Or.inr (Or.inl ⟨rfl, hc9c, hx1.2.2.1, hx1.2.2.2⟩), rfl⟩⟩, by show LW D cy aC aM q (Fr sz0) _ σ _ t.heap; rw [ht]; exact hP⟩, hS.F ht⟩) hS.2.2 dL_letter_14
    · refine vx_catch C.o [⟨0, 9, 12, 13⟩] ⟨0, 9, 15, 15⟩ [] (hex.trans rfl) (fun z hz => by
        obtain rfl := List.mem_singleton.mp hz
        exact Or.inr ⟨by decide, _, C.w (.classLink RL 13 "java/lang/IllegalArgumentException") (gl_w (List.mem_of_getElem? (i := 1) rfl)), C.en.2.2.2.2.2.2.2⟩) (by decide) (by decide) (C.w (.classLink RL 15 "java/lang/IllegalStateException") (gl_w (List.mem_of_getElem? (i := 2) rfl))) (va_Nw.use rfl C.en.2.2.2.2.2.1.2.2.2.2) h9 hv9 hc9 ?_
      refine lv_astore_n (lv' := [(3, .ref q9), (0, .ref (aC 0)), (1, .int k0), (2, .ref q)]) hx hb dL_letter_15 rfl hl (by decide) rfl (fun ls hl => ?_)
      refine lv_iconst (v := 2) hx hb dL_letter_16 (by decide +kernel) ?_
      refine W.widen (k := 1) (n := 6) (Nat.le_of_ble_eq_true rfl) (Nat.le_of_ble_eq_true rfl) ?_
      exact W.iret (v := 2) C.x hb C.r (fun t ht hW => ⟨⟨2, ((tI (tA κ 9 u.1) 6 u.2), f), rfl, ⟨hc, ⟨Or.inr (Or.inr ⟨rfl, hc9c.1, hc9c.2.1, hc9c.2.2, hx1.2.2.1, hx1.2.2.2⟩), rfl⟩⟩, by show LW D cy aC aM q (Fr sz0) _ σ _ t.heap; rw [ht]; exact hP⟩, hS.F ht⟩) hS.2.2 dL_letter_17
  · have hc : CI sa aC (tI (tA κ 9 u.1) 6 u.2) := hCI.letter hp.1.1 (by have := hCI.2.2.2.1; have := hp.1; omega)
    refine lv_i2l (v := r.toInt64) hx hb dL_letter_7 rfl ?_
    refine lc_last C hP hS dL_letter_8 (fun H locs hP hS => ?_)
    refine lv_goto (tgt := 18) hx hb dL_letter_9 (by decide) ?_
    refine lv_iconst (v := 0) hx hb dL_letter_18 (by decide +kernel) ?_
    refine W.widen (k := 1) (n := 6) (Nat.le_of_ble_eq_true rfl) (Nat.le_of_ble_eq_true rfl) ?_
    exact W.iret (v := 0) hx hb C.r (fun t ht hW => ⟨⟨0, ((tI (tA κ 9 u.1) 6 u.2), vp_updL f 0 r.toInt64), rfl, ⟨hc, ⟨Or.inl ⟨rfl, ⟨r, rfl, hp.1.2.1⟩, hp.1.2.2.1, hp.1.2.2.2.1, hp.1.2.2.2.2.1, hp.1.2.2.2.2.2, hp.2⟩, rfl⟩⟩, by show LW D cy aC aM q (Fr sz0) _ σ _ t.heap; rw [ht]; exact hP⟩, hS.F ht⟩) hS.2.2 dL_letter_19
theorem NL_parse (l : Launch) (hfl : l.stackTraces = false) (D : va_G) (cy : Nat → ClassId) (aC aM : Nat → Nat) (q : Nat) (sz0 : Nat) (sa : Nat → Nat) (κ : KS) (σ : RS) (f : Nat → Int64) (sz : Nat) (hCI : CI sa aC κ) : Met l yL_parse (Cond.codeWith yL_parse cL_parse 3 (some .int) [(0, 8, 11, 15)] :: GWl) ({ frames := 104, cells := 342, slots := 4656, locals := 2888 }) (PcL D cy aC aM q sz0 sa [.ref (aC 0), .ref q] κ σ f sz) (va_Qi (fun (r : Int32) (u : KS × (Nat → Int64)) => CI sa aC u.1 ∧ (((r = 0 ∧ (∃ x : Int32, u.2 0 = x.toInt64 ∧ PAC (tx (κ.2.2.1 9) (κ.1 6)) (κ.1 6).toInt x (κ.1 0) (u.1.1 0)) ∧ (u.1.1 6).toInt = 0 ∧ (κ.1 0).toInt < 40) ∨ (r = 1 ∧ 40 ≤ (κ.1 0).toInt ∧ (u.1.1 6).toInt = (κ.1 6).toInt ∧ (u.1.1 0).toInt = (κ.1 0).toInt)) ∧ u.1.2.2.1 9 = κ.2.2.1 9)) (fun (u : KS × (Nat → Int64)) (t : State) => LW D cy aC aM q (Fr sz0) u.1 σ u.2 t.heap) (Fr sz0)) 342 4656 (Fr sz0) := by
  refine LM_of (loc0 := [(0, .ref (aC 0)), (1, .ref q)]) (by decide) rfl rfl (Nat.le_of_ble_eq_true rfl) ?_
  intro p e s m below meth c ls hsz hex C hP hS hl
  have hx := C.x
  have hb := C.b
  have hlk := C.k
  clear hsz
  refine lv_aload_n hx hb dL_parse_0 rfl (lv_at hl 1 rfl) ?_
  refine lv_iconst (v := 0) hx hb dL_parse_1 (by decide +kernel) ?_
  refine lv_aload_n hx hb dL_parse_2 rfl (lv_at hl 0 rfl) ?_
  refine lc_classX (n := 0) (As := []) (rest := [.int 0, .ref q]) C hP hS hl.1 (fun A hAF hAn => NX11_parse l D cy aC A sz0 sa hfl κ _ _ hAF hAn hCI.1 hCI.2.1 ⟨hCI.2.2.1, hCI.2.2.2.1.1, hCI.2.2.2.1.2, hCI.2.2.2.2.1.1, hCI.2.2.2.2.1.2, hCI.2.2.2.2.2.1.1, hCI.2.2.2.2.2.1.2, hCI.2.2.2.2.2.2.2.2.2⟩) (gl_V (List.mem_of_getElem? (i := 7) rfl) (List.mem_of_getElem? (i := 8) rfl) (List.mem_of_getElem? (i := 9) rfl) (List.mem_of_getElem? (i := 10) rfl)) ⟨rfl, by decide +kernel⟩ rfl rfl (lv_room (Nat.le_of_ble_eq_true rfl)) ⟨Nat.le_of_ble_eq_true rfl, Nat.le_of_ble_eq_true rfl⟩ ⟨Nat.le_of_ble_eq_true rfl, Nat.le_of_ble_eq_true rfl⟩ dL_parse_3 (fun E ce q9 u H locs hx1 hP hS h9 hv9 hc9 => ?_) (fun r u H locs hp hP hS => ?_)
  · have hc : CI sa aC (tI (tQ (tI (tI (tI (tI (tQ (tA (tA (tA (tI (tP κ u.1) 7 u.2.1) 10 u.2.2.1) 11 u.2.2.2.1) 12 u.2.2.2.2.1) 13 u.2.2.2.2.2.1) 3 u.2.2.2.2.2.2.1) 4 u.2.2.2.2.2.2.2.1) 5 u.2.2.2.2.2.2.2.2.1) 6 u.2.2.2.2.2.2.2.2.2.1) 6 u.2.2.2.2.2.2.2.2.2.2.1) 0 u.2.2.2.2.2.2.2.2.2.2.2) := hCI.parse hx1.2.1 hx1.2.2.1 ⟨hx1.2.2.2.2.1, hx1.2.2.2.2.2.1⟩ ⟨hx1.2.2.2.2.2.2.1, hx1.2.2.2.2.2.2.2.1⟩ ⟨hx1.2.2.2.2.2.2.2.2.1, hx1.2.2.2.2.2.2.2.2.2.1⟩ hx1.2.2.2.2.2.2.2.2.2.2.1
    have hE := hx1.2.2.2.1
    rcases hE with ⟨rfl, hc9c⟩ | ⟨rfl, hc9c⟩
    · exact hc9c.elim
    · refine vx_catch C.o [] _ _ (hex.trans rfl) (fun z hz => absurd hz List.not_mem_nil) (by decide) (by decide) (C.w (.classLink RL 15 "java/lang/IllegalStateException") (gl_w (List.mem_of_getElem? (i := 2) rfl))) (va_Nw.use rfl C.en.2.2.2.2.2.1.2.2.2.2) h9 hv9 hc9 ?_
      refine lv_astore_n (lv' := [(2, .ref q9), (0, .ref (aC 0)), (1, .ref q)]) hx hb dL_parse_11 rfl hl (by decide) rfl (fun ls hl => ?_)
      refine lv_iconst (v := 1) hx hb dL_parse_12 (by decide +kernel) ?_
      refine W.widen (k := 342) (n := 4656) (Nat.le_of_ble_eq_true rfl) (Nat.le_of_ble_eq_true rfl) ?_
      exact W.iret (v := 1) C.x hb C.r (fun t ht hW => ⟨⟨1, ((tI (tQ (tI (tI (tI (tI (tQ (tA (tA (tA (tI (tP κ u.1) 7 u.2.1) 10 u.2.2.1) 11 u.2.2.2.1) 12 u.2.2.2.2.1) 13 u.2.2.2.2.2.1) 3 u.2.2.2.2.2.2.1) 4 u.2.2.2.2.2.2.2.1) 5 u.2.2.2.2.2.2.2.2.1) 6 u.2.2.2.2.2.2.2.2.2.1) 6 u.2.2.2.2.2.2.2.2.2.2.1) 0 u.2.2.2.2.2.2.2.2.2.2.2), f), rfl, ⟨hc, ⟨Or.inr ⟨rfl, hc9c, hx1.2.2.2.2.2.2.2.2.2.2.2.1, hx1.2.2.2.2.2.2.2.2.2.2.2.2⟩, rfl⟩⟩, by show LW D cy aC aM q (Fr sz0) _ σ _ t.heap; rw [ht]; exact hP⟩, hS.F ht⟩) hS.2.2 dL_parse_13
  · have hc : CI sa aC (tI (tQ (tI (tI (tI (tI (tQ (tA (tA (tA (tI (tP κ u.1) 7 u.2.1) 10 u.2.2.1) 11 u.2.2.2.1) 12 u.2.2.2.2.1) 13 u.2.2.2.2.2.1) 3 u.2.2.2.2.2.2.1) 4 u.2.2.2.2.2.2.2.1) 5 u.2.2.2.2.2.2.2.2.1) 6 u.2.2.2.2.2.2.2.2.2.1) 6 u.2.2.2.2.2.2.2.2.2.2.1) 0 u.2.2.2.2.2.2.2.2.2.2.2) := hCI.parse hp.1.2.1 hp.1.2.2.1 ⟨hp.1.2.2.2.1, hp.1.2.2.2.2.1⟩ ⟨hp.1.2.2.2.2.2.1, hp.1.2.2.2.2.2.2.1⟩ (by have := hp.1.2.2.2.2.2.2.2.1; omega) hp.1.2.2.2.2.2.2.2.2
    refine lv_i2l (v := r.toInt64) hx hb dL_parse_6 rfl ?_
    refine lc_last C hP hS dL_parse_7 (fun H locs hP hS => ?_)
    refine lv_goto (tgt := 14) hx hb dL_parse_8 (by decide) ?_
    refine lv_iconst (v := 0) hx hb dL_parse_14 (by decide +kernel) ?_
    refine W.widen (k := 342) (n := 4656) (Nat.le_of_ble_eq_true rfl) (Nat.le_of_ble_eq_true rfl) ?_
    exact W.iret (v := 0) hx hb C.r (fun t ht hW => ⟨⟨0, ((tI (tQ (tI (tI (tI (tI (tQ (tA (tA (tA (tI (tP κ u.1) 7 u.2.1) 10 u.2.2.1) 11 u.2.2.2.1) 12 u.2.2.2.2.1) 13 u.2.2.2.2.2.1) 3 u.2.2.2.2.2.2.1) 4 u.2.2.2.2.2.2.2.1) 5 u.2.2.2.2.2.2.2.2.1) 6 u.2.2.2.2.2.2.2.2.2.1) 6 u.2.2.2.2.2.2.2.2.2.2.1) 0 u.2.2.2.2.2.2.2.2.2.2.2), vp_updL f 0 r.toInt64), rfl, ⟨hc, ⟨Or.inl ⟨rfl, ⟨r, rfl, hp.2.2⟩, hp.1.2.2.2.2.2.2.2.1, hp.2.1⟩, rfl⟩⟩, by show LW D cy aC aM q (Fr sz0) _ σ _ t.heap; rw [ht]; exact hP⟩, hS.F ht⟩) hS.2.2 dL_parse_15
theorem NL_type (l : Launch) (hfl : l.stackTraces = false) (D : va_G) (cy : Nat → ClassId) (aC aM : Nat → Nat) (q : Nat) (sz0 : Nat) (sa : Nat → Nat) (κ : KS) (σ : RS) (f : Nat → Int64) (sz : Nat) (k0 : Int32) (hCI : CI sa aC κ) : Met l yL_type (Cond.codeWith yL_type cL_type 4 (some .int) [(0, 9, 12, 13), (0, 9, 15, 15)] :: GWl) ({ frames := 7, cells := 3, slots := 19, locals := 112 }) (PcL D cy aC aM q sz0 sa [.ref (aC 0), .int k0, .ref q] κ σ f sz) (va_Qi (fun (r : Int32) (u : KS × (Nat → Int64)) => CI sa aC u.1 ∧ (u.1.1 6 = κ.1 6 ∧ u.1.2.2.1 9 = κ.2.2.1 9 ∧ u.1.1 0 = κ.1 0)) (fun (u : KS × (Nat → Int64)) (t : State) => LW D cy aC aM q (Fr sz0) u.1 σ u.2 t.heap) (Fr sz0)) 3 19 (Fr sz0) := by
  refine LM_of (loc0 := [(0, .ref (aC 0)), (1, .int k0), (2, .ref q)]) (by decide) rfl rfl (Nat.le_of_ble_eq_true rfl) ?_
  intro p e s m below meth c ls hsz hex C hP hS hl
  have hx := C.x
  have hb := C.b
  have hlk := C.k
  clear hsz
  refine lv_aload_n hx hb dL_type_0 rfl (lv_at hl 2 rfl) ?_
  refine lv_iconst (v := 0) hx hb dL_type_1 (by decide +kernel) ?_
  refine lv_aload_n hx hb dL_type_2 rfl (lv_at hl 0 rfl) ?_
  refine lv_iload_n hx hb dL_type_3 rfl (lv_at hl 1 rfl) ?_
  refine lc_classX (n := 1) (As := [.int k0]) (rest := [.int 0, .ref q]) C hP hS hl.1 (fun A hAF hAn => NX11_type l D cy aC A sz0 sa hfl κ _ _ hAF hAn k0 hCI.1 hCI.2.1 hCI.2.2.2.2.2.2.1) (gl_V (List.mem_of_getElem? (i := 11) rfl) (List.mem_of_getElem? (i := 12) rfl) (List.mem_of_getElem? (i := 13) rfl) (List.mem_of_getElem? (i := 14) rfl)) ⟨rfl, by decide +kernel⟩ rfl rfl (lv_room (Nat.le_of_ble_eq_true rfl)) ⟨Nat.le_of_ble_eq_true rfl, Nat.le_of_ble_eq_true rfl⟩ ⟨Nat.le_of_ble_eq_true rfl, Nat.le_of_ble_eq_true rfl⟩ dL_type_4 (fun E ce q9 u H locs hx1 hP hS h9 hv9 hc9 => ?_) (fun r u H locs hp hP hS => ?_)
  · have hc : CI sa aC (tI (tQ (tP κ u.1) 7 u.2.1) 1 u.2.2) := hCI.type hx1.1 hx1.2.1 hx1.2.2.1 (by have := hCI.2.2.2.2.2.2.1; have := hx1.2.2.2.2.1; omega)
    have hE := hx1.2.2.2.1
    rcases hE with ⟨rfl, hc9c⟩ | ⟨rfl, hc9c⟩
    · refine vx_catch C.o [] _ _ (hex.trans rfl) (fun z hz => absurd hz List.not_mem_nil) (by decide) (by decide) (C.w (.classLink RL 13 "java/lang/IllegalArgumentException") (gl_w (List.mem_of_getElem? (i := 1) rfl))) (va_Nw.use rfl C.en.2.2.2.2.2.1.2.2.2.1) h9 hv9 hc9 ?_
      refine lv_astore_n (lv' := [(3, .ref q9), (0, .ref (aC 0)), (1, .int k0), (2, .ref q)]) hx hb dL_type_12 rfl hl (by decide) rfl (fun ls hl => ?_)
      refine lv_iconst (v := 1) hx hb dL_type_13 (by decide +kernel) ?_
      refine W.widen (k := 3) (n := 19) (Nat.le_of_ble_eq_true rfl) (Nat.le_of_ble_eq_true rfl) ?_
      exact W.iret (v := 1) C.x hb C.r (fun t ht hW => ⟨⟨1, ((tI (tQ (tP κ u.1) 7 u.2.1) 1 u.2.2), f), rfl, ⟨hc, ⟨rfl, rfl, rfl⟩⟩, by show LW D cy aC aM q (Fr sz0) _ σ _ t.heap; rw [ht]; exact hP⟩, hS.F ht⟩) hS.2.2 dL_type_14
    · refine vx_catch C.o [⟨0, 9, 12, 13⟩] ⟨0, 9, 15, 15⟩ [] (hex.trans rfl) (fun z hz => by
        obtain rfl := List.mem_singleton.mp hz
        exact Or.inr ⟨by decide, _, C.w (.classLink RL 13 "java/lang/IllegalArgumentException") (gl_w (List.mem_of_getElem? (i := 1) rfl)), C.en.2.2.2.2.2.2.2⟩) (by decide) (by decide) (C.w (.classLink RL 15 "java/lang/IllegalStateException") (gl_w (List.mem_of_getElem? (i := 2) rfl))) (va_Nw.use rfl C.en.2.2.2.2.2.1.2.2.2.2) h9 hv9 hc9 ?_
      refine lv_astore_n (lv' := [(3, .ref q9), (0, .ref (aC 0)), (1, .int k0), (2, .ref q)]) hx hb dL_type_15 rfl hl (by decide) rfl (fun ls hl => ?_)
      refine lv_iconst (v := 2) hx hb dL_type_16 (by decide +kernel) ?_
      refine W.widen (k := 3) (n := 19) (Nat.le_of_ble_eq_true rfl) (Nat.le_of_ble_eq_true rfl) ?_
      exact W.iret (v := 2) C.x hb C.r (fun t ht hW => ⟨⟨2, ((tI (tQ (tP κ u.1) 7 u.2.1) 1 u.2.2), f), rfl, ⟨hc, ⟨rfl, rfl, rfl⟩⟩, by show LW D cy aC aM q (Fr sz0) _ σ _ t.heap; rw [ht]; exact hP⟩, hS.F ht⟩) hS.2.2 dL_type_17
  · have hc : CI sa aC (tI (tQ (tP κ u.1) 7 u.2.1) 1 u.2.2) := hCI.type hp.1 hp.2.1 hp.2.2.1 (by have := hCI.2.2.2.2.2.2.1; have := hp.2.2.2.1; omega)
    refine lv_i2l (v := r.toInt64) hx hb dL_type_7 rfl ?_
    refine lc_last C hP hS dL_type_8 (fun H locs hP hS => ?_)
    refine lv_goto (tgt := 18) hx hb dL_type_9 (by decide) ?_
    refine lv_iconst (v := 0) hx hb dL_type_18 (by decide +kernel) ?_
    refine W.widen (k := 3) (n := 19) (Nat.le_of_ble_eq_true rfl) (Nat.le_of_ble_eq_true rfl) ?_
    exact W.iret (v := 0) hx hb C.r (fun t ht hW => ⟨⟨0, ((tI (tQ (tP κ u.1) 7 u.2.1) 1 u.2.2), vp_updL f 0 r.toInt64), rfl, ⟨hc, ⟨rfl, rfl, rfl⟩⟩, by show LW D cy aC aM q (Fr sz0) _ σ _ t.heap; rw [ht]; exact hP⟩, hS.F ht⟩) hS.2.2 dL_type_19
theorem NL_field (l : Launch) (hfl : l.stackTraces = false) (D : va_G) (cy : Nat → ClassId) (aC aM : Nat → Nat) (q : Nat) (sz0 : Nat) (sa : Nat → Nat) (κ : KS) (σ : RS) (f : Nat → Int64) (sz : Nat) (k0 : Int32) (k1 : Int32) (k2 : Int32) (hCI : CI sa aC κ) : Met l yL_field (Cond.codeWith yL_field cL_field 6 (some .int) [(0, 12, 15, 13), (0, 12, 19, 15)] :: GWl) ({ frames := 7, cells := 1, slots := 6, locals := 114 }) (PcL D cy aC aM q sz0 sa [.ref (aC 0), .int k0, .int k1, .int k2, .ref q] κ σ f sz) (va_Qi (fun (r : Int32) (u : KS × (Nat → Int64)) => CI sa aC u.1 ∧ (u.1.1 6 = κ.1 6 ∧ u.1.2.2.1 9 = κ.2.2.1 9 ∧ u.1.1 0 = κ.1 0)) (fun (u : KS × (Nat → Int64)) (t : State) => LW D cy aC aM q (Fr sz0) u.1 σ u.2 t.heap) (Fr sz0)) 1 6 (Fr sz0) := by
  refine LM_of (loc0 := [(0, .ref (aC 0)), (1, .int k0), (2, .int k1), (3, .int k2), (4, .ref q)]) (by decide) rfl rfl (Nat.le_of_ble_eq_true rfl) ?_
  intro p e s m below meth c ls hsz hex C hP hS hl
  have hx := C.x
  have hb := C.b
  have hlk := C.k
  clear hsz
  refine lv_aload hx hb dL_field_0 (lv_at hl 4 rfl) ?_
  refine lv_iconst (v := 0) hx hb dL_field_2 (by decide +kernel) ?_
  refine lv_aload_n hx hb dL_field_3 rfl (lv_at hl 0 rfl) ?_
  refine lv_iload_n hx hb dL_field_4 rfl (lv_at hl 1 rfl) ?_
  refine lv_iload_n hx hb dL_field_5 rfl (lv_at hl 2 rfl) ?_
  refine lv_iload_n hx hb dL_field_6 rfl (lv_at hl 3 rfl) ?_
  refine lc_classX (n := 3) (As := [.int k0, .int k1, .int k2]) (rest := [.int 0, .ref q]) C hP hS hl.1 (fun A hAF hAn => NX11_field l D cy aC A sz0 sa hfl κ _ _ hAF hAn k0 k1 k2 hCI.1 hCI.2.1 hCI.2.2.2.2.2.2.1) (gl_V (List.mem_of_getElem? (i := 15) rfl) (List.mem_of_getElem? (i := 16) rfl) (List.mem_of_getElem? (i := 17) rfl) (List.mem_of_getElem? (i := 18) rfl)) ⟨rfl, by decide +kernel⟩ rfl rfl (lv_room (Nat.le_of_ble_eq_true rfl)) ⟨Nat.le_of_ble_eq_true rfl, Nat.le_of_ble_eq_true rfl⟩ ⟨Nat.le_of_ble_eq_true rfl, Nat.le_of_ble_eq_true rfl⟩ dL_field_7 (fun E ce q9 u H locs hx1 hP hS h9 hv9 hc9 => ?_) (fun r u H locs hp hP hS => ?_)
  · have hc : CI sa aC (tP κ u) := hCI.field hx1.1 hx1.2.1 hx1.2.2.1
    have hE := hx1.2.2.2.1
    rcases hE with ⟨rfl, hc9c⟩ | ⟨rfl, hc9c⟩
    · refine vx_catch C.o [] _ _ (hex.trans rfl) (fun z hz => absurd hz List.not_mem_nil) (by decide) (by decide) (C.w (.classLink RL 13 "java/lang/IllegalArgumentException") (gl_w (List.mem_of_getElem? (i := 1) rfl))) (va_Nw.use rfl C.en.2.2.2.2.2.1.2.2.2.1) h9 hv9 hc9 ?_
      refine lv_astore (lv' := [(5, .ref q9), (0, .ref (aC 0)), (1, .int k0), (2, .int k1), (3, .int k2), (4, .ref q)]) hx hb dL_field_15 hl (by decide) rfl (fun ls hl => ?_)
      refine lv_iconst (v := 1) hx hb dL_field_17 (by decide +kernel) ?_
      refine W.widen (k := 1) (n := 6) (Nat.le_of_ble_eq_true rfl) (Nat.le_of_ble_eq_true rfl) ?_
      exact W.iret (v := 1) C.x hb C.r (fun t ht hW => ⟨⟨1, ((tP κ u), f), rfl, ⟨hc, ⟨rfl, rfl, rfl⟩⟩, by show LW D cy aC aM q (Fr sz0) _ σ _ t.heap; rw [ht]; exact hP⟩, hS.F ht⟩) hS.2.2 dL_field_18
    · refine vx_catch C.o [⟨0, 12, 15, 13⟩] ⟨0, 12, 19, 15⟩ [] (hex.trans rfl) (fun z hz => by
        obtain rfl := List.mem_singleton.mp hz
        exact Or.inr ⟨by decide, _, C.w (.classLink RL 13 "java/lang/IllegalArgumentException") (gl_w (List.mem_of_getElem? (i := 1) rfl)), C.en.2.2.2.2.2.2.2⟩) (by decide) (by decide) (C.w (.classLink RL 15 "java/lang/IllegalStateException") (gl_w (List.mem_of_getElem? (i := 2) rfl))) (va_Nw.use rfl C.en.2.2.2.2.2.1.2.2.2.2) h9 hv9 hc9 ?_
      refine lv_astore (lv' := [(5, .ref q9), (0, .ref (aC 0)), (1, .int k0), (2, .int k1), (3, .int k2), (4, .ref q)]) hx hb dL_field_19 hl (by decide) rfl (fun ls hl => ?_)
      refine lv_iconst (v := 2) hx hb dL_field_21 (by decide +kernel) ?_
      refine W.widen (k := 1) (n := 6) (Nat.le_of_ble_eq_true rfl) (Nat.le_of_ble_eq_true rfl) ?_
      exact W.iret (v := 2) C.x hb C.r (fun t ht hW => ⟨⟨2, ((tP κ u), f), rfl, ⟨hc, ⟨rfl, rfl, rfl⟩⟩, by show LW D cy aC aM q (Fr sz0) _ σ _ t.heap; rw [ht]; exact hP⟩, hS.F ht⟩) hS.2.2 dL_field_22
  · have hc : CI sa aC (tP κ u) := hCI.field hp.1 hp.2.1 hp.2.2.1
    refine lv_i2l (v := r.toInt64) hx hb dL_field_10 rfl ?_
    refine lc_last C hP hS dL_field_11 (fun H locs hP hS => ?_)
    refine lv_goto (tgt := 23) hx hb dL_field_12 (by decide) ?_
    refine lv_iconst (v := 0) hx hb dL_field_23 (by decide +kernel) ?_
    refine W.widen (k := 1) (n := 6) (Nat.le_of_ble_eq_true rfl) (Nat.le_of_ble_eq_true rfl) ?_
    exact W.iret (v := 0) hx hb C.r (fun t ht hW => ⟨⟨0, ((tP κ u), vp_updL f 0 r.toInt64), rfl, ⟨hc, ⟨rfl, rfl, rfl⟩⟩, by show LW D cy aC aM q (Fr sz0) _ σ _ t.heap; rw [ht]; exact hP⟩, hS.F ht⟩) hS.2.2 dL_field_24
theorem NL_method (l : Launch) (hfl : l.stackTraces = false) (D : va_G) (cy : Nat → ClassId) (aC aM : Nat → Nat) (q : Nat) (sz0 : Nat) (sa : Nat → Nat) (κ : KS) (σ : RS) (f : Nat → Int64) (sz : Nat) (k0 : Int32) (k1 : Int32) (k2 : Int32) (k3 : Int32) (k4 : Int32) (k5 : Int32) (hCI : CI sa aC κ) : Met l yL_method (Cond.codeWith yL_method cL_method 9 (some .int) [(0, 18, 21, 13), (0, 18, 25, 15)] :: GWl) ({ frames := 7, cells := 1, slots := 6, locals := 117 }) (PcL D cy aC aM q sz0 sa [.ref (aC 0), .int k0, .int k1, .int k2, .int k3, .int k4, .int k5, .ref q] κ σ f sz) (va_Qi (fun (r : Int32) (u : KS × (Nat → Int64)) => CI sa aC u.1 ∧ (u.1.1 6 = κ.1 6 ∧ u.1.2.2.1 9 = κ.2.2.1 9 ∧ u.1.1 0 = κ.1 0)) (fun (u : KS × (Nat → Int64)) (t : State) => LW D cy aC aM q (Fr sz0) u.1 σ u.2 t.heap) (Fr sz0)) 1 6 (Fr sz0) := by
  refine LM_of (loc0 := [(0, .ref (aC 0)), (1, .int k0), (2, .int k1), (3, .int k2), (4, .int k3), (5, .int k4), (6, .int k5), (7, .ref q)]) (by decide) rfl rfl (Nat.le_of_ble_eq_true rfl) ?_
  intro p e s m below meth c ls hsz hex C hP hS hl
  have hx := C.x
  have hb := C.b
  have hlk := C.k
  clear hsz
  refine lv_aload hx hb dL_method_0 (lv_at hl 7 rfl) ?_
  refine lv_iconst (v := 0) hx hb dL_method_2 (by decide +kernel) ?_
  refine lv_aload_n hx hb dL_method_3 rfl (lv_at hl 0 rfl) ?_
  refine lv_iload_n hx hb dL_method_4 rfl (lv_at hl 1 rfl) ?_
  refine lv_iload_n hx hb dL_method_5 rfl (lv_at hl 2 rfl) ?_
  refine lv_iload_n hx hb dL_method_6 rfl (lv_at hl 3 rfl) ?_
  refine lv_iload hx hb dL_method_7 (lv_at hl 4 rfl) ?_
  refine lv_iload hx hb dL_method_9 (lv_at hl 5 rfl) ?_
  refine lv_iload hx hb dL_method_11 (lv_at hl 6 rfl) ?_
  refine lc_classX (n := 6) (As := [.int k0, .int k1, .int k2, .int k3, .int k4, .int k5]) (rest := [.int 0, .ref q]) C hP hS hl.1 (fun A hAF hAn => NX11_method l D cy aC A sz0 sa hfl κ _ _ hAF hAn k0 k1 k2 k3 k4 k5 hCI.1 hCI.2.1 hCI.2.2.2.2.2.2.1) (gl_V (List.mem_of_getElem? (i := 19) rfl) (List.mem_of_getElem? (i := 20) rfl) (List.mem_of_getElem? (i := 21) rfl) (List.mem_of_getElem? (i := 22) rfl)) ⟨rfl, by decide +kernel⟩ rfl rfl (lv_room (Nat.le_of_ble_eq_true rfl)) ⟨Nat.le_of_ble_eq_true rfl, Nat.le_of_ble_eq_true rfl⟩ ⟨Nat.le_of_ble_eq_true rfl, Nat.le_of_ble_eq_true rfl⟩ dL_method_13 (fun E ce q9 u H locs hx1 hP hS h9 hv9 hc9 => ?_) (fun r u H locs hp hP hS => ?_)
  · have hc : CI sa aC (tP κ u) := hCI.field hx1.1 hx1.2.1 hx1.2.2.1
    have hE := hx1.2.2.2.1
    rcases hE with ⟨rfl, hc9c⟩ | ⟨rfl, hc9c⟩
    · refine vx_catch C.o [] _ _ (hex.trans rfl) (fun z hz => absurd hz List.not_mem_nil) (by decide) (by decide) (C.w (.classLink RL 13 "java/lang/IllegalArgumentException") (gl_w (List.mem_of_getElem? (i := 1) rfl))) (va_Nw.use rfl C.en.2.2.2.2.2.1.2.2.2.1) h9 hv9 hc9 ?_
      refine lv_astore (lv' := [(8, .ref q9), (0, .ref (aC 0)), (1, .int k0), (2, .int k1), (3, .int k2), (4, .int k3), (5, .int k4), (6, .int k5), (7, .ref q)]) hx hb dL_method_21 hl (by decide) rfl (fun ls hl => ?_)
      refine lv_iconst (v := 1) hx hb dL_method_23 (by decide +kernel) ?_
      refine W.widen (k := 1) (n := 6) (Nat.le_of_ble_eq_true rfl) (Nat.le_of_ble_eq_true rfl) ?_
      exact W.iret (v := 1) C.x hb C.r (fun t ht hW => ⟨⟨1, ((tP κ u), f), rfl, ⟨hc, ⟨rfl, rfl, rfl⟩⟩, by show LW D cy aC aM q (Fr sz0) _ σ _ t.heap; rw [ht]; exact hP⟩, hS.F ht⟩) hS.2.2 dL_method_24
    · refine vx_catch C.o [⟨0, 18, 21, 13⟩] ⟨0, 18, 25, 15⟩ [] (hex.trans rfl) (fun z hz => by
        obtain rfl := List.mem_singleton.mp hz
        exact Or.inr ⟨by decide, _, C.w (.classLink RL 13 "java/lang/IllegalArgumentException") (gl_w (List.mem_of_getElem? (i := 1) rfl)), C.en.2.2.2.2.2.2.2⟩) (by decide) (by decide) (C.w (.classLink RL 15 "java/lang/IllegalStateException") (gl_w (List.mem_of_getElem? (i := 2) rfl))) (va_Nw.use rfl C.en.2.2.2.2.2.1.2.2.2.2) h9 hv9 hc9 ?_
      refine lv_astore (lv' := [(8, .ref q9), (0, .ref (aC 0)), (1, .int k0), (2, .int k1), (3, .int k2), (4, .int k3), (5, .int k4), (6, .int k5), (7, .ref q)]) hx hb dL_method_25 hl (by decide) rfl (fun ls hl => ?_)
      refine lv_iconst (v := 2) hx hb dL_method_27 (by decide +kernel) ?_
      refine W.widen (k := 1) (n := 6) (Nat.le_of_ble_eq_true rfl) (Nat.le_of_ble_eq_true rfl) ?_
      exact W.iret (v := 2) C.x hb C.r (fun t ht hW => ⟨⟨2, ((tP κ u), f), rfl, ⟨hc, ⟨rfl, rfl, rfl⟩⟩, by show LW D cy aC aM q (Fr sz0) _ σ _ t.heap; rw [ht]; exact hP⟩, hS.F ht⟩) hS.2.2 dL_method_28
  · have hc : CI sa aC (tP κ u) := hCI.field hp.1 hp.2.1 hp.2.2.1
    refine lv_i2l (v := r.toInt64) hx hb dL_method_16 rfl ?_
    refine lc_last C hP hS dL_method_17 (fun H locs hP hS => ?_)
    refine lv_goto (tgt := 29) hx hb dL_method_18 (by decide) ?_
    refine lv_iconst (v := 0) hx hb dL_method_29 (by decide +kernel) ?_
    refine W.widen (k := 1) (n := 6) (Nat.le_of_ble_eq_true rfl) (Nat.le_of_ble_eq_true rfl) ?_
    exact W.iret (v := 0) hx hb C.r (fun t ht hW => ⟨⟨0, ((tP κ u), vp_updL f 0 r.toInt64), rfl, ⟨hc, ⟨rfl, rfl, rfl⟩⟩, by show LW D cy aC aM q (Fr sz0) _ σ _ t.heap; rw [ht]; exact hP⟩, hS.F ht⟩) hS.2.2 dL_method_30
theorem NL_make (l : Launch) (hfl : l.stackTraces = false) (D : va_G) (cy : Nat → ClassId) (aC aM : Nat → Nat) (q : Nat) (sz0 : Nat) (sa : Nat → Nat) (κ : KS) (σ : RS) (f : Nat → Int64) (sz : Nat) (k0 : Int32) (hCI : CI sa aC κ) : Met l yL_make (Cond.codeWith yL_make cL_make 4 (some .int) [(0, 9, 12, 13), (0, 9, 15, 15)] :: GWl) ({ frames := 7, cells := 3, slots := 38, locals := 112 }) (PcL D cy aC aM q sz0 sa [.ref (aC 0), .int k0, .ref q] κ σ f sz) (va_Qi (fun (r : Int32) (u : KS × (Nat → Int64)) => CI sa aC u.1 ∧ (u.1.1 6 = κ.1 6 ∧ u.1.2.2.1 9 = κ.2.2.1 9 ∧ u.1.1 0 = κ.1 0)) (fun (u : KS × (Nat → Int64)) (t : State) => LW D cy aC aM q (Fr sz0) u.1 σ u.2 t.heap) (Fr sz0)) 3 38 (Fr sz0) := by
  refine LM_of (loc0 := [(0, .ref (aC 0)), (1, .int k0), (2, .ref q)]) (by decide) rfl rfl (Nat.le_of_ble_eq_true rfl) ?_
  intro p e s m below meth c ls hsz hex C hP hS hl
  have hx := C.x
  have hb := C.b
  have hlk := C.k
  clear hsz
  refine lv_aload_n hx hb dL_make_0 rfl (lv_at hl 2 rfl) ?_
  refine lv_iconst (v := 0) hx hb dL_make_1 (by decide +kernel) ?_
  refine lv_aload_n hx hb dL_make_2 rfl (lv_at hl 0 rfl) ?_
  refine lv_iload_n hx hb dL_make_3 rfl (lv_at hl 1 rfl) ?_
  refine lc_classX (n := 1) (As := [.int k0]) (rest := [.int 0, .ref q]) C hP hS hl.1 (fun A hAF hAn => NX11_make l D cy aC A sz0 sa hfl κ _ _ hAF hAn k0 hCI.1 hCI.2.1 ⟨hCI.2.2.2.2.2.2.1.1, hCI.2.2.2.2.2.2.1.2, hCI.2.2.2.2.2.2.2.1⟩) (gl_V (List.mem_of_getElem? (i := 23) rfl) (List.mem_of_getElem? (i := 24) rfl) (List.mem_of_getElem? (i := 25) rfl) (List.mem_of_getElem? (i := 26) rfl)) ⟨rfl, by decide +kernel⟩ rfl rfl (lv_room (Nat.le_of_ble_eq_true rfl)) ⟨Nat.le_of_ble_eq_true rfl, Nat.le_of_ble_eq_true rfl⟩ ⟨Nat.le_of_ble_eq_true rfl, Nat.le_of_ble_eq_true rfl⟩ dL_make_4 (fun E ce q9 u H locs hx1 hP hS h9 hv9 hc9 => ?_) (fun r u H locs hp hP hS => ?_)
  · have hc : CI sa aC (tI (tQ (tP κ u.1) 8 u.2.1) 2 u.2.2) := hCI.make hx1.1 hx1.2.1 hx1.2.2.1 (by have := hCI.2.2.2.2.2.2.2.1; have := hx1.2.2.2.2; omega)
    have hE := hx1.2.2.2.1
    rcases hE with ⟨rfl, hc9c⟩ | ⟨rfl, hc9c⟩
    · refine vx_catch C.o [] _ _ (hex.trans rfl) (fun z hz => absurd hz List.not_mem_nil) (by decide) (by decide) (C.w (.classLink RL 13 "java/lang/IllegalArgumentException") (gl_w (List.mem_of_getElem? (i := 1) rfl))) (va_Nw.use rfl C.en.2.2.2.2.2.1.2.2.2.1) h9 hv9 hc9 ?_
      refine lv_astore_n (lv' := [(3, .ref q9), (0, .ref (aC 0)), (1, .int k0), (2, .ref q)]) hx hb dL_make_12 rfl hl (by decide) rfl (fun ls hl => ?_)
      refine lv_iconst (v := 1) hx hb dL_make_13 (by decide +kernel) ?_
      refine W.widen (k := 3) (n := 38) (Nat.le_of_ble_eq_true rfl) (Nat.le_of_ble_eq_true rfl) ?_
      exact W.iret (v := 1) C.x hb C.r (fun t ht hW => ⟨⟨1, ((tI (tQ (tP κ u.1) 8 u.2.1) 2 u.2.2), f), rfl, ⟨hc, ⟨rfl, rfl, rfl⟩⟩, by show LW D cy aC aM q (Fr sz0) _ σ _ t.heap; rw [ht]; exact hP⟩, hS.F ht⟩) hS.2.2 dL_make_14
    · refine vx_catch C.o [⟨0, 9, 12, 13⟩] ⟨0, 9, 15, 15⟩ [] (hex.trans rfl) (fun z hz => by
        obtain rfl := List.mem_singleton.mp hz
        exact Or.inr ⟨by decide, _, C.w (.classLink RL 13 "java/lang/IllegalArgumentException") (gl_w (List.mem_of_getElem? (i := 1) rfl)), C.en.2.2.2.2.2.2.2⟩) (by decide) (by decide) (C.w (.classLink RL 15 "java/lang/IllegalStateException") (gl_w (List.mem_of_getElem? (i := 2) rfl))) (va_Nw.use rfl C.en.2.2.2.2.2.1.2.2.2.2) h9 hv9 hc9 ?_
      refine lv_astore_n (lv' := [(3, .ref q9), (0, .ref (aC 0)), (1, .int k0), (2, .ref q)]) hx hb dL_make_15 rfl hl (by decide) rfl (fun ls hl => ?_)
      refine lv_iconst (v := 2) hx hb dL_make_16 (by decide +kernel) ?_
      refine W.widen (k := 3) (n := 38) (Nat.le_of_ble_eq_true rfl) (Nat.le_of_ble_eq_true rfl) ?_
      exact W.iret (v := 2) C.x hb C.r (fun t ht hW => ⟨⟨2, ((tI (tQ (tP κ u.1) 8 u.2.1) 2 u.2.2), f), rfl, ⟨hc, ⟨rfl, rfl, rfl⟩⟩, by show LW D cy aC aM q (Fr sz0) _ σ _ t.heap; rw [ht]; exact hP⟩, hS.F ht⟩) hS.2.2 dL_make_17
  · have hc : CI sa aC (tI (tQ (tP κ u.1) 8 u.2.1) 2 u.2.2) := hCI.make hp.1 hp.2.1 hp.2.2.1 (by have := hCI.2.2.2.2.2.2.2.1; have := hp.2.2.2; omega)
    refine lv_i2l (v := r.toInt64) hx hb dL_make_7 rfl ?_
    refine lc_last C hP hS dL_make_8 (fun H locs hP hS => ?_)
    refine lv_goto (tgt := 18) hx hb dL_make_9 (by decide) ?_
    refine lv_iconst (v := 0) hx hb dL_make_18 (by decide +kernel) ?_
    refine W.widen (k := 3) (n := 38) (Nat.le_of_ble_eq_true rfl) (Nat.le_of_ble_eq_true rfl) ?_
    exact W.iret (v := 0) hx hb C.r (fun t ht hW => ⟨⟨0, ((tI (tQ (tP κ u.1) 8 u.2.1) 2 u.2.2), vp_updL f 0 r.toInt64), rfl, ⟨hc, ⟨rfl, rfl, rfl⟩⟩, by show LW D cy aC aM q (Fr sz0) _ σ _ t.heap; rw [ht]; exact hP⟩, hS.F ht⟩) hS.2.2 dL_make_19
theorem NL_converter (l : Launch) (hfl : l.stackTraces = false) (D : va_G) (cy : Nat → ClassId) (aC aM : Nat → Nat) (q : Nat) (sz0 : Nat) (sa : Nat → Nat) (κ : KS) (σ : RS) (f : Nat → Int64) (sz : Nat) (k0 : Int32) (k1 : Int32) (k2 : Int32) (hCI : CI sa aC κ) (hk2 : 0 ≤ k2.toInt ∧ k2.toInt ≤ 1) : Met l yL_converter (Cond.codeWith yL_converter cL_converter 6 (some .int) [(0, 19, 22, 13)] :: GWl) ({ frames := 7, cells := 1, slots := 6, locals := 114 }) (PcL D cy aC aM q sz0 sa [.ref (aC 0), .int k0, .int k1, .int k2, .ref q] κ σ f sz) (va_Qi (fun (r : Int32) (u : KS × (Nat → Int64)) => CI sa aC u.1 ∧ (u.1.1 6 = κ.1 6 ∧ u.1.2.2.1 9 = κ.2.2.1 9 ∧ u.1.1 0 = κ.1 0)) (fun (u : KS × (Nat → Int64)) (t : State) => LW D cy aC aM q (Fr sz0) u.1 σ u.2 t.heap) (Fr sz0)) 1 6 (Fr sz0) := by
  refine LM_of (loc0 := [(0, .ref (aC 0)), (1, .int k0), (2, .int k1), (3, .int k2), (4, .ref q)]) (by decide) rfl rfl (Nat.le_of_ble_eq_true rfl) ?_
  intro p e s m below meth c ls hsz hex C hP hS hl
  have hx := C.x
  have hb := C.b
  have hlk := C.k
  clear hsz
  refine lv_aload hx hb dL_converter_0 (lv_at hl 4 rfl) ?_
  refine lv_iconst (v := 0) hx hb dL_converter_2 (by decide +kernel) ?_
  refine lv_aload_n hx hb dL_converter_3 rfl (lv_at hl 0 rfl) ?_
  refine lv_iload_n hx hb dL_converter_4 rfl (lv_at hl 1 rfl) ?_
  refine lv_iload_n hx hb dL_converter_5 rfl (lv_at hl 2 rfl) ?_
  refine lv_iload_n hx hb dL_converter_6 rfl (lv_at hl 3 rfl) ?_
  refine lc_classX (n := 3) (As := [.int k0, .int k1, .int k2]) (rest := [.int 0, .ref q]) C hP hS hl.1 (fun A hAF hAn => NX11_converter l D cy aC A sz0 sa hfl κ _ _ hAF hAn k0 k1 k2 hCI.1 hk2) (gl_V (List.mem_of_getElem? (i := 27) rfl) (List.mem_of_getElem? (i := 28) rfl) (List.mem_of_getElem? (i := 29) rfl) (List.mem_of_getElem? (i := 30) rfl)) ⟨rfl, by decide +kernel⟩ rfl rfl (lv_room (Nat.le_of_ble_eq_true rfl)) ⟨Nat.le_of_ble_eq_true rfl, Nat.le_of_ble_eq_true rfl⟩ ⟨Nat.le_of_ble_eq_true rfl, Nat.le_of_ble_eq_true rfl⟩ dL_converter_7 (fun E ce q9 u H locs hx1 hP hS h9 hv9 hc9 => ?_) (fun r u H locs hp hP hS => ?_)
  · have hc : CI sa aC (tA κ 14 u) := hCI.converter
    have hE := hx1.1
    rcases hE with ⟨rfl, hc9c⟩ | ⟨rfl, hc9c⟩
    · refine vx_catch C.o [] _ _ (hex.trans rfl) (fun z hz => absurd hz List.not_mem_nil) (by decide) (by decide) (C.w (.classLink RL 13 "java/lang/IllegalArgumentException") (gl_w (List.mem_of_getElem? (i := 1) rfl))) (va_Nw.use rfl C.en.2.2.2.2.2.1.2.2.2.1) h9 hv9 hc9 ?_
      refine lv_astore (lv' := [(5, .ref q9), (0, .ref (aC 0)), (1, .int k0), (2, .int k1), (3, .int k2), (4, .ref q)]) hx hb dL_converter_22 hl (by decide) rfl (fun ls hl => ?_)
      refine lv_iconst (v := 1) hx hb dL_converter_24 (by decide +kernel) ?_
      refine W.widen (k := 1) (n := 6) (Nat.le_of_ble_eq_true rfl) (Nat.le_of_ble_eq_true rfl) ?_
      exact W.iret (v := 1) C.x hb C.r (fun t ht hW => ⟨⟨1, ((tA κ 14 u), f), rfl, ⟨hc, ⟨rfl, rfl, rfl⟩⟩, by show LW D cy aC aM q (Fr sz0) _ σ _ t.heap; rw [ht]; exact hP⟩, hS.F ht⟩) hS.2.2 dL_converter_25
    · exact hc9c.elim
  · have hc : CI sa aC (tA κ 14 u) := hCI.converter
    refine lv_if_eq (tgt := 17) hx hb dL_converter_10 (by decide) (fun c9 => ?_) (fun c9 => ?_)
    · have hw9 : ((vp_updL f 0 0) 0 = 1 ∧ ¬ (κ.2.2.1 14 (5 * k0.toInt + k1.toInt).toNat).toInt = 0) ∨ ((vp_updL f 0 0) 0 = 0 ∧ (κ.2.2.1 14 (5 * k0.toInt + k1.toInt).toNat).toInt = 0) := by
        rcases hp.2.2.1 with ⟨a, b⟩ | ⟨a, b⟩
        · rw [c9] at a; exact absurd a (by decide)
        · exact Or.inr ⟨rfl, b⟩
      refine lv_lconst (v := 0) hx hb dL_converter_17 (by decide +kernel) ?_
      refine lc_last C hP hS dL_converter_18 (fun H locs hP hS => ?_)
      refine lv_goto (tgt := 26) hx hb dL_converter_19 (by decide) ?_
      refine lv_iconst (v := 0) hx hb dL_converter_26 (by decide +kernel) ?_
      refine W.widen (k := 1) (n := 6) (Nat.le_of_ble_eq_true rfl) (Nat.le_of_ble_eq_true rfl) ?_
      exact W.iret (v := 0) hx hb C.r (fun t ht hW => ⟨⟨0, ((tA κ 14 u), vp_updL f 0 0), rfl, ⟨hc, ⟨rfl, rfl, rfl⟩⟩, by show LW D cy aC aM q (Fr sz0) _ σ _ t.heap; rw [ht]; exact hP⟩, hS.F ht⟩) hS.2.2 dL_converter_27
    · have hw9 : ((vp_updL f 0 1) 0 = 1 ∧ ¬ (κ.2.2.1 14 (5 * k0.toInt + k1.toInt).toNat).toInt = 0) ∨ ((vp_updL f 0 1) 0 = 0 ∧ (κ.2.2.1 14 (5 * k0.toInt + k1.toInt).toNat).toInt = 0) := by
        rcases hp.2.2.1 with ⟨a, b⟩ | ⟨a, b⟩
        · exact Or.inl ⟨rfl, b⟩
        · exact absurd (Int32.toInt_inj.mp (a.trans (show (0 : Int) = (0 : Int32).toInt by decide))) c9
      refine lv_lconst (v := 1) hx hb dL_converter_13 (by decide +kernel) ?_
      refine lv_goto (tgt := 18) hx hb dL_converter_14 (by decide) ?_
      refine lc_last C hP hS dL_converter_18 (fun H locs hP hS => ?_)
      refine lv_goto (tgt := 26) hx hb dL_converter_19 (by decide) ?_
      refine lv_iconst (v := 0) hx hb dL_converter_26 (by decide +kernel) ?_
      refine W.widen (k := 1) (n := 6) (Nat.le_of_ble_eq_true rfl) (Nat.le_of_ble_eq_true rfl) ?_
      exact W.iret (v := 0) hx hb C.r (fun t ht hW => ⟨⟨0, ((tA κ 14 u), vp_updL f 0 1), rfl, ⟨hc, ⟨rfl, rfl, rfl⟩⟩, by show LW D cy aC aM q (Fr sz0) _ σ _ t.heap; rw [ht]; exact hP⟩, hS.F ht⟩) hS.2.2 dL_converter_27
theorem NL_run (l : Launch) (hfl : l.stackTraces = false) (D : va_G) (cy : Nat → ClassId) (aC aM : Nat → Nat) (q : Nat) (sz0 : Nat) (sa : Nat → Nat) (κ : KS) (σ : RS) (f : Nat → Int64) (sz : Nat) (k0 : Int32) (k1 : Int32) (hCI : CI sa aC κ) : Met l yL_run (Cond.codeWith yL_run cL_run 5 (some .int) [(0, 10, 13, 13)] :: GWl) ({ frames := 196, cells := 1066, slots := 9840, locals := 8947 }) (PcL D cy aC aM q sz0 sa [.ref (aC 0), .int k0, .int k1, .ref q] κ σ f sz) (va_Qi (fun (r : Int32) (u : KS × (Nat → Int64)) => CI sa aC u.1 ∧ (u.1.1 6 = κ.1 6 ∧ u.1.2.2.1 9 = κ.2.2.1 9 ∧ u.1.1 0 = κ.1 0)) (fun (u : KS × (Nat → Int64)) (t : State) => LW D cy aC aM q (Fr sz0) u.1 σ u.2 t.heap) (Fr sz0)) 1066 9840 (Fr sz0) := by
  refine LM_of (loc0 := [(0, .ref (aC 0)), (1, .int k0), (2, .int k1), (3, .ref q)]) (by decide) rfl rfl (Nat.le_of_ble_eq_true rfl) ?_
  intro p e s m below meth c ls hsz hex C hP hS hl
  have hx := C.x
  have hb := C.b
  have hlk := C.k
  clear hsz
  refine lv_aload_n hx hb dL_run_0 rfl (lv_at hl 3 rfl) ?_
  refine lv_iconst (v := 0) hx hb dL_run_1 (by decide +kernel) ?_
  refine lv_aload_n hx hb dL_run_2 rfl (lv_at hl 0 rfl) ?_
  refine lv_iload_n hx hb dL_run_3 rfl (lv_at hl 1 rfl) ?_
  refine lv_iload_n hx hb dL_run_4 rfl (lv_at hl 2 rfl) ?_
  refine lc_classX (n := 2) (As := [.int k0, .int k1]) (rest := [.int 0, .ref q]) C hP hS hl.1 (fun A hAF hAn => NX11_run l D cy aC A sz0 sa hfl κ _ _ hAF hAn k0 k1 hCI.1 hCI.2.1 ⟨hCI.2.2.2.2.2.2.2.2.1.1, hCI.2.2.2.2.2.2.2.2.1.2, hCI.2.2.2.2.2.1.1, hCI.2.2.2.2.2.1.2, hCI.2.2.2.2.2.2.2.2.2⟩) (gl_V (List.mem_of_getElem? (i := 31) rfl) (List.mem_of_getElem? (i := 32) rfl) (List.mem_of_getElem? (i := 33) rfl) (List.mem_of_getElem? (i := 34) rfl)) ⟨rfl, by decide +kernel⟩ rfl rfl (lv_room (Nat.le_of_ble_eq_true rfl)) ⟨Nat.le_of_ble_eq_true rfl, Nat.le_of_ble_eq_true rfl⟩ ⟨Nat.le_of_ble_eq_true rfl, Nat.le_of_ble_eq_true rfl⟩ dL_run_5 (fun E ce q9 u H locs hx1 hP hS h9 hv9 hc9 => ?_) (fun r u H locs hp hP hS => ?_)
  · have hc : CI sa aC (tR (tR (tP (tQ (tQ (tA (tI (tI (tI (tI κ 8 u.1) 9 u.2.1) 10 u.2.2.1) 11 u.2.2.2.1) 16 u.2.2.2.2.1) 15 u.2.2.2.2.2.1) 17 u.2.2.2.2.2.2.1) u.2.2.2.2.2.2.2.1) 0 u.2.2.2.2.2.2.2.2.1) 1 u.2.2.2.2.2.2.2.2.2) := hCI.run hx1.1 hx1.2.1 hx1.2.2.1 hx1.2.2.2.2
    have hE := hx1.2.2.2.1
    rcases hE with ⟨rfl, hc9c⟩ | ⟨rfl, hc9c⟩
    · refine vx_catch C.o [] _ _ (hex.trans rfl) (fun z hz => absurd hz List.not_mem_nil) (by decide) (by decide) (C.w (.classLink RL 13 "java/lang/IllegalArgumentException") (gl_w (List.mem_of_getElem? (i := 1) rfl))) (va_Nw.use rfl C.en.2.2.2.2.2.1.2.2.2.1) h9 hv9 hc9 ?_
      refine lv_astore (lv' := [(4, .ref q9), (0, .ref (aC 0)), (1, .int k0), (2, .int k1), (3, .ref q)]) hx hb dL_run_13 hl (by decide) rfl (fun ls hl => ?_)
      refine lv_iconst (v := 1) hx hb dL_run_15 (by decide +kernel) ?_
      refine W.widen (k := 1066) (n := 9840) (Nat.le_of_ble_eq_true rfl) (Nat.le_of_ble_eq_true rfl) ?_
      exact W.iret (v := 1) C.x hb C.r (fun t ht hW => ⟨⟨1, ((tR (tR (tP (tQ (tQ (tA (tI (tI (tI (tI κ 8 u.1) 9 u.2.1) 10 u.2.2.1) 11 u.2.2.2.1) 16 u.2.2.2.2.1) 15 u.2.2.2.2.2.1) 17 u.2.2.2.2.2.2.1) u.2.2.2.2.2.2.2.1) 0 u.2.2.2.2.2.2.2.2.1) 1 u.2.2.2.2.2.2.2.2.2), f), rfl, ⟨hc, ⟨rfl, rfl, rfl⟩⟩, by show LW D cy aC aM q (Fr sz0) _ σ _ t.heap; rw [ht]; exact hP⟩, hS.F ht⟩) hS.2.2 dL_run_16
    · exact hc9c.elim
  · have hc : CI sa aC (tR (tR (tP (tQ (tQ (tA (tI (tI (tI (tI κ 8 u.1) 9 u.2.1) 10 u.2.2.1) 11 u.2.2.2.1) 16 u.2.2.2.2.1) 15 u.2.2.2.2.2.1) 17 u.2.2.2.2.2.2.1) u.2.2.2.2.2.2.2.1) 0 u.2.2.2.2.2.2.2.2.1) 1 u.2.2.2.2.2.2.2.2.2) := hCI.run hp.1 hp.2.1 hp.2.2.1 hp.2.2.2
    refine lv_i2l (v := r.toInt64) hx hb dL_run_8 rfl ?_
    refine lc_last C hP hS dL_run_9 (fun H locs hP hS => ?_)
    refine lv_goto (tgt := 17) hx hb dL_run_10 (by decide) ?_
    refine lv_iconst (v := 0) hx hb dL_run_17 (by decide +kernel) ?_
    refine W.widen (k := 1066) (n := 9840) (Nat.le_of_ble_eq_true rfl) (Nat.le_of_ble_eq_true rfl) ?_
    exact W.iret (v := 0) hx hb C.r (fun t ht hW => ⟨⟨0, ((tR (tR (tP (tQ (tQ (tA (tI (tI (tI (tI κ 8 u.1) 9 u.2.1) 10 u.2.2.1) 11 u.2.2.2.1) 16 u.2.2.2.2.1) 15 u.2.2.2.2.2.1) 17 u.2.2.2.2.2.2.1) u.2.2.2.2.2.2.2.1) 0 u.2.2.2.2.2.2.2.2.1) 1 u.2.2.2.2.2.2.2.2.2), vp_updL f 0 r.toInt64), rfl, ⟨hc, ⟨rfl, rfl, rfl⟩⟩, by show LW D cy aC aM q (Fr sz0) _ σ _ t.heap; rw [ht]; exact hP⟩, hS.F ht⟩) hS.2.2 dL_run_18
theorem NL_keep (l : Launch) (hfl : l.stackTraces = false) (D : va_G) (cy : Nat → ClassId) (aC aM : Nat → Nat) (q : Nat) (sz0 : Nat) (sa : Nat → Nat) (κ : KS) (σ : RS) (f : Nat → Int64) (sz : Nat) (k0 : Int32) (hCI : CI sa aC κ) : Met l yL_keep (Cond.codeWith yL_keep cL_keep 4 (some .int) [(0, 9, 12, 13), (0, 9, 15, 15)] :: GWl) ({ frames := 7, cells := 1, slots := 6, locals := 111 }) (PcL D cy aC aM q sz0 sa [.ref (aC 0), .int k0, .ref q] κ σ f sz) (va_Qi (fun (r : Int32) (u : KS × (Nat → Int64)) => CI sa aC u.1 ∧ (u.1.1 6 = κ.1 6 ∧ u.1.2.2.1 9 = κ.2.2.1 9 ∧ u.1.1 0 = κ.1 0)) (fun (u : KS × (Nat → Int64)) (t : State) => LW D cy aC aM q (Fr sz0) u.1 σ u.2 t.heap) (Fr sz0)) 1 6 (Fr sz0) := by
  refine LM_of (loc0 := [(0, .ref (aC 0)), (1, .int k0), (2, .ref q)]) (by decide) rfl rfl (Nat.le_of_ble_eq_true rfl) ?_
  intro p e s m below meth c ls hsz hex C hP hS hl
  have hx := C.x
  have hb := C.b
  have hlk := C.k
  clear hsz
  refine lv_aload_n hx hb dL_keep_0 rfl (lv_at hl 2 rfl) ?_
  refine lv_iconst (v := 0) hx hb dL_keep_1 (by decide +kernel) ?_
  refine lv_aload_n hx hb dL_keep_2 rfl (lv_at hl 0 rfl) ?_
  refine lv_iload_n hx hb dL_keep_3 rfl (lv_at hl 1 rfl) ?_
  refine lc_classX (n := 1) (As := [.int k0]) (rest := [.int 0, .ref q]) C hP hS hl.1 (fun A hAF hAn => NX11_keep l D cy aC A sz0 sa hfl κ _ _ hAF hAn k0 hCI.1 hCI.2.1 hCI.2.2.2.2.2.2.2.2.1) (gl_V (List.mem_of_getElem? (i := 35) rfl) (List.mem_of_getElem? (i := 36) rfl) (List.mem_of_getElem? (i := 37) rfl) (List.mem_of_getElem? (i := 38) rfl)) ⟨rfl, by decide +kernel⟩ rfl rfl (lv_room (Nat.le_of_ble_eq_true rfl)) ⟨Nat.le_of_ble_eq_true rfl, Nat.le_of_ble_eq_true rfl⟩ ⟨Nat.le_of_ble_eq_true rfl, Nat.le_of_ble_eq_true rfl⟩ dL_keep_4 (fun E ce q9 u H locs hx1 hP hS h9 hv9 hc9 => ?_) (fun r u H locs hp hP hS => ?_)
  · have hc : CI sa aC (tQ (tA (tI κ 8 u.1) 16 u.2.1) 17 u.2.2) := hCI.keep hx1.1 hx1.2.2
    have hE := hx1.2.1
    rcases hE with ⟨rfl, hc9c⟩ | ⟨rfl, hc9c⟩
    · refine vx_catch C.o [] _ _ (hex.trans rfl) (fun z hz => absurd hz List.not_mem_nil) (by decide) (by decide) (C.w (.classLink RL 13 "java/lang/IllegalArgumentException") (gl_w (List.mem_of_getElem? (i := 1) rfl))) (va_Nw.use rfl C.en.2.2.2.2.2.1.2.2.2.1) h9 hv9 hc9 ?_
      refine lv_astore_n (lv' := [(3, .ref q9), (0, .ref (aC 0)), (1, .int k0), (2, .ref q)]) hx hb dL_keep_12 rfl hl (by decide) rfl (fun ls hl => ?_)
      refine lv_iconst (v := 1) hx hb dL_keep_13 (by decide +kernel) ?_
      refine W.widen (k := 1) (n := 6) (Nat.le_of_ble_eq_true rfl) (Nat.le_of_ble_eq_true rfl) ?_
      exact W.iret (v := 1) C.x hb C.r (fun t ht hW => ⟨⟨1, ((tQ (tA (tI κ 8 u.1) 16 u.2.1) 17 u.2.2), f), rfl, ⟨hc, ⟨rfl, rfl, rfl⟩⟩, by show LW D cy aC aM q (Fr sz0) _ σ _ t.heap; rw [ht]; exact hP⟩, hS.F ht⟩) hS.2.2 dL_keep_14
    · refine vx_catch C.o [⟨0, 9, 12, 13⟩] ⟨0, 9, 15, 15⟩ [] (hex.trans rfl) (fun z hz => by
        obtain rfl := List.mem_singleton.mp hz
        exact Or.inr ⟨by decide, _, C.w (.classLink RL 13 "java/lang/IllegalArgumentException") (gl_w (List.mem_of_getElem? (i := 1) rfl)), C.en.2.2.2.2.2.2.2⟩) (by decide) (by decide) (C.w (.classLink RL 15 "java/lang/IllegalStateException") (gl_w (List.mem_of_getElem? (i := 2) rfl))) (va_Nw.use rfl C.en.2.2.2.2.2.1.2.2.2.2) h9 hv9 hc9 ?_
      refine lv_astore_n (lv' := [(3, .ref q9), (0, .ref (aC 0)), (1, .int k0), (2, .ref q)]) hx hb dL_keep_15 rfl hl (by decide) rfl (fun ls hl => ?_)
      refine lv_iconst (v := 2) hx hb dL_keep_16 (by decide +kernel) ?_
      refine W.widen (k := 1) (n := 6) (Nat.le_of_ble_eq_true rfl) (Nat.le_of_ble_eq_true rfl) ?_
      exact W.iret (v := 2) C.x hb C.r (fun t ht hW => ⟨⟨2, ((tQ (tA (tI κ 8 u.1) 16 u.2.1) 17 u.2.2), f), rfl, ⟨hc, ⟨rfl, rfl, rfl⟩⟩, by show LW D cy aC aM q (Fr sz0) _ σ _ t.heap; rw [ht]; exact hP⟩, hS.F ht⟩) hS.2.2 dL_keep_17
  · have hc : CI sa aC (tQ (tA (tI κ 8 u.1) 16 u.2.1) 17 u.2.2) := hCI.keep hp.1 hp.2
    refine lv_i2l (v := r.toInt64) hx hb dL_keep_7 rfl ?_
    refine lc_last C hP hS dL_keep_8 (fun H locs hP hS => ?_)
    refine lv_goto (tgt := 18) hx hb dL_keep_9 (by decide) ?_
    refine lv_iconst (v := 0) hx hb dL_keep_18 (by decide +kernel) ?_
    refine W.widen (k := 1) (n := 6) (Nat.le_of_ble_eq_true rfl) (Nat.le_of_ble_eq_true rfl) ?_
    exact W.iret (v := 0) hx hb C.r (fun t ht hW => ⟨⟨0, ((tQ (tA (tI κ 8 u.1) 16 u.2.1) 17 u.2.2), vp_updL f 0 r.toInt64), rfl, ⟨hc, ⟨rfl, rfl, rfl⟩⟩, by show LW D cy aC aM q (Fr sz0) _ σ _ t.heap; rw [ht]; exact hP⟩, hS.F ht⟩) hS.2.2 dL_keep_19
theorem NL_put (l : Launch) (hfl : l.stackTraces = false) (D : va_G) (cy : Nat → ClassId) (aC aM : Nat → Nat) (q : Nat) (sz0 : Nat) (sa : Nat → Nat) (κ : KS) (σ : RS) (f : Nat → Int64) (sz : Nat) (k0 : Int32) (k1 : Int32) (hCI : CI sa aC κ) : Met l yL_put (Cond.codeWith yL_put cL_put 5 (some .int) [(0, 10, 13, 13)] :: GWl) ({ frames := 11, cells := 3, slots := 21, locals := 266 }) (PcL D cy aC aM q sz0 sa [.ref (aC 0), .int k0, .int k1, .ref q] κ σ f sz) (va_Qi (fun (r : Int32) (u : KS × (Nat → Int64)) => CI sa aC u.1 ∧ (u.1.1 6 = κ.1 6 ∧ u.1.2.2.1 9 = κ.2.2.1 9 ∧ u.1.1 0 = κ.1 0)) (fun (u : KS × (Nat → Int64)) (t : State) => LW D cy aC aM q (Fr sz0) u.1 σ u.2 t.heap) (Fr sz0)) 3 21 (Fr sz0) := by
  refine LM_of (loc0 := [(0, .ref (aC 0)), (1, .int k0), (2, .int k1), (3, .ref q)]) (by decide) rfl rfl (Nat.le_of_ble_eq_true rfl) ?_
  intro p e s m below meth c ls hsz hex C hP hS hl
  have hx := C.x
  have hb := C.b
  have hlk := C.k
  clear hsz
  refine lv_aload_n hx hb dL_put_0 rfl (lv_at hl 3 rfl) ?_
  refine lv_iconst (v := 0) hx hb dL_put_1 (by decide +kernel) ?_
  refine lv_aload_n hx hb dL_put_2 rfl (lv_at hl 0 rfl) ?_
  refine lv_iload_n hx hb dL_put_3 rfl (lv_at hl 1 rfl) ?_
  refine lv_iload_n hx hb dL_put_4 rfl (lv_at hl 2 rfl) ?_
  refine lc_classX (n := 2) (As := [.int k0, .int k1]) (rest := [.int 0, .ref q]) C hP hS hl.1 (fun A hAF hAn => NX11_put l D cy aC A sz0 sa hfl κ _ _ hAF hAn k0 k1 hCI.1 hCI.2.1 ) (gl_V (List.mem_of_getElem? (i := 39) rfl) (List.mem_of_getElem? (i := 40) rfl) (List.mem_of_getElem? (i := 41) rfl) (List.mem_of_getElem? (i := 42) rfl)) ⟨rfl, by decide +kernel⟩ rfl rfl (lv_room (Nat.le_of_ble_eq_true rfl)) ⟨Nat.le_of_ble_eq_true rfl, Nat.le_of_ble_eq_true rfl⟩ ⟨Nat.le_of_ble_eq_true rfl, Nat.le_of_ble_eq_true rfl⟩ dL_put_5 (fun E ce q9 u H locs hx1 hP hS h9 hv9 hc9 => ?_) (fun r u H locs hp hP hS => ?_)
  · have hc : CI sa aC (tR (tI (tP κ u.1) 9 u.2.1) 1 u.2.2) := hCI.put hx1.1 hx1.2.1 hx1.2.2.1
    have hE := hx1.2.2.2
    rcases hE with ⟨rfl, hc9c⟩ | ⟨rfl, hc9c⟩
    · refine vx_catch C.o [] _ _ (hex.trans rfl) (fun z hz => absurd hz List.not_mem_nil) (by decide) (by decide) (C.w (.classLink RL 13 "java/lang/IllegalArgumentException") (gl_w (List.mem_of_getElem? (i := 1) rfl))) (va_Nw.use rfl C.en.2.2.2.2.2.1.2.2.2.1) h9 hv9 hc9 ?_
      refine lv_astore (lv' := [(4, .ref q9), (0, .ref (aC 0)), (1, .int k0), (2, .int k1), (3, .ref q)]) hx hb dL_put_13 hl (by decide) rfl (fun ls hl => ?_)
      refine lv_iconst (v := 1) hx hb dL_put_15 (by decide +kernel) ?_
      refine W.widen (k := 3) (n := 21) (Nat.le_of_ble_eq_true rfl) (Nat.le_of_ble_eq_true rfl) ?_
      exact W.iret (v := 1) C.x hb C.r (fun t ht hW => ⟨⟨1, ((tR (tI (tP κ u.1) 9 u.2.1) 1 u.2.2), f), rfl, ⟨hc, ⟨rfl, rfl, rfl⟩⟩, by show LW D cy aC aM q (Fr sz0) _ σ _ t.heap; rw [ht]; exact hP⟩, hS.F ht⟩) hS.2.2 dL_put_16
    · exact hc9c.elim
  · have hc : CI sa aC (tR (tI (tP κ u.1) 9 u.2.1) 1 u.2.2) := hCI.put hp.1 hp.2.1 hp.2.2
    refine lv_i2l (v := r.toInt64) hx hb dL_put_8 rfl ?_
    refine lc_last C hP hS dL_put_9 (fun H locs hP hS => ?_)
    refine lv_goto (tgt := 17) hx hb dL_put_10 (by decide) ?_
    refine lv_iconst (v := 0) hx hb dL_put_17 (by decide +kernel) ?_
    refine W.widen (k := 3) (n := 21) (Nat.le_of_ble_eq_true rfl) (Nat.le_of_ble_eq_true rfl) ?_
    exact W.iret (v := 0) hx hb C.r (fun t ht hW => ⟨⟨0, ((tR (tI (tP κ u.1) 9 u.2.1) 1 u.2.2), vp_updL f 0 r.toInt64), rfl, ⟨hc, ⟨rfl, rfl, rfl⟩⟩, by show LW D cy aC aM q (Fr sz0) _ σ _ t.heap; rw [ht]; exact hP⟩, hS.F ht⟩) hS.2.2 dL_put_18
