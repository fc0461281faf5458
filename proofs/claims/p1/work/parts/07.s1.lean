set_option maxHeartbeats 1000000 in
set_option maxRecDepth 100000 in
theorem C_X4_append_1 (l : Launch) (D : va_G) (cy : Nat → ClassId) (sz0 : Nat) (sa : Nat → Nat) (a0 a1 a2 a3 a4 a5 a6 : Nat) (sz : Nat) (k0 : Int32) : Met l yX4_append wsX4_append ({ frames := 0, cells := 0, slots := 0, locals := 0 }) (PcW D cy sz0 sa [.ref a0, .int k0] [(a0, .inr (6, [.ref a1, .int 0, .ref a2, .ref a3, .ref a4, .ref a5, .int 0, .ref a6])), (a1, .inl (cy 4, 40, .inl (fun _ => 0)))] sz) (va_Qv (fun (u : Unit) => True) (fun (u : Unit) (t : State) => BW D [(a0, .inr (6, [.ref a1, .int 1, .ref a2, .ref a3, .ref a4, .ref a5, .int 0, .ref a6])), (a1, .inl (cy 4, 40, .inl (upd (fun _ => 0) 0 (vp_nar .char k0))))] (va_A [(a0, .inr (6, [.ref a1, .int 0, .ref a2, .ref a3, .ref a4, .ref a5, .int 0, .ref a6])), (a1, .inl (cy 4, 40, .inl (fun _ => 0)))] sz) t) (va_A [(a0, .inr (6, [.ref a1, .int 0, .ref a2, .ref a3, .ref a4, .ref a5, .int 0, .ref a6])), (a1, .inl (cy 4, 40, .inl (fun _ => 0)))] sz)) 0 0 (va_A [(a0, .inr (6, [.ref a1, .int 0, .ref a2, .ref a3, .ref a4, .ref a5, .int 0, .ref a6])), (a1, .inl (cy 4, 40, .inl (fun _ => 0)))] sz) := by
  refine Met.ofW (cc := cX4_append) (maxL := 2) (ret := none) (by decide) rfl ?_
  intro p e s m args below meth c s₁ B hml hv
  obtain ⟨rfl, hsz, hP, hD0, hE⟩ := hv
  have hx := B.exec
  have hb := B.bytes
  have hr := B.returns
  have hts := atoms_spec (ws := wsX4_append) B.pre
  have hown : s.vm.findClass RX4 = some m.cls := findClass_of_methodNamed B.named
  have hlocks := B.notSynchronized
  subst hsz
  have hK := hE.1
  have hAm := hE.2.2.1
  have hWm := hE.2.2.2
  have hAO := hWm.2.2.2.1
  have hD := hD0.self (sz := s.heap.size)
  have hAF := frA hD0 hE.2.1
  generalize hAe : va_A [(a0, .inr (6, [.ref a1, .int 0, .ref a2, .ref a3, .ref a4, .ref a5, .int 0, .ref a6])), (a1, .inl (cy 4, 40, .inl (fun _ => 0)))] s.heap.size = A at hD hAF ⊢
  have hA : ∀ q : Nat, s.heap.size ≤ q → A q := fun q h => by rw [← hAe]; exact Or.inr h
  have hS : va_S A s.heap s.heap [] := va_S.rf
  have hl := lv_entry ([.ref a0, .int k0]) (n := 2) (Nat.le_of_ble_eq_true rfl)
  rw [lg_entry_eq]
  generalize (lg_sl ([.ref a0, .int k0]) ++ List.replicate (2 - (lg_sl ([.ref a0, .int k0])).length) Slot.unset).toArray = ls at hl ⊢
  have hl : lv_has ls 2 [(0, .ref a0), (1, .int k0)] := hl
  have hP : va_P D vwCl [(a0, .inr (6, [.ref a1, .int 0, .ref a2, .ref a3, .ref a4, .ref a5, .int 0, .ref a6])), (a1, .inl (cy 4, 40, .inl (fun _ => 0)))] s.heap := hP
  refine lv_aload_n hx hb dX4_append_0 rfl (lv_at hl 0 rfl) ?_
  refine va_get (D := D) (ci := 6) (v := .int 0) (C := RX4) (T := TX4) (N := 8) hx hb hts (fun _ h => List.mem_cons_of_mem _ (List.mem_append_right _ h)) hown hK hP 0 rfl rfl 1 (by decide) (hts (.fieldLink RX4 38 "PhraseDesk$Lexer" "length" "I") (List.mem_of_getElem? (i := 1) rfl)) (fun _ h9 => h9) rfl dX4_append_1 ?_
  refine lv_aload_n hx hb dX4_append_4 rfl (lv_at hl 0 rfl) ?_
  refine va_get (D := D) (ci := 6) (v := .ref a1) (C := RX4) (T := TX4) (N := 8) hx hb hts (fun _ h => List.mem_cons_of_mem _ (List.mem_append_right _ h)) hown hK hP 0 rfl rfl 0 (by decide) (hts (.fieldLink RX4 9 "PhraseDesk$Lexer" "letters" "[C") (List.mem_of_getElem? (i := 2) rfl)) (fun _ h9 => h9) rfl dX4_append_5 ?_
  refine va_alen (v := 40) hx hb hK hP 1 4 rfl rfl rfl dX4_append_8 ?_
  refine lv_icmp_ge (tgt := 32) hx hb dX4_append_9 (by decide) (fun c1 => absurd c1 (by decide +kernel)) (fun _ => ?_)
  refine lv_aload_n hx hb dX4_append_12 rfl (lv_at hl 0 rfl) ?_
  refine va_get (D := D) (ci := 6) (v := .ref a1) (C := RX4) (T := TX4) (N := 8) hx hb hts (fun _ h => List.mem_cons_of_mem _ (List.mem_append_right _ h)) hown hK hP 0 rfl rfl 0 (by decide) (hts (.fieldLink RX4 9 "PhraseDesk$Lexer" "letters" "[C") (List.mem_of_getElem? (i := 2) rfl)) (fun _ h9 => h9) rfl dX4_append_13 ?_
  refine lv_aload_n hx hb dX4_append_16 rfl (lv_at hl 0 rfl) ?_
  refine va_get (D := D) (ci := 6) (v := .int 0) (C := RX4) (T := TX4) (N := 8) hx hb hts (fun _ h => List.mem_cons_of_mem _ (List.mem_append_right _ h)) hown hK hP 0 rfl rfl 1 (by decide) (hts (.fieldLink RX4 38 "PhraseDesk$Lexer" "length" "I") (List.mem_of_getElem? (i := 1) rfl)) (fun _ h9 => h9) rfl dX4_append_17 ?_
  refine lv_iload_n hx hb dX4_append_20 rfl (lv_at hl 1 rfl) ?_
  refine va_cast hx hb hK hP hD hS 1 4 rfl rfl (by unfold vp_in; decide +kernel) dX4_append_21 (fun H locs hP hD hS => ?_)
  have hP : va_P D vwCl [(a0, .inr (6, [.ref a1, .int 0, .ref a2, .ref a3, .ref a4, .ref a5, .int 0, .ref a6])), (a1, .inl (cy 4, 40, .inl (upd (fun _ => 0) 0 (vp_nar .char k0))))] H := hP
  have hD : va_D A [(a0, .inr (6, [.ref a1, .int 0, .ref a2, .ref a3, .ref a4, .ref a5, .int 0, .ref a6])), (a1, .inl (cy 4, 40, .inl (upd (fun _ => 0) 0 (vp_nar .char k0))))] := hD
  refine lv_aload_n hx hb dX4_append_22 rfl (lv_at hl 0 rfl) ?_
  refine lv_dup hx hb dX4_append_23 rfl ?_
  refine va_get (D := D) (ci := 6) (v := .int 0) (C := RX4) (T := TX4) (N := 8) hx hb hts (fun _ h => List.mem_cons_of_mem _ (List.mem_append_right _ h)) hown hK hP 0 rfl rfl 1 (by decide) (hts (.fieldLink RX4 38 "PhraseDesk$Lexer" "length" "I") (List.mem_of_getElem? (i := 1) rfl)) (fun _ h9 => h9) rfl dX4_append_24 ?_
  refine lv_iconst (v := 1) hx hb dX4_append_27 (by decide +kernel) ?_
  refine lv_iadd hx hb dX4_append_28 ?_
  refine lv_topi (fun x2 ex2 => ?_)
  obtain rfl : x2 = 1 := ex2.trans (by decide +kernel)
  refine va_put (D := D) (ci := 6) (v := .int 1) (ty := .int) (C := RX4) (T := TX4) (N := 8) hx hb hts (fun _ h => List.mem_cons_of_mem _ (List.mem_append_right _ h)) tyX4 tyX4_ok nmX4 hown hK hP hD hS 0 rfl rfl 1 (by decide) (hts (.fieldLink RX4 38 "PhraseDesk$Lexer" "length" "I") (List.mem_of_getElem? (i := 1) rfl)) (fun _ h9 => h9) rfl (by decide +kernel) rfl rfl (Nat.le_of_ble_eq_true rfl) dX4_append_29 (fun H locs hP hD hS => ?_)
  have hP : va_P D vwCl [(a0, .inr (6, [.ref a1, .int 1, .ref a2, .ref a3, .ref a4, .ref a5, .int 0, .ref a6])), (a1, .inl (cy 4, 40, .inl (upd (fun _ => 0) 0 (vp_nar .char k0))))] H := hP
  have hD : va_D A [(a0, .inr (6, [.ref a1, .int 1, .ref a2, .ref a3, .ref a4, .ref a5, .int 0, .ref a6])), (a1, .inl (cy 4, 40, .inl (upd (fun _ => 0) 0 (vp_nar .char k0))))] := hD
  refine W.widen (k := 0) (n := 0) (Nat.le_of_ble_eq_true rfl) (Nat.le_of_ble_eq_true rfl) ?_
  have hP9 := hP.sub (ws' := [(a0, .inr (6, [.ref a1, .int 1, .ref a2, .ref a3, .ref a4, .ref a5, .int 0, .ref a6])), (a1, .inl (cy 4, 40, .inl (upd (fun _ => 0) 0 (vp_nar .char k0))))]) [0, 1] rfl
  have hD9 := hD.sub (ws' := [(a0, .inr (6, [.ref a1, .int 1, .ref a2, .ref a3, .ref a4, .ref a5, .int 0, .ref a6])), (a1, .inl (cy 4, 40, .inl (upd (fun _ => 0) 0 (vp_nar .char k0))))]) [0, 1] (by decide) rfl
  exact W.vret hx hb hr (fun t ht hW => ⟨⟨(), rfl, trivial, ⟨by rw [ht]; exact hP9, hD9⟩⟩, hS.F ht⟩) hS.2.2 dX4_append_32

set_option maxHeartbeats 1000000 in
set_option maxRecDepth 100000 in
theorem C_X11_letter_1 (l : Launch) (hfl : l.stackTraces = false) (D : va_G) (cy : Nat → ClassId) (sz0 : Nat) (sa : Nat → Nat) (a0 a1 a2 a3 a4 a5 a6 a7 a8 a9 a10 a11 a12 a13 : Nat) (sz : Nat) (k0 : Int32) : vx_Met l yX11_letter wsX11_letter ({ frames := 6, cells := 1, slots := 6, locals := 82 }) (PcW D cy sz0 sa [.ref a0, .int k0] [(a0, .inr (13, [.ref a1, .ref a4, .ref a5, .int 0, .ref a6, .int 0, .ref a7, .int 0, .ref a8])), (a1, .inr (8, [.ref a2, .int 0, .int 0, .int 0])), (a2, .inr (6, [.ref a3, .int 0, .ref a9, .ref a10, .ref a11, .ref a12, .int 0, .ref a13])), (a3, .inl (cy 4, 40, .inl (fun _ => 0)))] sz) (va_Qi (fun (r : Int32) (u : Unit) => r = 1 ∧ (32 ≤ k0.toInt ∧ k0.toInt ≤ 126)) (fun (_ : Unit) (_ : State) => True) (va_A [(a0, .inr (13, [.ref a1, .ref a4, .ref a5, .int 0, .ref a6, .int 0, .ref a7, .int 0, .ref a8])), (a1, .inr (8, [.ref a2, .int 0, .int 0, .int 0])), (a2, .inr (6, [.ref a3, .int 0, .ref a9, .ref a10, .ref a11, .ref a12, .int 0, .ref a13])), (a3, .inl (cy 4, 40, .inl (fun _ => 0)))] sz)) (vx_X (fun _ : Unit => True) (fun (E : String) (_ : Unit) (_ : State) => E = tIAE ∧ ((k0.toInt < 32) ∨ (32 ≤ k0.toInt ∧ 126 < k0.toInt))) (va_A [(a0, .inr (13, [.ref a1, .ref a4, .ref a5, .int 0, .ref a6, .int 0, .ref a7, .int 0, .ref a8])), (a1, .inr (8, [.ref a2, .int 0, .int 0, .int 0])), (a2, .inr (6, [.ref a3, .int 0, .ref a9, .ref a10, .ref a11, .ref a12, .int 0, .ref a13])), (a3, .inl (cy 4, 40, .inl (fun _ => 0)))] sz)) 1 6 (va_A [(a0, .inr (13, [.ref a1, .ref a4, .ref a5, .int 0, .ref a6, .int 0, .ref a7, .int 0, .ref a8])), (a1, .inr (8, [.ref a2, .int 0, .int 0, .int 0])), (a2, .inr (6, [.ref a3, .int 0, .ref a9, .ref a10, .ref a11, .ref a12, .int 0, .ref a13])), (a3, .inl (cy 4, 40, .inl (fun _ => 0)))] sz) := by
  refine vx_ofW (cc := cX11_letter) (maxL := 2) (ret := (some .int)) (by decide) rfl ?_
  intro p e s m args below meth c s₁ B hml hout hv
  obtain ⟨rfl, hsz, hP, hD0, hE⟩ := hv
  have hx := B.exec
  have hb := B.bytes
  have hr := B.returns
  have hts := atoms_spec (ws := wsX11_letter) B.pre
  have hown : s.vm.findClass RX11 = some m.cls := findClass_of_methodNamed B.named
  have hlocks := B.notSynchronized
  subst hsz
  have hK := hE.1
  have hAm := hE.2.2.1
  have hWm := hE.2.2.2
  have hAO := hWm.2.2.2.1
  have hD := hD0.self (sz := s.heap.size)
  have hAF := frA hD0 hE.2.1
  generalize hAe : va_A [(a0, .inr (13, [.ref a1, .ref a4, .ref a5, .int 0, .ref a6, .int 0, .ref a7, .int 0, .ref a8])), (a1, .inr (8, [.ref a2, .int 0, .int 0, .int 0])), (a2, .inr (6, [.ref a3, .int 0, .ref a9, .ref a10, .ref a11, .ref a12, .int 0, .ref a13])), (a3, .inl (cy 4, 40, .inl (fun _ => 0)))] s.heap.size = A at hD hAF ⊢
  have hA : ∀ q : Nat, s.heap.size ≤ q → A q := fun q h => by rw [← hAe]; exact Or.inr h
  have hS : va_S A s.heap s.heap [] := va_S.rf
  have hl := lv_entry ([.ref a0, .int k0]) (n := 2) (Nat.le_of_ble_eq_true rfl)
  rw [lg_entry_eq]
  generalize (lg_sl ([.ref a0, .int k0]) ++ List.replicate (2 - (lg_sl ([.ref a0, .int k0])).length) Slot.unset).toArray = ls at hl ⊢
  have hl : lv_has ls 2 [(0, .ref a0), (1, .int k0)] := hl
  have hP : va_P D vwCl [(a0, .inr (13, [.ref a1, .ref a4, .ref a5, .int 0, .ref a6, .int 0, .ref a7, .int 0, .ref a8])), (a1, .inr (8, [.ref a2, .int 0, .int 0, .int 0])), (a2, .inr (6, [.ref a3, .int 0, .ref a9, .ref a10, .ref a11, .ref a12, .int 0, .ref a13])), (a3, .inl (cy 4, 40, .inl (fun _ => 0)))] s.heap := hP
  have z32 : (32 : Int32).toInt = 32 := by decide +kernel
  have z126 : (126 : Int32).toInt = 126 := by decide +kernel
  refine lv_iload_n hx hb dX11_letter_0 rfl (lv_at hl 1 rfl) ?_
  refine lv_bipush (v := 32) hx hb dX11_letter_1 (by decide +kernel) ?_
  refine lv_icmp_lt (tgt := 12) hx hb dX11_letter_3 (by decide) (fun c1 => ?_) (fun c1 => ?_)
  · have c1 := z_lt c1
    exact g_iae hx hb hfl hts hE hAF hown (List.mem_of_getElem? (i := 1) rfl) (List.mem_of_getElem? (i := 2) rfl) (is := 51) (text := "no character 32 .. 126") (by decide +kernel) (fun _ h => List.mem_cons_of_mem _ (List.mem_append_left _ (List.mem_append_right _ h))) hS (by rw [hml]; exact hl.1) dX11_letter_12 dX11_letter_15 dX11_letter_16 dX11_letter_18 dX11_letter_21 hout (by decide) (by decide) (Nat.le_of_ble_eq_true rfl) (Nat.le_of_ble_eq_true rfl) hlocks (fun t h1 h2 h3 => ⟨(), trivial, ⟨rfl, by omega⟩, Nat.le_trans hS.1 h2, fun q h4 h5 => (h3 q (Nat.lt_of_lt_of_le h4 hS.1)).trans (hS.2.1 q h4 h5)⟩) hS.2.2 (Nat.le_of_ble_eq_true rfl) (Nat.le_of_ble_eq_true rfl)
  · have c1 := z_nlt c1
    refine lv_iload_n hx hb dX11_letter_6 rfl (lv_at hl 1 rfl) ?_
    refine lv_bipush (v := 126) hx hb dX11_letter_7 (by decide +kernel) ?_
    refine lv_icmp_le (tgt := 22) hx hb dX11_letter_9 (by decide) (fun c2 => ?_) (fun c2 => ?_)
    · have c2 := z_le c2
      refine lv_aload_n hx hb dX11_letter_22 rfl (lv_at hl 0 rfl) ?_
      refine va_get (D := D) (ci := 13) (v := .ref a1) (C := RX11) (T := TX11) (N := 9) hx hb hts (fun _ h => List.mem_cons_of_mem _ (List.mem_append_left _ (List.mem_append_left _ (List.mem_append_left _ (List.mem_append_left _ (List.mem_append_right _ h)))))) hown hK hP 0 rfl rfl 0 (by decide) (hts (.fieldLink RX11 10 "PhraseDesk" "parser" "LPhraseDesk$Parser;") (List.mem_of_getElem? (i := 5) rfl)) (fun _ h9 => h9) rfl dX11_letter_23 ?_
      refine va_get (D := D) (ci := 8) (v := .ref a2) (C := RX6) (T := TX6) (N := 4) hx hb hts (fun _ h => List.mem_cons_of_mem _ (List.mem_append_left _ (List.mem_append_left _ (List.mem_append_left _ (List.mem_append_right _ h))))) hown hK hP 1 rfl rfl 0 (by decide) (hts (.fieldLink RX11 56 "PhraseDesk$Parser" "lexer" "LPhraseDesk$Lexer;") (List.mem_of_getElem? (i := 6) rfl)) (fun _ h9 => h9) rfl dX11_letter_26 ?_
      refine va_get (D := D) (ci := 6) (v := .int 0) (C := RX4) (T := TX4) (N := 8) hx hb hts (fun _ h => List.mem_cons_of_mem _ (List.mem_append_left _ (List.mem_append_left _ (List.mem_append_right _ h)))) hown hK hP 2 rfl rfl 1 (by decide) (hts (.fieldLink RX11 60 "PhraseDesk$Lexer" "length" "I") (List.mem_of_getElem? (i := 7) rfl)) (fun _ h9 => h9) rfl dX11_letter_29 ?_
      refine lv_bipush (v := 40) hx hb dX11_letter_32 (by decide +kernel) ?_
      refine lv_icmp_lt (tgt := 47) hx hb dX11_letter_34 (by decide) (fun _ => ?_) (fun c3 => absurd (by decide +kernel) c3)
      refine lv_aload_n hx hb dX11_letter_47 rfl (lv_at hl 0 rfl) ?_
      refine va_get (D := D) (ci := 13) (v := .ref a1) (C := RX11) (T := TX11) (N := 9) hx hb hts (fun _ h => List.mem_cons_of_mem _ (List.mem_append_left _ (List.mem_append_left _ (List.mem_append_left _ (List.mem_append_left _ (List.mem_append_right _ h)))))) hown hK hP 0 rfl rfl 0 (by decide) (hts (.fieldLink RX11 10 "PhraseDesk" "parser" "LPhraseDesk$Parser;") (List.mem_of_getElem? (i := 5) rfl)) (fun _ h9 => h9) rfl dX11_letter_48 ?_
      refine va_get (D := D) (ci := 8) (v := .ref a2) (C := RX6) (T := TX6) (N := 4) hx hb hts (fun _ h => List.mem_cons_of_mem _ (List.mem_append_left _ (List.mem_append_left _ (List.mem_append_left _ (List.mem_append_right _ h))))) hown hK hP 1 rfl rfl 0 (by decide) (hts (.fieldLink RX11 56 "PhraseDesk$Parser" "lexer" "LPhraseDesk$Lexer;") (List.mem_of_getElem? (i := 6) rfl)) (fun _ h9 => h9) rfl dX11_letter_51 ?_
      refine lv_iload_n hx hb dX11_letter_54 rfl (lv_at hl 1 rfl) ?_
      refine lv_i2c hx hb dX11_letter_55 rfl ?_
      refine lv_topi (fun x4 ex4 => ?_)
      have hPc := hP.sub (ws' := [(a2, .inr (6, [.ref a3, .int 0, .ref a9, .ref a10, .ref a11, .ref a12, .int 0, .ref a13])), (a3, .inl (cy 4, 40, .inl (fun _ => 0)))]) [2, 3] rfl
      have hDc := hD.sub (ws' := [(a2, .inr (6, [.ref a3, .int 0, .ref a9, .ref a10, .ref a11, .ref a12, .int 0, .ref a13])), (a3, .inl (cy 4, 40, .inl (fun _ => 0)))]) [2, 3] (by decide) rfl
      have hFc := va_free (wc := [(a2, .inr (6, [.ref a3, .int 0, .ref a9, .ref a10, .ref a11, .ref a12, .int 0, .ref a13])), (a3, .inl (cy 4, 40, .inl (fun _ => 0)))]) hD hS hA [2, 3] rfl
      refine va_callv (va_runV (As := [.int x4]) (rest := []) ⟨hx, hb, hml, hown, hts⟩ (C_X4_append_1 l D cy sz0 sa a2 a3 a9 a10 a11 a12 a13 s.heap.size x4) (cwV 1 hts gX11_letter_X4_append rfl rfl rfl (by decide +kernel) ⟨Nat.le_of_ble_eq_true rfl, Nat.le_of_ble_eq_true rfl⟩) ⟨PcW.blind, va_recv hK hPc (ci := 6) (q0 := 0) rfl rfl, PcW.mk hE hS hAF hPc hDc⟩ rfl rfl hl.1 rfl (lv_room (Nat.le_of_ble_eq_true rfl)) dX11_letter_56 ⟨Nat.le_of_ble_eq_true rfl, Nat.le_of_ble_eq_true rfl⟩) hS (fun q _ h => hFc q h) hFc (fun u t H1 locs ht hvm hw hB hz1 hk1 hS => ?_)
      obtain ⟨hP1, hD1⟩ := hB
      rw [ht] at hP1
      have hP1 : va_P D vwCl [(a2, .inr (6, [.ref a3, .int 1, .ref a9, .ref a10, .ref a11, .ref a12, .int 0, .ref a13])), (a3, .inl (cy 4, 40, .inl (upd (fun _ => 0) 0 (vp_nar .char x4))))] H1 := hP1
      obtain ⟨hP, hD⟩ := va_join (wr := [(a0, .inr (13, [.ref a1, .ref a4, .ref a5, .int 0, .ref a6, .int 0, .ref a7, .int 0, .ref a8])), (a1, .inr (8, [.ref a2, .int 0, .int 0, .int 0]))]) (w1 := [(a2, .inr (6, [.ref a3, .int 1, .ref a9, .ref a10, .ref a11, .ref a12, .int 0, .ref a13])), (a3, .inl (cy 4, 40, .inl (upd (fun _ => 0) 0 (vp_nar .char x4))))]) hP hD [2, 3] [0, 1] rfl rfl (by decide) (by decide) hk1 hFc hP1 hD1
      clear hP1 hD1 hPc hDc hFc hk1 hz1
      generalize H1 = H at hP hS ⊢
      have hP : va_P D vwCl [(a0, .inr (13, [.ref a1, .ref a4, .ref a5, .int 0, .ref a6, .int 0, .ref a7, .int 0, .ref a8])), (a1, .inr (8, [.ref a2, .int 0, .int 0, .int 0])), (a2, .inr (6, [.ref a3, .int 1, .ref a9, .ref a10, .ref a11, .ref a12, .int 0, .ref a13])), (a3, .inl (cy 4, 40, .inl (upd (fun _ => 0) 0 (vp_nar .char x4))))] H := hP
      have hD : va_D A [(a0, .inr (13, [.ref a1, .ref a4, .ref a5, .int 0, .ref a6, .int 0, .ref a7, .int 0, .ref a8])), (a1, .inr (8, [.ref a2, .int 0, .int 0, .int 0])), (a2, .inr (6, [.ref a3, .int 1, .ref a9, .ref a10, .ref a11, .ref a12, .int 0, .ref a13])), (a3, .inl (cy 4, 40, .inl (upd (fun _ => 0) 0 (vp_nar .char x4))))] := hD
      refine W.widen (k := 0) (n := 0) (Nat.le_of_ble_eq_true rfl) (Nat.le_of_ble_eq_true rfl) ?_
      refine lv_aload_n hx hb dX11_letter_59 rfl (lv_at hl 0 rfl) ?_
      refine va_get (D := D) (ci := 13) (v := .ref a1) (C := RX11) (T := TX11) (N := 9) hx hb hts (fun _ h => List.mem_cons_of_mem _ (List.mem_append_left _ (List.mem_append_left _ (List.mem_append_left _ (List.mem_append_left _ (List.mem_append_right _ h)))))) hown hK hP 0 rfl rfl 0 (by decide) (hts (.fieldLink RX11 10 "PhraseDesk" "parser" "LPhraseDesk$Parser;") (List.mem_of_getElem? (i := 5) rfl)) (fun _ h9 => h9) rfl dX11_letter_60 ?_
      refine va_get (D := D) (ci := 8) (v := .ref a2) (C := RX6) (T := TX6) (N := 4) hx hb hts (fun _ h => List.mem_cons_of_mem _ (List.mem_append_left _ (List.mem_append_left _ (List.mem_append_left _ (List.mem_append_right _ h))))) hown hK hP 1 rfl rfl 0 (by decide) (hts (.fieldLink RX11 56 "PhraseDesk$Parser" "lexer" "LPhraseDesk$Lexer;") (List.mem_of_getElem? (i := 6) rfl)) (fun _ h9 => h9) rfl dX11_letter_63 ?_
      refine va_get (D := D) (ci := 6) (v := .int 1) (C := RX4) (T := TX4) (N := 8) hx hb hts (fun _ h => List.mem_cons_of_mem _ (List.mem_append_left _ (List.mem_append_left _ (List.mem_append_right _ h)))) hown hK hP 2 rfl rfl 1 (by decide) (hts (.fieldLink RX11 60 "PhraseDesk$Lexer" "length" "I") (List.mem_of_getElem? (i := 7) rfl)) (fun _ h9 => h9) rfl dX11_letter_66 ?_
      refine vx_ret ?_
      refine W.widen (k := 1) (n := 6) (Nat.le_of_ble_eq_true rfl) (Nat.le_of_ble_eq_true rfl) ?_
      exact W.iret (v := 1) hx hb hr (fun t ht hW => ⟨⟨1, (), rfl, ⟨rfl, by omega⟩, trivial⟩, hS.F ht⟩) hS.2.2 dX11_letter_69
    · have c2 := z_nle c2
      exact g_iae hx hb hfl hts hE hAF hown (List.mem_of_getElem? (i := 1) rfl) (List.mem_of_getElem? (i := 2) rfl) (is := 51) (text := "no character 32 .. 126") (by decide +kernel) (fun _ h => List.mem_cons_of_mem _ (List.mem_append_left _ (List.mem_append_right _ h))) hS (by rw [hml]; exact hl.1) dX11_letter_12 dX11_letter_15 dX11_letter_16 dX11_letter_18 dX11_letter_21 hout (by decide) (by decide) (Nat.le_of_ble_eq_true rfl) (Nat.le_of_ble_eq_true rfl) hlocks (fun t h1 h2 h3 => ⟨(), trivial, ⟨rfl, by omega⟩, Nat.le_trans hS.1 h2, fun q h4 h5 => (h3 q (Nat.lt_of_lt_of_le h4 hS.1)).trans (hS.2.1 q h4 h5)⟩) hS.2.2 (Nat.le_of_ble_eq_true rfl) (Nat.le_of_ble_eq_true rfl)
set_option maxHeartbeats 1000000 in
set_option maxRecDepth 100000 in
theorem C_L_letter_1 (l : Launch) (hfl : l.stackTraces = false) (D : va_G) (cy : Nat → ClassId) (sz0 : Nat) (sa : Nat → Nat) (a0 a1 a2 a3 a4 a5 a6 a7 a8 a9 a10 a11 a12 a13 a14 : Nat) (sz : Nat) (k0 : Int32) : Met l yL_letter wsL_letter ({ frames := 7, cells := 1, slots := 6, locals := 103 }) (PcW D cy sz0 sa [.ref a0, .int k0, .ref a1] [(a0, .inr (13, [.ref a2, .ref a5, .ref a6, .int 0, .ref a7, .int 0, .ref a8, .int 0, .ref a9])), (a2, .inr (8, [.ref a3, .int 0, .int 0, .int 0])), (a3, .inr (6, [.ref a4, .int 0, .ref a10, .ref a11, .ref a12, .ref a13, .int 0, .ref a14])), (a4, .inl (cy 4, 40, .inl (fun _ => 0))), (a1, .inl (cy 1, 1, .inr (.inl (fun _ => 0))))] sz) (va_Qi (fun (r : Int32) (u : Int64) => (r = 1 ∧ u = 0 ∧ (((k0.toInt < 32) ∨ (32 ≤ k0.toInt ∧ 126 < k0.toInt)))) ∨ (r = 0 ∧ u = 1 ∧ ((32 ≤ k0.toInt ∧ k0.toInt ≤ 126)))) (fun (u : Int64) (t : State) => ∃ f : Nat → Int64, BW D [(a1, .inl (cy 1, 1, .inr (.inl f)))] (va_A [(a0, .inr (13, [.ref a2, .ref a5, .ref a6, .int 0, .ref a7, .int 0, .ref a8, .int 0, .ref a9])), (a2, .inr (8, [.ref a3, .int 0, .int 0, .int 0])), (a3, .inr (6, [.ref a4, .int 0, .ref a10, .ref a11, .ref a12, .ref a13, .int 0, .ref a14])), (a4, .inl (cy 4, 40, .inl (fun _ => 0))), (a1, .inl (cy 1, 1, .inr (.inl (fun _ => 0))))] sz) t ∧ f 0 = u) (va_A [(a0, .inr (13, [.ref a2, .ref a5, .ref a6, .int 0, .ref a7, .int 0, .ref a8, .int 0, .ref a9])), (a2, .inr (8, [.ref a3, .int 0, .int 0, .int 0])), (a3, .inr (6, [.ref a4, .int 0, .ref a10, .ref a11, .ref a12, .ref a13, .int 0, .ref a14])), (a4, .inl (cy 4, 40, .inl (fun _ => 0))), (a1, .inl (cy 1, 1, .inr (.inl (fun _ => 0))))] sz)) 1 6 (va_A [(a0, .inr (13, [.ref a2, .ref a5, .ref a6, .int 0, .ref a7, .int 0, .ref a8, .int 0, .ref a9])), (a2, .inr (8, [.ref a3, .int 0, .int 0, .int 0])), (a3, .inr (6, [.ref a4, .int 0, .ref a10, .ref a11, .ref a12, .ref a13, .int 0, .ref a14])), (a4, .inl (cy 4, 40, .inl (fun _ => 0))), (a1, .inl (cy 1, 1, .inr (.inl (fun _ => 0))))] sz) := by
  refine va_MetW (cc := cL_letter) (maxL := 4) (ret := (some .int)) (hh := [(0, 9, 12, 13), (0, 9, 15, 15)]) (by decide) rfl ?_
  intro p e s m args below meth c s₁ B hml hv
  obtain ⟨rfl, hsz, hP, hD0, hE⟩ := hv
  have hx := B.exec
  have hb := B.bytes
  have hr := B.returns
  have hts := atoms_spec (ws := wsL_letter) B.pre
  have hown : s.vm.findClass RL = some m.cls := findClass_of_methodNamed B.named
  have hlocks := B.notSynchronized
  subst hsz
  have hK := hE.1
  have hAm := hE.2.2.1
  have hWm := hE.2.2.2
  have hAO := hWm.2.2.2.1
  have hD := hD0.self (sz := s.heap.size)
  have hAF := frA hD0 hE.2.1
  generalize hAe : va_A [(a0, .inr (13, [.ref a2, .ref a5, .ref a6, .int 0, .ref a7, .int 0, .ref a8, .int 0, .ref a9])), (a2, .inr (8, [.ref a3, .int 0, .int 0, .int 0])), (a3, .inr (6, [.ref a4, .int 0, .ref a10, .ref a11, .ref a12, .ref a13, .int 0, .ref a14])), (a4, .inl (cy 4, 40, .inl (fun _ => 0))), (a1, .inl (cy 1, 1, .inr (.inl (fun _ => 0))))] s.heap.size = A at hD hAF ⊢
  have hA : ∀ q : Nat, s.heap.size ≤ q → A q := fun q h => by rw [← hAe]; exact Or.inr h
  have hS : va_S A s.heap s.heap [] := va_S.rf
  have hl := lv_entry ([.ref a0, .int k0, .ref a1]) (n := 4) (Nat.le_of_ble_eq_true rfl)
  rw [lg_entry_eq]
  generalize (lg_sl ([.ref a0, .int k0, .ref a1]) ++ List.replicate (4 - (lg_sl ([.ref a0, .int k0, .ref a1])).length) Slot.unset).toArray = ls at hl ⊢
  have hl : lv_has ls 4 [(0, .ref a0), (1, .int k0), (2, .ref a1)] := hl
  have hP : va_P D vwCl [(a0, .inr (13, [.ref a2, .ref a5, .ref a6, .int 0, .ref a7, .int 0, .ref a8, .int 0, .ref a9])), (a2, .inr (8, [.ref a3, .int 0, .int 0, .int 0])), (a3, .inr (6, [.ref a4, .int 0, .ref a10, .ref a11, .ref a12, .ref a13, .int 0, .ref a14])), (a4, .inl (cy 4, 40, .inl (fun _ => 0))), (a1, .inl (cy 1, 1, .inr (.inl (fun _ => 0))))] s.heap := hP
  have z32 : (32 : Int32).toInt = 32 := by decide +kernel
  have z126 : (126 : Int32).toInt = 126 := by decide +kernel
  refine lv_aload_n hx hb dL_letter_0 rfl (lv_at hl 2 rfl) ?_
  refine lv_iconst (v := 0) hx hb dL_letter_1 (by decide +kernel) ?_
  refine lv_aload_n hx hb dL_letter_2 rfl (lv_at hl 0 rfl) ?_
  refine lv_iload_n hx hb dL_letter_3 rfl (lv_at hl 1 rfl) ?_
  have hPc := hP.sub (ws' := [(a0, .inr (13, [.ref a2, .ref a5, .ref a6, .int 0, .ref a7, .int 0, .ref a8, .int 0, .ref a9])), (a2, .inr (8, [.ref a3, .int 0, .int 0, .int 0])), (a3, .inr (6, [.ref a4, .int 0, .ref a10, .ref a11, .ref a12, .ref a13, .int 0, .ref a14])), (a4, .inl (cy 4, 40, .inl (fun _ => 0)))]) [0, 1, 2, 3] rfl
  have hDc := hD.sub (ws' := [(a0, .inr (13, [.ref a2, .ref a5, .ref a6, .int 0, .ref a7, .int 0, .ref a8, .int 0, .ref a9])), (a2, .inr (8, [.ref a3, .int 0, .int 0, .int 0])), (a3, .inr (6, [.ref a4, .int 0, .ref a10, .ref a11, .ref a12, .ref a13, .int 0, .ref a14])), (a4, .inl (cy 4, 40, .inl (fun _ => 0)))]) [0, 1, 2, 3] (by decide) rfl
  have hFc := va_free (wc := [(a0, .inr (13, [.ref a2, .ref a5, .ref a6, .int 0, .ref a7, .int 0, .ref a8, .int 0, .ref a9])), (a2, .inr (8, [.ref a3, .int 0, .int 0, .int 0])), (a3, .inr (6, [.ref a4, .int 0, .ref a10, .ref a11, .ref a12, .ref a13, .int 0, .ref a14])), (a4, .inl (cy 4, 40, .inl (fun _ => 0)))]) hD hS hA [0, 1, 2, 3] rfl
  refine vx_calli (vx_runV (As := [.int k0]) (rest := [.int 0, .ref a1]) ⟨hx, hb, hml, hown, hts⟩ (C_X11_letter_1 l hfl D cy sz0 sa a0 a2 a3 a4 a5 a6 a7 a8 a9 a10 a11 a12 a13 a14 s.heap.size k0) (cwV 1 hts gL_letter_X11_letter rfl rfl rfl (by decide +kernel) ⟨Nat.le_of_ble_eq_true rfl, Nat.le_of_ble_eq_true rfl⟩) ⟨PcW.blind, va_recv hK hPc (ci := 13) (q0 := 0) rfl rfl, PcW.mk hE hS hAF hPc hDc⟩ rfl rfl hl.1 rfl (lv_room (Nat.le_of_ble_eq_true rfl)) dL_letter_4 ⟨Nat.le_of_ble_eq_true rfl, Nat.le_of_ble_eq_true rfl⟩) hS (fun q _ h => hFc q h) hFc (fun q _ h => hFc q h) (fun E ce q9 u t H1 locs ht hvm hpx hbx hz1 hk1 hS hq9 hv9 hc9 => ?_) (fun r_1 u t H1 locs ht hvm hw hB hz1 hk1 hS => ?_)
  · obtain ⟨rfl, hxr_1⟩ := hbx
    obtain ⟨hP, hD⟩ := va_join (wr := [(a1, .inl (cy 1, 1, .inr (.inl (fun _ => 0))))]) (w1 := []) hP hD [0, 1, 2, 3] [4] rfl rfl (by decide) (by decide) hk1 hFc nilP nilD
    skip
    have hq8 := hq9
    clear hPc hDc hFc hk1 hz1
    skip
    have hP : va_P D vwCl [(a1, .inl (cy 1, 1, .inr (.inl (fun _ => 0))))] H1 := hP
    have hD : va_D A [(a1, .inl (cy 1, 1, .inr (.inl (fun _ => 0))))] := hD
    refine vx_widen (k := 1) (n := 6) (Nat.le_of_ble_eq_true rfl) (Nat.le_of_ble_eq_true rfl) ?_
    refine vx_catch hown [] _ _ ((vx_table B (hts (.codeWith yL_letter cL_letter 4 (some .int) [(0, 9, 12, 13), (0, 9, 15, 15)]) (List.mem_of_getElem? (i := 0) rfl))).trans rfl) (fun z hz => absurd hz List.not_mem_nil) (by decide) (by decide) (hts (.classLink RL 13 "java/lang/IllegalArgumentException") (List.mem_of_getElem? (i := 1) rfl)) (va_Nw.use rfl hWm.2.2.1.2.2.2.1) hq9 hv9 hc9 ?_
    clear hq8 hq9 ht
    generalize H1 = H at hP hS ⊢
    refine lv_astore_n (lv' := [(3, .ref q9), (0, .ref a0), (1, .int k0), (2, .ref a1)]) hx hb dL_letter_12 rfl hl (by decide) rfl (fun ls hl => ?_)
    refine lv_iconst (v := 1) hx hb dL_letter_13 (by decide +kernel) ?_
    refine W.widen (k := 1) (n := 6) (Nat.le_of_ble_eq_true rfl) (Nat.le_of_ble_eq_true rfl) ?_
    have hP9 := hP.sub (ws' := [(a1, .inl (cy 1, 1, .inr (.inl (fun _ => 0))))]) [0] rfl
    have hD9 := hD.sub (ws' := [(a1, .inl (cy 1, 1, .inr (.inl (fun _ => 0))))]) [0] (by decide) rfl
    exact W.iret (v := 1) hx hb hr (fun t ht hW => ⟨⟨1, 0, rfl, Or.inl ⟨rfl, rfl, by omega⟩, ⟨(fun _ => 0), ⟨by rw [ht]; exact hP9, hD9⟩, by decide +kernel⟩⟩, hS.F ht⟩) hS.2.2 dL_letter_14
  · obtain ⟨hP, hD⟩ := va_join (wr := [(a1, .inl (cy 1, 1, .inr (.inl (fun _ => 0))))]) (w1 := []) hP hD [0, 1, 2, 3] [4] rfl rfl (by decide) (by decide) hk1 hFc nilP nilD
    clear hPc hDc hFc hk1 hz1
    generalize H1 = H at hP hS ⊢
    have hP : va_P D vwCl [(a1, .inl (cy 1, 1, .inr (.inl (fun _ => 0))))] H := hP
    have hD : va_D A [(a1, .inl (cy 1, 1, .inr (.inl (fun _ => 0))))] := hD
    refine W.widen (k := 1) (n := 6) (Nat.le_of_ble_eq_true rfl) (Nat.le_of_ble_eq_true rfl) ?_
    obtain ⟨hr, hcr_1⟩ := hw
    obtain rfl : r_1 = 1 := hr
    refine lv_i2l (v := 1) hx hb dL_letter_7 (by decide +kernel) ?_
    refine va_last hx hb hK hP hD hS 0 1 rfl rfl (by unfold vp_in; decide +kernel) dL_letter_8 (fun H locs hP hD hS => ?_)
    have hP : va_P D vwCl [(a1, .inl (cy 1, 1, .inr (.inl (vp_updL (fun _ => 0) 0 1))))] H := hP
    have hD : va_D A [(a1, .inl (cy 1, 1, .inr (.inl (vp_updL (fun _ => 0) 0 1))))] := hD
    refine lv_goto (tgt := 18) hx hb dL_letter_9 (by decide) ?_
    refine lv_iconst (v := 0) hx hb dL_letter_18 (by decide +kernel) ?_
    refine W.widen (k := 1) (n := 6) (Nat.le_of_ble_eq_true rfl) (Nat.le_of_ble_eq_true rfl) ?_
    have hP9 := hP.sub (ws' := [(a1, .inl (cy 1, 1, .inr (.inl (vp_updL (fun _ => 0) 0 1))))]) [0] rfl
    have hD9 := hD.sub (ws' := [(a1, .inl (cy 1, 1, .inr (.inl (vp_updL (fun _ => 0) 0 1))))]) [0] (by decide) rfl
    exact W.iret (v := 0) hx hb hr (fun t ht hW => ⟨⟨0, 1, rfl, Or.inr (⟨rfl, rfl, by omega⟩), ⟨(vp_updL (fun _ => 0) 0 1), ⟨by rw [ht]; exact hP9, hD9⟩, by decide +kernel⟩⟩, hS.F ht⟩) hS.2.2 dL_letter_19
set_option maxHeartbeats 1000000 in
set_option maxRecDepth 100000 in
theorem C_X4_add_1 (l : Launch) (D : va_G) (cy : Nat → ClassId) (sz0 : Nat) (sa : Nat → Nat) (a0 a1 a2 a3 a4 a5 a6 : Nat) (sz : Nat)  : Met l yX4_add wsX4_add ({ frames := 0, cells := 0, slots := 0, locals := 0 }) (PcW D cy sz0 sa [.ref a0, .int 0, .int 0, .int 0, .null] [(a0, .inr (6, [.ref a5, .int 0, .ref a1, .ref a2, .ref a3, .ref a4, .int 0, .ref a6])), (a1, .inl (cy 0, 41, .inl (fun _ => 0))), (a2, .inl (cy 0, 41, .inl (fun _ => 0))), (a3, .inl (cy 0, 41, .inl (fun _ => 0))), (a4, .inl (cy 6, 41, .inr (.inr (.inr (.inr (fun _ => none))))))] sz) (va_Qv (fun (u : Unit) => True) (fun (u : Unit) (t : State) => BW D [(a0, .inr (6, [.ref a5, .int 0, .ref a1, .ref a2, .ref a3, .ref a4, .int 1, .ref a6])), (a1, .inl (cy 0, 41, .inl (upd (fun _ => 0) 0 0))), (a2, .inl (cy 0, 41, .inl (upd (fun _ => 0) 0 0))), (a3, .inl (cy 0, 41, .inl (upd (fun _ => 0) 0 0))), (a4, .inl (cy 6, 41, .inr (.inr (.inr (.inr (va_up (fun _ => none) 0 none))))))] (va_A [(a0, .inr (6, [.ref a5, .int 0, .ref a1, .ref a2, .ref a3, .ref a4, .int 0, .ref a6])), (a1, .inl (cy 0, 41, .inl (fun _ => 0))), (a2, .inl (cy 0, 41, .inl (fun _ => 0))), (a3, .inl (cy 0, 41, .inl (fun _ => 0))), (a4, .inl (cy 6, 41, .inr (.inr (.inr (.inr (fun _ => none))))))] sz) t) (va_A [(a0, .inr (6, [.ref a5, .int 0, .ref a1, .ref a2, .ref a3, .ref a4, .int 0, .ref a6])), (a1, .inl (cy 0, 41, .inl (fun _ => 0))), (a2, .inl (cy 0, 41, .inl (fun _ => 0))), (a3, .inl (cy 0, 41, .inl (fun _ => 0))), (a4, .inl (cy 6, 41, .inr (.inr (.inr (.inr (fun _ => none))))))] sz)) 0 0 (va_A [(a0, .inr (6, [.ref a5, .int 0, .ref a1, .ref a2, .ref a3, .ref a4, .int 0, .ref a6])), (a1, .inl (cy 0, 41, .inl (fun _ => 0))), (a2, .inl (cy 0, 41, .inl (fun _ => 0))), (a3, .inl (cy 0, 41, .inl (fun _ => 0))), (a4, .inl (cy 6, 41, .inr (.inr (.inr (.inr (fun _ => none))))))] sz) := by
  refine Met.ofW (cc := cX4_add) (maxL := 5) (ret := none) (by decide) rfl ?_
  intro p e s m args below meth c s₁ B hml hv
  obtain ⟨rfl, hsz, hP, hD0, hE⟩ := hv
  have hx := B.exec
  have hb := B.bytes
  have hr := B.returns
  have hts := atoms_spec (ws := wsX4_add) B.pre
  have hown : s.vm.findClass RX4 = some m.cls := findClass_of_methodNamed B.named
  have hlocks := B.notSynchronized
  subst hsz
  have hK := hE.1
  have hAm := hE.2.2.1
  have hWm := hE.2.2.2
  have hAO := hWm.2.2.2.1
  have hD := hD0.self (sz := s.heap.size)
  have hAF := frA hD0 hE.2.1
  generalize hAe : va_A [(a0, .inr (6, [.ref a5, .int 0, .ref a1, .ref a2, .ref a3, .ref a4, .int 0, .ref a6])), (a1, .inl (cy 0, 41, .inl (fun _ => 0))), (a2, .inl (cy 0, 41, .inl (fun _ => 0))), (a3, .inl (cy 0, 41, .inl (fun _ => 0))), (a4, .inl (cy 6, 41, .inr (.inr (.inr (.inr (fun _ => none))))))] s.heap.size = A at hD hAF ⊢
  have hA : ∀ q : Nat, s.heap.size ≤ q → A q := fun q h => by rw [← hAe]; exact Or.inr h
  have hS : va_S A s.heap s.heap [] := va_S.rf
  have hl := lv_entry ([.ref a0, .int 0, .int 0, .int 0, .null]) (n := 5) (Nat.le_of_ble_eq_true rfl)
  rw [lg_entry_eq]
  generalize (lg_sl ([.ref a0, .int 0, .int 0, .int 0, .null]) ++ List.replicate (5 - (lg_sl ([.ref a0, .int 0, .int 0, .int 0, .null])).length) Slot.unset).toArray = ls at hl ⊢
  have hl : lv_has ls 5 [(0, .ref a0), (1, .int 0), (2, .int 0), (3, .int 0), (4, .null)] := hl
  have hP : va_P D vwCl [(a0, .inr (6, [.ref a5, .int 0, .ref a1, .ref a2, .ref a3, .ref a4, .int 0, .ref a6])), (a1, .inl (cy 0, 41, .inl (fun _ => 0))), (a2, .inl (cy 0, 41, .inl (fun _ => 0))), (a3, .inl (cy 0, 41, .inl (fun _ => 0))), (a4, .inl (cy 6, 41, .inr (.inr (.inr (.inr (fun _ => none))))))] s.heap := hP
  refine lv_aload_n hx hb dX4_add_0 rfl (lv_at hl 0 rfl) ?_
  refine va_get (D := D) (ci := 6) (v := .int 0) (C := RX4) (T := TX4) (N := 8) hx hb hts (fun _ h => List.mem_cons_of_mem _ (List.mem_append_right _ h)) hown hK hP 0 rfl rfl 6 (by decide) (hts (.fieldLink RX4 42 "PhraseDesk$Lexer" "count" "I") (List.mem_of_getElem? (i := 1) rfl)) (fun _ h9 => h9) rfl dX4_add_1 ?_
  refine lv_aload_n hx hb dX4_add_4 rfl (lv_at hl 0 rfl) ?_
  refine va_get (D := D) (ci := 6) (v := .ref a1) (C := RX4) (T := TX4) (N := 8) hx hb hts (fun _ h => List.mem_cons_of_mem _ (List.mem_append_right _ h)) hown hK hP 0 rfl rfl 2 (by decide) (hts (.fieldLink RX4 15 "PhraseDesk$Lexer" "kinds" "[I") (List.mem_of_getElem? (i := 2) rfl)) (fun _ h9 => h9) rfl dX4_add_5 ?_
  refine va_alen (v := 41) hx hb hK hP 1 0 rfl rfl rfl dX4_add_8 ?_
  refine lv_icmp_ge (tgt := 99) hx hb dX4_add_9 (by decide) (fun c1 => absurd c1 (by decide +kernel)) (fun _ => ?_)
  refine lv_aload_n hx hb dX4_add_12 rfl (lv_at hl 0 rfl) ?_
  refine va_get (D := D) (ci := 6) (v := .int 0) (C := RX4) (T := TX4) (N := 8) hx hb hts (fun _ h => List.mem_cons_of_mem _ (List.mem_append_right _ h)) hown hK hP 0 rfl rfl 6 (by decide) (hts (.fieldLink RX4 42 "PhraseDesk$Lexer" "count" "I") (List.mem_of_getElem? (i := 1) rfl)) (fun _ h9 => h9) rfl dX4_add_13 ?_
  refine lv_aload_n hx hb dX4_add_16 rfl (lv_at hl 0 rfl) ?_
  refine va_get (D := D) (ci := 6) (v := .ref a2) (C := RX4) (T := TX4) (N := 8) hx hb hts (fun _ h => List.mem_cons_of_mem _ (List.mem_append_right _ h)) hown hK hP 0 rfl rfl 3 (by decide) (hts (.fieldLink RX4 19 "PhraseDesk$Lexer" "places" "[I") (List.mem_of_getElem? (i := 3) rfl)) (fun _ h9 => h9) rfl dX4_add_17 ?_
  refine va_alen (v := 41) hx hb hK hP 2 0 rfl rfl rfl dX4_add_20 ?_
  refine lv_icmp_ge (tgt := 99) hx hb dX4_add_21 (by decide) (fun c2 => absurd c2 (by decide +kernel)) (fun _ => ?_)
  refine lv_aload_n hx hb dX4_add_24 rfl (lv_at hl 0 rfl) ?_
  refine va_get (D := D) (ci := 6) (v := .int 0) (C := RX4) (T := TX4) (N := 8) hx hb hts (fun _ h => List.mem_cons_of_mem _ (List.mem_append_right _ h)) hown hK hP 0 rfl rfl 6 (by decide) (hts (.fieldLink RX4 42 "PhraseDesk$Lexer" "count" "I") (List.mem_of_getElem? (i := 1) rfl)) (fun _ h9 => h9) rfl dX4_add_25 ?_
  refine lv_aload_n hx hb dX4_add_28 rfl (lv_at hl 0 rfl) ?_
  refine va_get (D := D) (ci := 6) (v := .ref a3) (C := RX4) (T := TX4) (N := 8) hx hb hts (fun _ h => List.mem_cons_of_mem _ (List.mem_append_right _ h)) hown hK hP 0 rfl rfl 4 (by decide) (hts (.fieldLink RX4 22 "PhraseDesk$Lexer" "names" "[I") (List.mem_of_getElem? (i := 4) rfl)) (fun _ h9 => h9) rfl dX4_add_29 ?_
  refine va_alen (v := 41) hx hb hK hP 3 0 rfl rfl rfl dX4_add_32 ?_
  refine lv_icmp_ge (tgt := 99) hx hb dX4_add_33 (by decide) (fun c3 => absurd c3 (by decide +kernel)) (fun _ => ?_)
  refine lv_aload_n hx hb dX4_add_36 rfl (lv_at hl 0 rfl) ?_
  refine va_get (D := D) (ci := 6) (v := .int 0) (C := RX4) (T := TX4) (N := 8) hx hb hts (fun _ h => List.mem_cons_of_mem _ (List.mem_append_right _ h)) hown hK hP 0 rfl rfl 6 (by decide) (hts (.fieldLink RX4 42 "PhraseDesk$Lexer" "count" "I") (List.mem_of_getElem? (i := 1) rfl)) (fun _ h9 => h9) rfl dX4_add_37 ?_
  refine lv_aload_n hx hb dX4_add_40 rfl (lv_at hl 0 rfl) ?_
  refine va_get (D := D) (ci := 6) (v := .ref a4) (C := RX4) (T := TX4) (N := 8) hx hb hts (fun _ h => List.mem_cons_of_mem _ (List.mem_append_right _ h)) hown hK hP 0 rfl rfl 5 (by decide) (hts (.fieldLink RX4 27 "PhraseDesk$Lexer" "literals" "[LPhraseDesk$Value;") (List.mem_of_getElem? (i := 5) rfl)) (fun _ h9 => h9) rfl dX4_add_41 ?_
  refine va_alen (v := 41) hx hb hK hP 4 6 rfl rfl rfl dX4_add_44 ?_
  refine lv_icmp_ge (tgt := 99) hx hb dX4_add_45 (by decide) (fun c4 => absurd c4 (by decide +kernel)) (fun _ => ?_)
  refine lv_aload_n hx hb dX4_add_48 rfl (lv_at hl 0 rfl) ?_
  refine va_get (D := D) (ci := 6) (v := .ref a1) (C := RX4) (T := TX4) (N := 8) hx hb hts (fun _ h => List.mem_cons_of_mem _ (List.mem_append_right _ h)) hown hK hP 0 rfl rfl 2 (by decide) (hts (.fieldLink RX4 15 "PhraseDesk$Lexer" "kinds" "[I") (List.mem_of_getElem? (i := 2) rfl)) (fun _ h9 => h9) rfl dX4_add_49 ?_
  refine lv_aload_n hx hb dX4_add_52 rfl (lv_at hl 0 rfl) ?_
  refine va_get (D := D) (ci := 6) (v := .int 0) (C := RX4) (T := TX4) (N := 8) hx hb hts (fun _ h => List.mem_cons_of_mem _ (List.mem_append_right _ h)) hown hK hP 0 rfl rfl 6 (by decide) (hts (.fieldLink RX4 42 "PhraseDesk$Lexer" "count" "I") (List.mem_of_getElem? (i := 1) rfl)) (fun _ h9 => h9) rfl dX4_add_53 ?_
  refine lv_iload_n hx hb dX4_add_56 rfl (lv_at hl 1 rfl) ?_
  refine va_iast hx hb hK hP hD hS 1 0 rfl rfl (by unfold vp_in; decide +kernel) dX4_add_57 (fun H locs hP hD hS => ?_)
  have hP : va_P D vwCl [(a0, .inr (6, [.ref a5, .int 0, .ref a1, .ref a2, .ref a3, .ref a4, .int 0, .ref a6])), (a1, .inl (cy 0, 41, .inl (upd (fun _ => 0) 0 0))), (a2, .inl (cy 0, 41, .inl (fun _ => 0))), (a3, .inl (cy 0, 41, .inl (fun _ => 0))), (a4, .inl (cy 6, 41, .inr (.inr (.inr (.inr (fun _ => none))))))] H := hP
  have hD : va_D A [(a0, .inr (6, [.ref a5, .int 0, .ref a1, .ref a2, .ref a3, .ref a4, .int 0, .ref a6])), (a1, .inl (cy 0, 41, .inl (upd (fun _ => 0) 0 0))), (a2, .inl (cy 0, 41, .inl (fun _ => 0))), (a3, .inl (cy 0, 41, .inl (fun _ => 0))), (a4, .inl (cy 6, 41, .inr (.inr (.inr (.inr (fun _ => none))))))] := hD
  refine lv_aload_n hx hb dX4_add_58 rfl (lv_at hl 0 rfl) ?_
  refine va_get (D := D) (ci := 6) (v := .ref a2) (C := RX4) (T := TX4) (N := 8) hx hb hts (fun _ h => List.mem_cons_of_mem _ (List.mem_append_right _ h)) hown hK hP 0 rfl rfl 3 (by decide) (hts (.fieldLink RX4 19 "PhraseDesk$Lexer" "places" "[I") (List.mem_of_getElem? (i := 3) rfl)) (fun _ h9 => h9) rfl dX4_add_59 ?_
  refine lv_aload_n hx hb dX4_add_62 rfl (lv_at hl 0 rfl) ?_
  refine va_get (D := D) (ci := 6) (v := .int 0) (C := RX4) (T := TX4) (N := 8) hx hb hts (fun _ h => List.mem_cons_of_mem _ (List.mem_append_right _ h)) hown hK hP 0 rfl rfl 6 (by decide) (hts (.fieldLink RX4 42 "PhraseDesk$Lexer" "count" "I") (List.mem_of_getElem? (i := 1) rfl)) (fun _ h9 => h9) rfl dX4_add_63 ?_
  refine lv_iload_n hx hb dX4_add_66 rfl (lv_at hl 2 rfl) ?_
  refine va_iast hx hb hK hP hD hS 2 0 rfl rfl (by unfold vp_in; decide +kernel) dX4_add_67 (fun H locs hP hD hS => ?_)
  have hP : va_P D vwCl [(a0, .inr (6, [.ref a5, .int 0, .ref a1, .ref a2, .ref a3, .ref a4, .int 0, .ref a6])), (a1, .inl (cy 0, 41, .inl (upd (fun _ => 0) 0 0))), (a2, .inl (cy 0, 41, .inl (upd (fun _ => 0) 0 0))), (a3, .inl (cy 0, 41, .inl (fun _ => 0))), (a4, .inl (cy 6, 41, .inr (.inr (.inr (.inr (fun _ => none))))))] H := hP
  have hD : va_D A [(a0, .inr (6, [.ref a5, .int 0, .ref a1, .ref a2, .ref a3, .ref a4, .int 0, .ref a6])), (a1, .inl (cy 0, 41, .inl (upd (fun _ => 0) 0 0))), (a2, .inl (cy 0, 41, .inl (upd (fun _ => 0) 0 0))), (a3, .inl (cy 0, 41, .inl (fun _ => 0))), (a4, .inl (cy 6, 41, .inr (.inr (.inr (.inr (fun _ => none))))))] := hD
  refine lv_aload_n hx hb dX4_add_68 rfl (lv_at hl 0 rfl) ?_
  refine va_get (D := D) (ci := 6) (v := .ref a3) (C := RX4) (T := TX4) (N := 8) hx hb hts (fun _ h => List.mem_cons_of_mem _ (List.mem_append_right _ h)) hown hK hP 0 rfl rfl 4 (by decide) (hts (.fieldLink RX4 22 "PhraseDesk$Lexer" "names" "[I") (List.mem_of_getElem? (i := 4) rfl)) (fun _ h9 => h9) rfl dX4_add_69 ?_
  refine lv_aload_n hx hb dX4_add_72 rfl (lv_at hl 0 rfl) ?_
  refine va_get (D := D) (ci := 6) (v := .int 0) (C := RX4) (T := TX4) (N := 8) hx hb hts (fun _ h => List.mem_cons_of_mem _ (List.mem_append_right _ h)) hown hK hP 0 rfl rfl 6 (by decide) (hts (.fieldLink RX4 42 "PhraseDesk$Lexer" "count" "I") (List.mem_of_getElem? (i := 1) rfl)) (fun _ h9 => h9) rfl dX4_add_73 ?_
  refine lv_iload_n hx hb dX4_add_76 rfl (lv_at hl 3 rfl) ?_
  refine va_iast hx hb hK hP hD hS 3 0 rfl rfl (by unfold vp_in; decide +kernel) dX4_add_77 (fun H locs hP hD hS => ?_)
  have hP : va_P D vwCl [(a0, .inr (6, [.ref a5, .int 0, .ref a1, .ref a2, .ref a3, .ref a4, .int 0, .ref a6])), (a1, .inl (cy 0, 41, .inl (upd (fun _ => 0) 0 0))), (a2, .inl (cy 0, 41, .inl (upd (fun _ => 0) 0 0))), (a3, .inl (cy 0, 41, .inl (upd (fun _ => 0) 0 0))), (a4, .inl (cy 6, 41, .inr (.inr (.inr (.inr (fun _ => none))))))] H := hP
  have hD : va_D A [(a0, .inr (6, [.ref a5, .int 0, .ref a1, .ref a2, .ref a3, .ref a4, .int 0, .ref a6])), (a1, .inl (cy 0, 41, .inl (upd (fun _ => 0) 0 0))), (a2, .inl (cy 0, 41, .inl (upd (fun _ => 0) 0 0))), (a3, .inl (cy 0, 41, .inl (upd (fun _ => 0) 0 0))), (a4, .inl (cy 6, 41, .inr (.inr (.inr (.inr (fun _ => none))))))] := hD
  refine lv_aload_n hx hb dX4_add_78 rfl (lv_at hl 0 rfl) ?_
  refine va_get (D := D) (ci := 6) (v := .ref a4) (C := RX4) (T := TX4) (N := 8) hx hb hts (fun _ h => List.mem_cons_of_mem _ (List.mem_append_right _ h)) hown hK hP 0 rfl rfl 5 (by decide) (hts (.fieldLink RX4 27 "PhraseDesk$Lexer" "literals" "[LPhraseDesk$Value;") (List.mem_of_getElem? (i := 5) rfl)) (fun _ h9 => h9) rfl dX4_add_79 ?_
  refine lv_aload_n hx hb dX4_add_82 rfl (lv_at hl 0 rfl) ?_
  refine va_get (D := D) (ci := 6) (v := .int 0) (C := RX4) (T := TX4) (N := 8) hx hb hts (fun _ h => List.mem_cons_of_mem _ (List.mem_append_right _ h)) hown hK hP 0 rfl rfl 6 (by decide) (hts (.fieldLink RX4 42 "PhraseDesk$Lexer" "count" "I") (List.mem_of_getElem? (i := 1) rfl)) (fun _ h9 => h9) rfl dX4_add_83 ?_
  refine lv_aloadN hx hb dX4_add_86 (lv_at hl 4 rfl) ?_
  refine va_astqN (C := "PhraseDesk$Value") hx hb hK hP hD hS 4 6 rfl rfl (by unfold vp_in; decide +kernel) dX4_add_88 (fun H locs hP hD hS => ?_)
  have hP : va_P D vwCl [(a0, .inr (6, [.ref a5, .int 0, .ref a1, .ref a2, .ref a3, .ref a4, .int 0, .ref a6])), (a1, .inl (cy 0, 41, .inl (upd (fun _ => 0) 0 0))), (a2, .inl (cy 0, 41, .inl (upd (fun _ => 0) 0 0))), (a3, .inl (cy 0, 41, .inl (upd (fun _ => 0) 0 0))), (a4, .inl (cy 6, 41, .inr (.inr (.inr (.inr (va_up (fun _ => none) 0 none))))))] H := hP
  have hD : va_D A [(a0, .inr (6, [.ref a5, .int 0, .ref a1, .ref a2, .ref a3, .ref a4, .int 0, .ref a6])), (a1, .inl (cy 0, 41, .inl (upd (fun _ => 0) 0 0))), (a2, .inl (cy 0, 41, .inl (upd (fun _ => 0) 0 0))), (a3, .inl (cy 0, 41, .inl (upd (fun _ => 0) 0 0))), (a4, .inl (cy 6, 41, .inr (.inr (.inr (.inr (va_up (fun _ => none) 0 none))))))] := hD
  refine lv_aload_n hx hb dX4_add_89 rfl (lv_at hl 0 rfl) ?_
  refine lv_dup hx hb dX4_add_90 rfl ?_
  refine va_get (D := D) (ci := 6) (v := .int 0) (C := RX4) (T := TX4) (N := 8) hx hb hts (fun _ h => List.mem_cons_of_mem _ (List.mem_append_right _ h)) hown hK hP 0 rfl rfl 6 (by decide) (hts (.fieldLink RX4 42 "PhraseDesk$Lexer" "count" "I") (List.mem_of_getElem? (i := 1) rfl)) (fun _ h9 => h9) rfl dX4_add_91 ?_
  refine lv_iconst (v := 1) hx hb dX4_add_94 (by decide +kernel) ?_
  refine lv_iadd hx hb dX4_add_95 ?_
  refine lv_topi (fun x5 ex5 => ?_)
  obtain rfl : x5 = 1 := ex5.trans (by decide +kernel)
  refine va_put (D := D) (ci := 6) (v := .int 1) (ty := .int) (C := RX4) (T := TX4) (N := 8) hx hb hts (fun _ h => List.mem_cons_of_mem _ (List.mem_append_right _ h)) tyX4 tyX4_ok nmX4 hown hK hP hD hS 0 rfl rfl 6 (by decide) (hts (.fieldLink RX4 42 "PhraseDesk$Lexer" "count" "I") (List.mem_of_getElem? (i := 1) rfl)) (fun _ h9 => h9) rfl (by decide +kernel) rfl rfl (Nat.le_of_ble_eq_true rfl) dX4_add_96 (fun H locs hP hD hS => ?_)
  have hP : va_P D vwCl [(a0, .inr (6, [.ref a5, .int 0, .ref a1, .ref a2, .ref a3, .ref a4, .int 1, .ref a6])), (a1, .inl (cy 0, 41, .inl (upd (fun _ => 0) 0 0))), (a2, .inl (cy 0, 41, .inl (upd (fun _ => 0) 0 0))), (a3, .inl (cy 0, 41, .inl (upd (fun _ => 0) 0 0))), (a4, .inl (cy 6, 41, .inr (.inr (.inr (.inr (va_up (fun _ => none) 0 none))))))] H := hP
  have hD : va_D A [(a0, .inr (6, [.ref a5, .int 0, .ref a1, .ref a2, .ref a3, .ref a4, .int 1, .ref a6])), (a1, .inl (cy 0, 41, .inl (upd (fun _ => 0) 0 0))), (a2, .inl (cy 0, 41, .inl (upd (fun _ => 0) 0 0))), (a3, .inl (cy 0, 41, .inl (upd (fun _ => 0) 0 0))), (a4, .inl (cy 6, 41, .inr (.inr (.inr (.inr (va_up (fun _ => none) 0 none))))))] := hD
  refine W.widen (k := 0) (n := 0) (Nat.le_of_ble_eq_true rfl) (Nat.le_of_ble_eq_true rfl) ?_
  have hP9 := hP.sub (ws' := [(a0, .inr (6, [.ref a5, .int 0, .ref a1, .ref a2, .ref a3, .ref a4, .int 1, .ref a6])), (a1, .inl (cy 0, 41, .inl (upd (fun _ => 0) 0 0))), (a2, .inl (cy 0, 41, .inl (upd (fun _ => 0) 0 0))), (a3, .inl (cy 0, 41, .inl (upd (fun _ => 0) 0 0))), (a4, .inl (cy 6, 41, .inr (.inr (.inr (.inr (va_up (fun _ => none) 0 none))))))]) [0, 1, 2, 3, 4] rfl
  have hD9 := hD.sub (ws' := [(a0, .inr (6, [.ref a5, .int 0, .ref a1, .ref a2, .ref a3, .ref a4, .int 1, .ref a6])), (a1, .inl (cy 0, 41, .inl (upd (fun _ => 0) 0 0))), (a2, .inl (cy 0, 41, .inl (upd (fun _ => 0) 0 0))), (a3, .inl (cy 0, 41, .inl (upd (fun _ => 0) 0 0))), (a4, .inl (cy 6, 41, .inr (.inr (.inr (.inr (va_up (fun _ => none) 0 none))))))]) [0, 1, 2, 3, 4] (by decide) rfl
  exact W.vret hx hb hr (fun t ht hW => ⟨⟨(), rfl, trivial, ⟨by rw [ht]; exact hP9, hD9⟩⟩, hS.F ht⟩) hS.2.2 dX4_add_99

set_option maxHeartbeats 1000000 in
set_option maxRecDepth 100000 in
theorem C_X4_cut_1 (l : Launch) (D : va_G) (cy : Nat → ClassId) (sz0 : Nat) (sa : Nat → Nat) (a0 a1 a2 a3 a4 a5 a6 : Nat) (sz : Nat)  : Met l yX4_cut wsX4_cut ({ frames := 1, cells := 0, slots := 0, locals := 24 }) (PcW D cy sz0 sa [.ref a0] [(a0, .inr (6, [.ref a5, .int 0, .ref a1, .ref a2, .ref a3, .ref a4, .int 0, .ref a6])), (a1, .inl (cy 0, 41, .inl (fun _ => 0))), (a2, .inl (cy 0, 41, .inl (fun _ => 0))), (a3, .inl (cy 0, 41, .inl (fun _ => 0))), (a4, .inl (cy 6, 41, .inr (.inr (.inr (.inr (fun _ => none))))))] sz) (va_Qi (fun (r : Int32) (u : Unit) => r = (-1)) (fun (u : Unit) (t : State) => BW D [(a0, .inr (6, [.ref a5, .int 0, .ref a1, .ref a2, .ref a3, .ref a4, .int 1, .ref a6])), (a1, .inl (cy 0, 41, .inl (upd (fun _ => 0) 0 0))), (a2, .inl (cy 0, 41, .inl (upd (fun _ => 0) 0 0))), (a3, .inl (cy 0, 41, .inl (upd (fun _ => 0) 0 0))), (a4, .inl (cy 6, 41, .inr (.inr (.inr (.inr (va_up (fun _ => none) 0 none))))))] (va_A [(a0, .inr (6, [.ref a5, .int 0, .ref a1, .ref a2, .ref a3, .ref a4, .int 0, .ref a6])), (a1, .inl (cy 0, 41, .inl (fun _ => 0))), (a2, .inl (cy 0, 41, .inl (fun _ => 0))), (a3, .inl (cy 0, 41, .inl (fun _ => 0))), (a4, .inl (cy 6, 41, .inr (.inr (.inr (.inr (fun _ => none))))))] sz) t) (va_A [(a0, .inr (6, [.ref a5, .int 0, .ref a1, .ref a2, .ref a3, .ref a4, .int 0, .ref a6])), (a1, .inl (cy 0, 41, .inl (fun _ => 0))), (a2, .inl (cy 0, 41, .inl (fun _ => 0))), (a3, .inl (cy 0, 41, .inl (fun _ => 0))), (a4, .inl (cy 6, 41, .inr (.inr (.inr (.inr (fun _ => none))))))] sz)) 0 0 (va_A [(a0, .inr (6, [.ref a5, .int 0, .ref a1, .ref a2, .ref a3, .ref a4, .int 0, .ref a6])), (a1, .inl (cy 0, 41, .inl (fun _ => 0))), (a2, .inl (cy 0, 41, .inl (fun _ => 0))), (a3, .inl (cy 0, 41, .inl (fun _ => 0))), (a4, .inl (cy 6, 41, .inr (.inr (.inr (.inr (fun _ => none))))))] sz) := by
  refine Met.ofW (cc := cX4_cut) (maxL := 3) (ret := (some .int)) (by decide) rfl ?_
  intro p e s m args below meth c s₁ B hml hv
  obtain ⟨rfl, hsz, hP, hD0, hE⟩ := hv
  have hx := B.exec
  have hb := B.bytes
  have hr := B.returns
  have hts := atoms_spec (ws := wsX4_cut) B.pre
  have hown : s.vm.findClass RX4 = some m.cls := findClass_of_methodNamed B.named
  have hlocks := B.notSynchronized
  subst hsz
  have hK := hE.1
  have hAm := hE.2.2.1
  have hWm := hE.2.2.2
  have hAO := hWm.2.2.2.1
  have hD := hD0.self (sz := s.heap.size)
  have hAF := frA hD0 hE.2.1
  generalize hAe : va_A [(a0, .inr (6, [.ref a5, .int 0, .ref a1, .ref a2, .ref a3, .ref a4, .int 0, .ref a6])), (a1, .inl (cy 0, 41, .inl (fun _ => 0))), (a2, .inl (cy 0, 41, .inl (fun _ => 0))), (a3, .inl (cy 0, 41, .inl (fun _ => 0))), (a4, .inl (cy 6, 41, .inr (.inr (.inr (.inr (fun _ => none))))))] s.heap.size = A at hD hAF ⊢
  have hA : ∀ q : Nat, s.heap.size ≤ q → A q := fun q h => by rw [← hAe]; exact Or.inr h
  have hS : va_S A s.heap s.heap [] := va_S.rf
  have hl := lv_entry ([.ref a0]) (n := 3) (Nat.le_of_ble_eq_true rfl)
  rw [lg_entry_eq]
  generalize (lg_sl ([.ref a0]) ++ List.replicate (3 - (lg_sl ([.ref a0])).length) Slot.unset).toArray = ls at hl ⊢
  have hl : lv_has ls 3 [(0, .ref a0)] := hl
  have hP : va_P D vwCl [(a0, .inr (6, [.ref a5, .int 0, .ref a1, .ref a2, .ref a3, .ref a4, .int 0, .ref a6])), (a1, .inl (cy 0, 41, .inl (fun _ => 0))), (a2, .inl (cy 0, 41, .inl (fun _ => 0))), (a3, .inl (cy 0, 41, .inl (fun _ => 0))), (a4, .inl (cy 6, 41, .inr (.inr (.inr (.inr (fun _ => none))))))] s.heap := hP
  refine lv_aload_n hx hb dX4_cut_0 rfl (lv_at hl 0 rfl) ?_
  refine lv_iconst (v := 0) hx hb dX4_cut_1 (by decide +kernel) ?_
  refine va_put (D := D) (ci := 6) (v := .int 0) (ty := .int) (C := RX4) (T := TX4) (N := 8) hx hb hts (fun _ h => List.mem_cons_of_mem _ (List.mem_append_left _ (List.mem_append_left _ (List.mem_append_left _ (List.mem_append_right _ h))))) tyX4 tyX4_ok nmX4 hown hK hP hD hS 0 rfl rfl 6 (by decide) (hts (.fieldLink RX4 42 "PhraseDesk$Lexer" "count" "I") (List.mem_of_getElem? (i := 1) rfl)) (fun _ h9 => h9) rfl (by decide +kernel) rfl rfl (Nat.le_of_ble_eq_true rfl) dX4_cut_2 (fun H locs hP hD hS => ?_)
  have hP : va_P D vwCl [(a0, .inr (6, [.ref a5, .int 0, .ref a1, .ref a2, .ref a3, .ref a4, .int 0, .ref a6])), (a1, .inl (cy 0, 41, .inl (fun _ => 0))), (a2, .inl (cy 0, 41, .inl (fun _ => 0))), (a3, .inl (cy 0, 41, .inl (fun _ => 0))), (a4, .inl (cy 6, 41, .inr (.inr (.inr (.inr (fun _ => none))))))] H := hP
  have hD : va_D A [(a0, .inr (6, [.ref a5, .int 0, .ref a1, .ref a2, .ref a3, .ref a4, .int 0, .ref a6])), (a1, .inl (cy 0, 41, .inl (fun _ => 0))), (a2, .inl (cy 0, 41, .inl (fun _ => 0))), (a3, .inl (cy 0, 41, .inl (fun _ => 0))), (a4, .inl (cy 6, 41, .inr (.inr (.inr (.inr (fun _ => none))))))] := hD
  refine lv_iconst (v := 0) hx hb dX4_cut_5 (by decide +kernel) ?_
  refine lv_istore_n (lv' := [(1, .int 0), (0, .ref a0)]) hx hb dX4_cut_6 rfl hl (by decide) rfl (fun ls hl => ?_)
  refine lv_iload_n hx hb dX4_cut_7 rfl (lv_at hl 0 rfl) ?_
  refine lv_aload_n hx hb dX4_cut_8 rfl (lv_at hl 1 rfl) ?_
  refine va_get (D := D) (ci := 6) (v := .int 0) (C := RX4) (T := TX4) (N := 8) hx hb hts (fun _ h => List.mem_cons_of_mem _ (List.mem_append_left _ (List.mem_append_left _ (List.mem_append_left _ (List.mem_append_right _ h))))) hown hK hP 0 rfl rfl 1 (by decide) (hts (.fieldLink RX4 38 "PhraseDesk$Lexer" "length" "I") (List.mem_of_getElem? (i := 2) rfl)) (fun _ h9 => h9) rfl dX4_cut_9 ?_
  refine lv_icmp_ge (tgt := 49) hx hb dX4_cut_12 (by decide) (fun _ => ?_) (fun c1 => absurd (by decide +kernel) c1)
  refine lv_aload_n hx hb dX4_cut_49 rfl (lv_at hl 1 rfl) ?_
  refine lv_iconst (v := 0) hx hb dX4_cut_50 (by decide +kernel) ?_
  refine lv_aload_n hx hb dX4_cut_51 rfl (lv_at hl 1 rfl) ?_
  refine va_get (D := D) (ci := 6) (v := .int 0) (C := RX4) (T := TX4) (N := 8) hx hb hts (fun _ h => List.mem_cons_of_mem _ (List.mem_append_left _ (List.mem_append_left _ (List.mem_append_left _ (List.mem_append_right _ h))))) hown hK hP 0 rfl rfl 1 (by decide) (hts (.fieldLink RX4 38 "PhraseDesk$Lexer" "length" "I") (List.mem_of_getElem? (i := 2) rfl)) (fun _ h9 => h9) rfl dX4_cut_52 ?_
  refine lv_iconst (v := 0) hx hb dX4_cut_55 (by decide +kernel) ?_
  refine lv_null hx hb dX4_cut_56 ?_
  have hPc := hP.sub (ws' := [(a0, .inr (6, [.ref a5, .int 0, .ref a1, .ref a2, .ref a3, .ref a4, .int 0, .ref a6])), (a1, .inl (cy 0, 41, .inl (fun _ => 0))), (a2, .inl (cy 0, 41, .inl (fun _ => 0))), (a3, .inl (cy 0, 41, .inl (fun _ => 0))), (a4, .inl (cy 6, 41, .inr (.inr (.inr (.inr (fun _ => none))))))]) [0, 1, 2, 3, 4] rfl
  have hDc := hD.sub (ws' := [(a0, .inr (6, [.ref a5, .int 0, .ref a1, .ref a2, .ref a3, .ref a4, .int 0, .ref a6])), (a1, .inl (cy 0, 41, .inl (fun _ => 0))), (a2, .inl (cy 0, 41, .inl (fun _ => 0))), (a3, .inl (cy 0, 41, .inl (fun _ => 0))), (a4, .inl (cy 6, 41, .inr (.inr (.inr (.inr (fun _ => none))))))]) [0, 1, 2, 3, 4] (by decide) rfl
  have hFc := va_free (wc := [(a0, .inr (6, [.ref a5, .int 0, .ref a1, .ref a2, .ref a3, .ref a4, .int 0, .ref a6])), (a1, .inl (cy 0, 41, .inl (fun _ => 0))), (a2, .inl (cy 0, 41, .inl (fun _ => 0))), (a3, .inl (cy 0, 41, .inl (fun _ => 0))), (a4, .inl (cy 6, 41, .inr (.inr (.inr (.inr (fun _ => none))))))]) hD hS hA [0, 1, 2, 3, 4] rfl
  refine va_callv (va_runV (As := [.int 0, .int 0, .int 0, .null]) (rest := []) ⟨hx, hb, hml, hown, hts⟩ (C_X4_add_1 l D cy sz0 sa a0 a1 a2 a3 a4 a5 a6 H.size) (cwV 4 hts gX4_cut_X4_add rfl rfl rfl (by decide +kernel) ⟨Nat.le_of_ble_eq_true rfl, Nat.le_of_ble_eq_true rfl⟩) ⟨PcW.blind, va_recv hK hPc (ci := 6) (q0 := 0) rfl rfl, PcW.mk hE hS hAF hPc hDc⟩ rfl rfl hl.1 rfl (lv_room (Nat.le_of_ble_eq_true rfl)) dX4_cut_57 ⟨Nat.le_of_ble_eq_true rfl, Nat.le_of_ble_eq_true rfl⟩) hS (fun q _ h => hFc q h) hFc (fun u t H1 locs ht hvm hw hB hz1 hk1 hS => ?_)
  obtain ⟨hP1, hD1⟩ := hB
  rw [ht] at hP1
  have hP1 : va_P D vwCl [(a0, .inr (6, [.ref a5, .int 0, .ref a1, .ref a2, .ref a3, .ref a4, .int 1, .ref a6])), (a1, .inl (cy 0, 41, .inl (upd (fun _ => 0) 0 0))), (a2, .inl (cy 0, 41, .inl (upd (fun _ => 0) 0 0))), (a3, .inl (cy 0, 41, .inl (upd (fun _ => 0) 0 0))), (a4, .inl (cy 6, 41, .inr (.inr (.inr (.inr (va_up (fun _ => none) 0 none))))))] H1 := hP1
  obtain ⟨hP, hD⟩ := va_join (wr := []) (w1 := [(a0, .inr (6, [.ref a5, .int 0, .ref a1, .ref a2, .ref a3, .ref a4, .int 1, .ref a6])), (a1, .inl (cy 0, 41, .inl (upd (fun _ => 0) 0 0))), (a2, .inl (cy 0, 41, .inl (upd (fun _ => 0) 0 0))), (a3, .inl (cy 0, 41, .inl (upd (fun _ => 0) 0 0))), (a4, .inl (cy 6, 41, .inr (.inr (.inr (.inr (va_up (fun _ => none) 0 none))))))]) hP hD [0, 1, 2, 3, 4] [] rfl rfl (by decide) (by decide) hk1 hFc hP1 hD1
  clear hP1 hD1 hPc hDc hFc hk1 hz1
  generalize H1 = H at hP hS ⊢
  have hP : va_P D vwCl [(a0, .inr (6, [.ref a5, .int 0, .ref a1, .ref a2, .ref a3, .ref a4, .int 1, .ref a6])), (a1, .inl (cy 0, 41, .inl (upd (fun _ => 0) 0 0))), (a2, .inl (cy 0, 41, .inl (upd (fun _ => 0) 0 0))), (a3, .inl (cy 0, 41, .inl (upd (fun _ => 0) 0 0))), (a4, .inl (cy 6, 41, .inr (.inr (.inr (.inr (va_up (fun _ => none) 0 none))))))] H := hP
  have hD : va_D A [(a0, .inr (6, [.ref a5, .int 0, .ref a1, .ref a2, .ref a3, .ref a4, .int 1, .ref a6])), (a1, .inl (cy 0, 41, .inl (upd (fun _ => 0) 0 0))), (a2, .inl (cy 0, 41, .inl (upd (fun _ => 0) 0 0))), (a3, .inl (cy 0, 41, .inl (upd (fun _ => 0) 0 0))), (a4, .inl (cy 6, 41, .inr (.inr (.inr (.inr (va_up (fun _ => none) 0 none))))))] := hD
  refine W.widen (k := 0) (n := 0) (Nat.le_of_ble_eq_true rfl) (Nat.le_of_ble_eq_true rfl) ?_
  refine lv_iconst (v := (-1)) hx hb dX4_cut_60 (by decide +kernel) ?_
  refine W.widen (k := 0) (n := 0) (Nat.le_of_ble_eq_true rfl) (Nat.le_of_ble_eq_true rfl) ?_
  have hP9 := hP.sub (ws' := [(a0, .inr (6, [.ref a5, .int 0, .ref a1, .ref a2, .ref a3, .ref a4, .int 1, .ref a6])), (a1, .inl (cy 0, 41, .inl (upd (fun _ => 0) 0 0))), (a2, .inl (cy 0, 41, .inl (upd (fun _ => 0) 0 0))), (a3, .inl (cy 0, 41, .inl (upd (fun _ => 0) 0 0))), (a4, .inl (cy 6, 41, .inr (.inr (.inr (.inr (va_up (fun _ => none) 0 none))))))]) [0, 1, 2, 3, 4] rfl
  have hD9 := hD.sub (ws' := [(a0, .inr (6, [.ref a5, .int 0, .ref a1, .ref a2, .ref a3, .ref a4, .int 1, .ref a6])), (a1, .inl (cy 0, 41, .inl (upd (fun _ => 0) 0 0))), (a2, .inl (cy 0, 41, .inl (upd (fun _ => 0) 0 0))), (a3, .inl (cy 0, 41, .inl (upd (fun _ => 0) 0 0))), (a4, .inl (cy 6, 41, .inr (.inr (.inr (.inr (va_up (fun _ => none) 0 none))))))]) [0, 1, 2, 3, 4] (by decide) rfl
  exact W.iret (v := (-1)) hx hb hr (fun t ht hW => ⟨⟨(-1), (), rfl, rfl, ⟨by rw [ht]; exact hP9, hD9⟩⟩, hS.F ht⟩) hS.2.2 dX4_cut_61

set_option maxHeartbeats 1000000 in
set_option maxRecDepth 100000 in
theorem C_X4_kindAt_1 (l : Launch) (D : va_G) (cy : Nat → ClassId) (sz0 : Nat) (sa : Nat → Nat) (a0 a1 a2 a3 a4 a5 a6 : Nat) (sz : Nat)  : Met l yX4_kindAt wsX4_kindAt ({ frames := 0, cells := 0, slots := 0, locals := 0 }) (PcW D cy sz0 sa [.ref a0, .int 0] [(a0, .inr (6, [.ref a2, .int 0, .ref a1, .ref a3, .ref a4, .ref a5, .int 1, .ref a6])), (a1, .inl (cy 0, 41, .inl (upd (fun _ => 0) 0 0)))] sz) (va_Qi (fun (r : Int32) (u : Unit) => r = 0) (fun (u : Unit) (t : State) => BW D [(a0, .inr (6, [.ref a2, .int 0, .ref a1, .ref a3, .ref a4, .ref a5, .int 1, .ref a6])), (a1, .inl (cy 0, 41, .inl (upd (fun _ => 0) 0 0)))] (va_A [(a0, .inr (6, [.ref a2, .int 0, .ref a1, .ref a3, .ref a4, .ref a5, .int 1, .ref a6])), (a1, .inl (cy 0, 41, .inl (upd (fun _ => 0) 0 0)))] sz) t) (va_A [(a0, .inr (6, [.ref a2, .int 0, .ref a1, .ref a3, .ref a4, .ref a5, .int 1, .ref a6])), (a1, .inl (cy 0, 41, .inl (upd (fun _ => 0) 0 0)))] sz)) 0 0 (va_A [(a0, .inr (6, [.ref a2, .int 0, .ref a1, .ref a3, .ref a4, .ref a5, .int 1, .ref a6])), (a1, .inl (cy 0, 41, .inl (upd (fun _ => 0) 0 0)))] sz) := by
  refine Met.ofW (cc := cX4_kindAt) (maxL := 2) (ret := (some .int)) (by decide) rfl ?_
  intro p e s m args below meth c s₁ B hml hv
  obtain ⟨rfl, hsz, hP, hD0, hE⟩ := hv
  have hx := B.exec
  have hb := B.bytes
  have hr := B.returns
  have hts := atoms_spec (ws := wsX4_kindAt) B.pre
  have hown : s.vm.findClass RX4 = some m.cls := findClass_of_methodNamed B.named
  have hlocks := B.notSynchronized
  subst hsz
  have hK := hE.1
  have hAm := hE.2.2.1
  have hWm := hE.2.2.2
  have hAO := hWm.2.2.2.1
  have hD := hD0.self (sz := s.heap.size)
  have hAF := frA hD0 hE.2.1
  generalize hAe : va_A [(a0, .inr (6, [.ref a2, .int 0, .ref a1, .ref a3, .ref a4, .ref a5, .int 1, .ref a6])), (a1, .inl (cy 0, 41, .inl (upd (fun _ => 0) 0 0)))] s.heap.size = A at hD hAF ⊢
  have hA : ∀ q : Nat, s.heap.size ≤ q → A q := fun q h => by rw [← hAe]; exact Or.inr h
  have hS : va_S A s.heap s.heap [] := va_S.rf
  have hl := lv_entry ([.ref a0, .int 0]) (n := 2) (Nat.le_of_ble_eq_true rfl)
  rw [lg_entry_eq]
  generalize (lg_sl ([.ref a0, .int 0]) ++ List.replicate (2 - (lg_sl ([.ref a0, .int 0])).length) Slot.unset).toArray = ls at hl ⊢
  have hl : lv_has ls 2 [(0, .ref a0), (1, .int 0)] := hl
  have hP : va_P D vwCl [(a0, .inr (6, [.ref a2, .int 0, .ref a1, .ref a3, .ref a4, .ref a5, .int 1, .ref a6])), (a1, .inl (cy 0, 41, .inl (upd (fun _ => 0) 0 0)))] s.heap := hP
  refine lv_iload_n hx hb dX4_kindAt_0 rfl (lv_at hl 1 rfl) ?_
  refine lv_if_lt (tgt := 30) hx hb dX4_kindAt_1 (by decide) (fun c1 => absurd c1 (by decide +kernel)) (fun _ => ?_)
  refine lv_iload_n hx hb dX4_kindAt_4 rfl (lv_at hl 1 rfl) ?_
  refine lv_aload_n hx hb dX4_kindAt_5 rfl (lv_at hl 0 rfl) ?_
  refine va_get (D := D) (ci := 6) (v := .int 1) (C := RX4) (T := TX4) (N := 8) hx hb hts (fun _ h => List.mem_cons_of_mem _ (List.mem_append_right _ h)) hown hK hP 0 rfl rfl 6 (by decide) (hts (.fieldLink RX4 42 "PhraseDesk$Lexer" "count" "I") (List.mem_of_getElem? (i := 1) rfl)) (fun _ h9 => h9) rfl dX4_kindAt_6 ?_
  refine lv_icmp_ge (tgt := 30) hx hb dX4_kindAt_9 (by decide) (fun c2 => absurd c2 (by decide +kernel)) (fun _ => ?_)
  refine lv_iload_n hx hb dX4_kindAt_12 rfl (lv_at hl 1 rfl) ?_
  refine lv_aload_n hx hb dX4_kindAt_13 rfl (lv_at hl 0 rfl) ?_
  refine va_get (D := D) (ci := 6) (v := .ref a1) (C := RX4) (T := TX4) (N := 8) hx hb hts (fun _ h => List.mem_cons_of_mem _ (List.mem_append_right _ h)) hown hK hP 0 rfl rfl 2 (by decide) (hts (.fieldLink RX4 15 "PhraseDesk$Lexer" "kinds" "[I") (List.mem_of_getElem? (i := 2) rfl)) (fun _ h9 => h9) rfl dX4_kindAt_14 ?_
  refine va_alen (v := 41) hx hb hK hP 1 0 rfl rfl rfl dX4_kindAt_17 ?_
  refine lv_icmp_ge (tgt := 30) hx hb dX4_kindAt_18 (by decide) (fun c3 => absurd c3 (by decide +kernel)) (fun _ => ?_)
  refine lv_aload_n hx hb dX4_kindAt_21 rfl (lv_at hl 0 rfl) ?_
  refine va_get (D := D) (ci := 6) (v := .ref a1) (C := RX4) (T := TX4) (N := 8) hx hb hts (fun _ h => List.mem_cons_of_mem _ (List.mem_append_right _ h)) hown hK hP 0 rfl rfl 2 (by decide) (hts (.fieldLink RX4 15 "PhraseDesk$Lexer" "kinds" "[I") (List.mem_of_getElem? (i := 2) rfl)) (fun _ h9 => h9) rfl dX4_kindAt_22 ?_
  refine lv_iload_n hx hb dX4_kindAt_25 rfl (lv_at hl 1 rfl) ?_
  refine va_iald hx hb hK hP 1 0 rfl rfl (by unfold vp_in; decide +kernel) dX4_kindAt_26 ?_
  refine lv_topi (fun x4 ex4 => ?_)
  obtain rfl : x4 = 0 := ex4.trans (by decide +kernel)
  refine lv_goto (tgt := 31) hx hb dX4_kindAt_27 (by decide) ?_
  refine W.widen (k := 0) (n := 0) (Nat.le_of_ble_eq_true rfl) (Nat.le_of_ble_eq_true rfl) ?_
  have hP9 := hP.sub (ws' := [(a0, .inr (6, [.ref a2, .int 0, .ref a1, .ref a3, .ref a4, .ref a5, .int 1, .ref a6])), (a1, .inl (cy 0, 41, .inl (upd (fun _ => 0) 0 0)))]) [0, 1] rfl
  have hD9 := hD.sub (ws' := [(a0, .inr (6, [.ref a2, .int 0, .ref a1, .ref a3, .ref a4, .ref a5, .int 1, .ref a6])), (a1, .inl (cy 0, 41, .inl (upd (fun _ => 0) 0 0)))]) [0, 1] (by decide) rfl
  exact W.iret (v := 0) hx hb hr (fun t ht hW => ⟨⟨0, (), rfl, rfl, ⟨by rw [ht]; exact hP9, hD9⟩⟩, hS.F ht⟩) hS.2.2 dX4_kindAt_31

set_option maxHeartbeats 1000000 in
set_option maxRecDepth 100000 in
theorem C_X6_kind_1 (l : Launch) (D : va_G) (cy : Nat → ClassId) (sz0 : Nat) (sa : Nat → Nat) (a0 a1 a2 a3 a4 a5 a6 a7 : Nat) (sz : Nat)  : Met l yX6_kind wsX6_kind ({ frames := 1, cells := 0, slots := 0, locals := 21 }) (PcW D cy sz0 sa [.ref a0] [(a0, .inr (8, [.ref a1, .int 0, .int 0, .int (-1)])), (a1, .inr (6, [.ref a3, .int 0, .ref a2, .ref a4, .ref a5, .ref a6, .int 1, .ref a7])), (a2, .inl (cy 0, 41, .inl (upd (fun _ => 0) 0 0)))] sz) (va_Qi (fun (r : Int32) (u : Unit) => r = 0) (fun (u : Unit) (t : State) => BW D [(a0, .inr (8, [.ref a1, .int 0, .int 0, .int (-1)])), (a1, .inr (6, [.ref a3, .int 0, .ref a2, .ref a4, .ref a5, .ref a6, .int 1, .ref a7])), (a2, .inl (cy 0, 41, .inl (upd (fun _ => 0) 0 0)))] (va_A [(a0, .inr (8, [.ref a1, .int 0, .int 0, .int (-1)])), (a1, .inr (6, [.ref a3, .int 0, .ref a2, .ref a4, .ref a5, .ref a6, .int 1, .ref a7])), (a2, .inl (cy 0, 41, .inl (upd (fun _ => 0) 0 0)))] sz) t) (va_A [(a0, .inr (8, [.ref a1, .int 0, .int 0, .int (-1)])), (a1, .inr (6, [.ref a3, .int 0, .ref a2, .ref a4, .ref a5, .ref a6, .int 1, .ref a7])), (a2, .inl (cy 0, 41, .inl (upd (fun _ => 0) 0 0)))] sz)) 0 0 (va_A [(a0, .inr (8, [.ref a1, .int 0, .int 0, .int (-1)])), (a1, .inr (6, [.ref a3, .int 0, .ref a2, .ref a4, .ref a5, .ref a6, .int 1, .ref a7])), (a2, .inl (cy 0, 41, .inl (upd (fun _ => 0) 0 0)))] sz) := by
  refine Met.ofW (cc := cX6_kind) (maxL := 1) (ret := (some .int)) (by decide) rfl ?_
  intro p e s m args below meth c s₁ B hml hv
  obtain ⟨rfl, hsz, hP, hD0, hE⟩ := hv
  have hx := B.exec
  have hb := B.bytes
  have hr := B.returns
  have hts := atoms_spec (ws := wsX6_kind) B.pre
  have hown : s.vm.findClass RX6 = some m.cls := findClass_of_methodNamed B.named
  have hlocks := B.notSynchronized
  subst hsz
  have hK := hE.1
  have hAm := hE.2.2.1
  have hWm := hE.2.2.2
  have hAO := hWm.2.2.2.1
  have hD := hD0.self (sz := s.heap.size)
  have hAF := frA hD0 hE.2.1
  generalize hAe : va_A [(a0, .inr (8, [.ref a1, .int 0, .int 0, .int (-1)])), (a1, .inr (6, [.ref a3, .int 0, .ref a2, .ref a4, .ref a5, .ref a6, .int 1, .ref a7])), (a2, .inl (cy 0, 41, .inl (upd (fun _ => 0) 0 0)))] s.heap.size = A at hD hAF ⊢
  have hA : ∀ q : Nat, s.heap.size ≤ q → A q := fun q h => by rw [← hAe]; exact Or.inr h
  have hS : va_S A s.heap s.heap [] := va_S.rf
  have hl := lv_entry ([.ref a0]) (n := 1) (Nat.le_of_ble_eq_true rfl)
  rw [lg_entry_eq]
  generalize (lg_sl ([.ref a0]) ++ List.replicate (1 - (lg_sl ([.ref a0])).length) Slot.unset).toArray = ls at hl ⊢
  have hl : lv_has ls 1 [(0, .ref a0)] := hl
  have hP : va_P D vwCl [(a0, .inr (8, [.ref a1, .int 0, .int 0, .int (-1)])), (a1, .inr (6, [.ref a3, .int 0, .ref a2, .ref a4, .ref a5, .ref a6, .int 1, .ref a7])), (a2, .inl (cy 0, 41, .inl (upd (fun _ => 0) 0 0)))] s.heap := hP
  refine lv_aload_n hx hb dX6_kind_0 rfl (lv_at hl 0 rfl) ?_
  refine va_get (D := D) (ci := 8) (v := .ref a1) (C := RX6) (T := TX6) (N := 4) hx hb hts (fun _ h => List.mem_cons_of_mem _ (List.mem_append_left _ (List.mem_append_right _ h))) hown hK hP 0 rfl rfl 0 (by decide) (hts (.fieldLink RX6 12 "PhraseDesk$Parser" "lexer" "LPhraseDesk$Lexer;") (List.mem_of_getElem? (i := 1) rfl)) (fun _ h9 => h9) rfl dX6_kind_1 ?_
  refine lv_aload_n hx hb dX6_kind_4 rfl (lv_at hl 0 rfl) ?_
  refine va_get (D := D) (ci := 8) (v := .int 0) (C := RX6) (T := TX6) (N := 4) hx hb hts (fun _ h => List.mem_cons_of_mem _ (List.mem_append_left _ (List.mem_append_right _ h))) hown hK hP 0 rfl rfl 1 (by decide) (hts (.fieldLink RX6 18 "PhraseDesk$Parser" "at" "I") (List.mem_of_getElem? (i := 2) rfl)) (fun _ h9 => h9) rfl dX6_kind_5 ?_
  have hPc := hP.sub (ws' := [(a1, .inr (6, [.ref a3, .int 0, .ref a2, .ref a4, .ref a5, .ref a6, .int 1, .ref a7])), (a2, .inl (cy 0, 41, .inl (upd (fun _ => 0) 0 0)))]) [1, 2] rfl
  have hDc := hD.sub (ws' := [(a1, .inr (6, [.ref a3, .int 0, .ref a2, .ref a4, .ref a5, .ref a6, .int 1, .ref a7])), (a2, .inl (cy 0, 41, .inl (upd (fun _ => 0) 0 0)))]) [1, 2] (by decide) rfl
  have hFc := va_free (wc := [(a1, .inr (6, [.ref a3, .int 0, .ref a2, .ref a4, .ref a5, .ref a6, .int 1, .ref a7])), (a2, .inl (cy 0, 41, .inl (upd (fun _ => 0) 0 0)))]) hD hS hA [1, 2] rfl
  refine va_calli (va_runV (As := [.int 0]) (rest := []) ⟨hx, hb, hml, hown, hts⟩ (C_X4_kindAt_1 l D cy sz0 sa a1 a2 a3 a4 a5 a6 a7 s.heap.size) (cwV 1 hts gX6_kind_X4_kindAt rfl rfl rfl (by decide +kernel) ⟨Nat.le_of_ble_eq_true rfl, Nat.le_of_ble_eq_true rfl⟩) ⟨PcW.blind, va_recv hK hPc (ci := 6) (q0 := 0) rfl rfl, PcW.mk hE hS hAF hPc hDc⟩ rfl rfl hl.1 rfl (lv_room (Nat.le_of_ble_eq_true rfl)) dX6_kind_8 ⟨Nat.le_of_ble_eq_true rfl, Nat.le_of_ble_eq_true rfl⟩) hS (fun q _ h => hFc q h) hFc (fun r_1 u t H1 locs ht hvm hw hB hz1 hk1 hS => ?_)
  obtain ⟨hP1, hD1⟩ := hB
  rw [ht] at hP1
  have hP1 : va_P D vwCl [(a1, .inr (6, [.ref a3, .int 0, .ref a2, .ref a4, .ref a5, .ref a6, .int 1, .ref a7])), (a2, .inl (cy 0, 41, .inl (upd (fun _ => 0) 0 0)))] H1 := hP1
  obtain ⟨hP, hD⟩ := va_join (wr := [(a0, .inr (8, [.ref a1, .int 0, .int 0, .int (-1)]))]) (w1 := [(a1, .inr (6, [.ref a3, .int 0, .ref a2, .ref a4, .ref a5, .ref a6, .int 1, .ref a7])), (a2, .inl (cy 0, 41, .inl (upd (fun _ => 0) 0 0)))]) hP hD [1, 2] [0] rfl rfl (by decide) (by decide) hk1 hFc hP1 hD1
  clear hP1 hD1 hPc hDc hFc hk1 hz1
  generalize H1 = H at hP hS ⊢
  have hP : va_P D vwCl [(a0, .inr (8, [.ref a1, .int 0, .int 0, .int (-1)])), (a1, .inr (6, [.ref a3, .int 0, .ref a2, .ref a4, .ref a5, .ref a6, .int 1, .ref a7])), (a2, .inl (cy 0, 41, .inl (upd (fun _ => 0) 0 0)))] H := hP
  have hD : va_D A [(a0, .inr (8, [.ref a1, .int 0, .int 0, .int (-1)])), (a1, .inr (6, [.ref a3, .int 0, .ref a2, .ref a4, .ref a5, .ref a6, .int 1, .ref a7])), (a2, .inl (cy 0, 41, .inl (upd (fun _ => 0) 0 0)))] := hD
  refine W.widen (k := 0) (n := 0) (Nat.le_of_ble_eq_true rfl) (Nat.le_of_ble_eq_true rfl) ?_
  obtain rfl : r_1 = 0 := hw
  refine W.widen (k := 0) (n := 0) (Nat.le_of_ble_eq_true rfl) (Nat.le_of_ble_eq_true rfl) ?_
  have hP9 := hP.sub (ws' := [(a0, .inr (8, [.ref a1, .int 0, .int 0, .int (-1)])), (a1, .inr (6, [.ref a3, .int 0, .ref a2, .ref a4, .ref a5, .ref a6, .int 1, .ref a7])), (a2, .inl (cy 0, 41, .inl (upd (fun _ => 0) 0 0)))]) [0, 1, 2] rfl
  have hD9 := hD.sub (ws' := [(a0, .inr (8, [.ref a1, .int 0, .int 0, .int (-1)])), (a1, .inr (6, [.ref a3, .int 0, .ref a2, .ref a4, .ref a5, .ref a6, .int 1, .ref a7])), (a2, .inl (cy 0, 41, .inl (upd (fun _ => 0) 0 0)))]) [0, 1, 2] (by decide) rfl
  exact W.iret (v := 0) hx hb hr (fun t ht hW => ⟨⟨0, (), rfl, rfl, ⟨by rw [ht]; exact hP9, hD9⟩⟩, hS.F ht⟩) hS.2.2 dX6_kind_11

set_option maxHeartbeats 1000000 in
set_option maxRecDepth 100000 in
theorem C_X6_takes_1 (l : Launch) (D : va_G) (cy : Nat → ClassId) (sz0 : Nat) (sa : Nat → Nat) (a0 a1 a2 a3 a4 a5 a6 a7 : Nat) (sz : Nat)  : Met l yX6_takes wsX6_takes ({ frames := 2, cells := 0, slots := 0, locals := 41 }) (PcW D cy sz0 sa [.ref a0, .int 45] [(a0, .inr (8, [.ref a1, .int 0, .int 0, .int (-1)])), (a1, .inr (6, [.ref a3, .int 0, .ref a2, .ref a4, .ref a5, .ref a6, .int 1, .ref a7])), (a2, .inl (cy 0, 41, .inl (upd (fun _ => 0) 0 0)))] sz) (va_Qi (fun (r : Int32) (u : Unit) => r = 0) (fun (u : Unit) (t : State) => BW D [(a0, .inr (8, [.ref a1, .int 0, .int 0, .int (-1)])), (a1, .inr (6, [.ref a3, .int 0, .ref a2, .ref a4, .ref a5, .ref a6, .int 1, .ref a7])), (a2, .inl (cy 0, 41, .inl (upd (fun _ => 0) 0 0)))] (va_A [(a0, .inr (8, [.ref a1, .int 0, .int 0, .int (-1)])), (a1, .inr (6, [.ref a3, .int 0, .ref a2, .ref a4, .ref a5, .ref a6, .int 1, .ref a7])), (a2, .inl (cy 0, 41, .inl (upd (fun _ => 0) 0 0)))] sz) t) (va_A [(a0, .inr (8, [.ref a1, .int 0, .int 0, .int (-1)])), (a1, .inr (6, [.ref a3, .int 0, .ref a2, .ref a4, .ref a5, .ref a6, .int 1, .ref a7])), (a2, .inl (cy 0, 41, .inl (upd (fun _ => 0) 0 0)))] sz)) 0 0 (va_A [(a0, .inr (8, [.ref a1, .int 0, .int 0, .int (-1)])), (a1, .inr (6, [.ref a3, .int 0, .ref a2, .ref a4, .ref a5, .ref a6, .int 1, .ref a7])), (a2, .inl (cy 0, 41, .inl (upd (fun _ => 0) 0 0)))] sz) := by
  refine Met.ofW (cc := cX6_takes) (maxL := 2) (ret := (some .boolean)) (by decide) rfl ?_
  intro p e s m args below meth c s₁ B hml hv
  obtain ⟨rfl, hsz, hP, hD0, hE⟩ := hv
  have hx := B.exec
  have hb := B.bytes
  have hr := B.returns
  have hts := atoms_spec (ws := wsX6_takes) B.pre
  have hown : s.vm.findClass RX6 = some m.cls := findClass_of_methodNamed B.named
  have hlocks := B.notSynchronized
  subst hsz
  have hK := hE.1
  have hAm := hE.2.2.1
  have hWm := hE.2.2.2
  have hAO := hWm.2.2.2.1
  have hD := hD0.self (sz := s.heap.size)
  have hAF := frA hD0 hE.2.1
  generalize hAe : va_A [(a0, .inr (8, [.ref a1, .int 0, .int 0, .int (-1)])), (a1, .inr (6, [.ref a3, .int 0, .ref a2, .ref a4, .ref a5, .ref a6, .int 1, .ref a7])), (a2, .inl (cy 0, 41, .inl (upd (fun _ => 0) 0 0)))] s.heap.size = A at hD hAF ⊢
  have hA : ∀ q : Nat, s.heap.size ≤ q → A q := fun q h => by rw [← hAe]; exact Or.inr h
  have hS : va_S A s.heap s.heap [] := va_S.rf
  have hl := lv_entry ([.ref a0, .int 45]) (n := 2) (Nat.le_of_ble_eq_true rfl)
  rw [lg_entry_eq]
  generalize (lg_sl ([.ref a0, .int 45]) ++ List.replicate (2 - (lg_sl ([.ref a0, .int 45])).length) Slot.unset).toArray = ls at hl ⊢
  have hl : lv_has ls 2 [(0, .ref a0), (1, .int 45)] := hl
  have hP : va_P D vwCl [(a0, .inr (8, [.ref a1, .int 0, .int 0, .int (-1)])), (a1, .inr (6, [.ref a3, .int 0, .ref a2, .ref a4, .ref a5, .ref a6, .int 1, .ref a7])), (a2, .inl (cy 0, 41, .inl (upd (fun _ => 0) 0 0)))] s.heap := hP
  refine lv_aload_n hx hb dX6_takes_0 rfl (lv_at hl 0 rfl) ?_
  have hPc := hP.sub (ws' := [(a0, .inr (8, [.ref a1, .int 0, .int 0, .int (-1)])), (a1, .inr (6, [.ref a3, .int 0, .ref a2, .ref a4, .ref a5, .ref a6, .int 1, .ref a7])), (a2, .inl (cy 0, 41, .inl (upd (fun _ => 0) 0 0)))]) [0, 1, 2] rfl
  have hDc := hD.sub (ws' := [(a0, .inr (8, [.ref a1, .int 0, .int 0, .int (-1)])), (a1, .inr (6, [.ref a3, .int 0, .ref a2, .ref a4, .ref a5, .ref a6, .int 1, .ref a7])), (a2, .inl (cy 0, 41, .inl (upd (fun _ => 0) 0 0)))]) [0, 1, 2] (by decide) rfl
  have hFc := va_free (wc := [(a0, .inr (8, [.ref a1, .int 0, .int 0, .int (-1)])), (a1, .inr (6, [.ref a3, .int 0, .ref a2, .ref a4, .ref a5, .ref a6, .int 1, .ref a7])), (a2, .inl (cy 0, 41, .inl (upd (fun _ => 0) 0 0)))]) hD hS hA [0, 1, 2] rfl
  refine va_calli (va_runV (As := []) (rest := []) ⟨hx, hb, hml, hown, hts⟩ (C_X6_kind_1 l D cy sz0 sa a0 a1 a2 a3 a4 a5 a6 a7 s.heap.size) (cwV 0 hts gX6_takes_X6_kind rfl rfl rfl (by decide +kernel) ⟨Nat.le_of_ble_eq_true rfl, Nat.le_of_ble_eq_true rfl⟩) ⟨PcW.blind, va_recv hK hPc (ci := 8) (q0 := 0) rfl rfl, PcW.mk hE hS hAF hPc hDc⟩ rfl rfl hl.1 rfl (lv_room (Nat.le_of_ble_eq_true rfl)) dX6_takes_1 ⟨Nat.le_of_ble_eq_true rfl, Nat.le_of_ble_eq_true rfl⟩) hS (fun q _ h => hFc q h) hFc (fun r_1 u t H1 locs ht hvm hw hB hz1 hk1 hS => ?_)
  obtain ⟨hP1, hD1⟩ := hB
  rw [ht] at hP1
  have hP1 : va_P D vwCl [(a0, .inr (8, [.ref a1, .int 0, .int 0, .int (-1)])), (a1, .inr (6, [.ref a3, .int 0, .ref a2, .ref a4, .ref a5, .ref a6, .int 1, .ref a7])), (a2, .inl (cy 0, 41, .inl (upd (fun _ => 0) 0 0)))] H1 := hP1
  obtain ⟨hP, hD⟩ := va_join (wr := []) (w1 := [(a0, .inr (8, [.ref a1, .int 0, .int 0, .int (-1)])), (a1, .inr (6, [.ref a3, .int 0, .ref a2, .ref a4, .ref a5, .ref a6, .int 1, .ref a7])), (a2, .inl (cy 0, 41, .inl (upd (fun _ => 0) 0 0)))]) hP hD [0, 1, 2] [] rfl rfl (by decide) (by decide) hk1 hFc hP1 hD1
  clear hP1 hD1 hPc hDc hFc hk1 hz1
  generalize H1 = H at hP hS ⊢
  have hP : va_P D vwCl [(a0, .inr (8, [.ref a1, .int 0, .int 0, .int (-1)])), (a1, .inr (6, [.ref a3, .int 0, .ref a2, .ref a4, .ref a5, .ref a6, .int 1, .ref a7])), (a2, .inl (cy 0, 41, .inl (upd (fun _ => 0) 0 0)))] H := hP
  have hD : va_D A [(a0, .inr (8, [.ref a1, .int 0, .int 0, .int (-1)])), (a1, .inr (6, [.ref a3, .int 0, .ref a2, .ref a4, .ref a5, .ref a6, .int 1, .ref a7])), (a2, .inl (cy 0, 41, .inl (upd (fun _ => 0) 0 0)))] := hD
  refine W.widen (k := 0) (n := 0) (Nat.le_of_ble_eq_true rfl) (Nat.le_of_ble_eq_true rfl) ?_
  obtain rfl : r_1 = 0 := hw
  refine lv_iload_n hx hb dX6_takes_4 rfl (lv_at hl 1 rfl) ?_
  refine lv_icmp_eq (tgt := 10) hx hb dX6_takes_5 (by decide) (fun c2 => absurd c2 (by decide +kernel)) (fun _ => ?_)
  refine lv_iconst (v := 0) hx hb dX6_takes_8 (by decide +kernel) ?_
  refine W.widen (k := 0) (n := 0) (Nat.le_of_ble_eq_true rfl) (Nat.le_of_ble_eq_true rfl) ?_
  have hP9 := hP.sub (ws' := [(a0, .inr (8, [.ref a1, .int 0, .int 0, .int (-1)])), (a1, .inr (6, [.ref a3, .int 0, .ref a2, .ref a4, .ref a5, .ref a6, .int 1, .ref a7])), (a2, .inl (cy 0, 41, .inl (upd (fun _ => 0) 0 0)))]) [0, 1, 2] rfl
  have hD9 := hD.sub (ws' := [(a0, .inr (8, [.ref a1, .int 0, .int 0, .int (-1)])), (a1, .inr (6, [.ref a3, .int 0, .ref a2, .ref a4, .ref a5, .ref a6, .int 1, .ref a7])), (a2, .inl (cy 0, 41, .inl (upd (fun _ => 0) 0 0)))]) [0, 1, 2] (by decide) rfl
  exact W.zret (v := 0) (ty := .boolean) hx hb hr rfl (fun t ht hW => ⟨⟨0, (), rfl, rfl, ⟨by rw [ht]; exact hP9, hD9⟩⟩, hS.F ht⟩) hS.2.2 dX6_takes_9

set_option maxHeartbeats 1000000 in
set_option maxRecDepth 100000 in
theorem C_X6_takes_2 (l : Launch) (D : va_G) (cy : Nat → ClassId) (sz0 : Nat) (sa : Nat → Nat) (a0 a1 a2 a3 a4 a5 a6 a7 : Nat) (sz : Nat)  : Met l yX6_takes wsX6_takes ({ frames := 2, cells := 0, slots := 0, locals := 41 }) (PcW D cy sz0 sa [.ref a0, .int 33] [(a0, .inr (8, [.ref a1, .int 0, .int 0, .int (-1)])), (a1, .inr (6, [.ref a3, .int 0, .ref a2, .ref a4, .ref a5, .ref a6, .int 1, .ref a7])), (a2, .inl (cy 0, 41, .inl (upd (fun _ => 0) 0 0)))] sz) (va_Qi (fun (r : Int32) (u : Unit) => r = 0) (fun (u : Unit) (t : State) => BW D [(a0, .inr (8, [.ref a1, .int 0, .int 0, .int (-1)])), (a1, .inr (6, [.ref a3, .int 0, .ref a2, .ref a4, .ref a5, .ref a6, .int 1, .ref a7])), (a2, .inl (cy 0, 41, .inl (upd (fun _ => 0) 0 0)))] (va_A [(a0, .inr (8, [.ref a1, .int 0, .int 0, .int (-1)])), (a1, .inr (6, [.ref a3, .int 0, .ref a2, .ref a4, .ref a5, .ref a6, .int 1, .ref a7])), (a2, .inl (cy 0, 41, .inl (upd (fun _ => 0) 0 0)))] sz) t) (va_A [(a0, .inr (8, [.ref a1, .int 0, .int 0, .int (-1)])), (a1, .inr (6, [.ref a3, .int 0, .ref a2, .ref a4, .ref a5, .ref a6, .int 1, .ref a7])), (a2, .inl (cy 0, 41, .inl (upd (fun _ => 0) 0 0)))] sz)) 0 0 (va_A [(a0, .inr (8, [.ref a1, .int 0, .int 0, .int (-1)])), (a1, .inr (6, [.ref a3, .int 0, .ref a2, .ref a4, .ref a5, .ref a6, .int 1, .ref a7])), (a2, .inl (cy 0, 41, .inl (upd (fun _ => 0) 0 0)))] sz) := by
  refine Met.ofW (cc := cX6_takes) (maxL := 2) (ret := (some .boolean)) (by decide) rfl ?_
  intro p e s m args below meth c s₁ B hml hv
  obtain ⟨rfl, hsz, hP, hD0, hE⟩ := hv
  have hx := B.exec
  have hb := B.bytes
  have hr := B.returns
  have hts := atoms_spec (ws := wsX6_takes) B.pre
  have hown : s.vm.findClass RX6 = some m.cls := findClass_of_methodNamed B.named
  have hlocks := B.notSynchronized
  subst hsz
  have hK := hE.1
  have hAm := hE.2.2.1
  have hWm := hE.2.2.2
  have hAO := hWm.2.2.2.1
  have hD := hD0.self (sz := s.heap.size)
  have hAF := frA hD0 hE.2.1
  generalize hAe : va_A [(a0, .inr (8, [.ref a1, .int 0, .int 0, .int (-1)])), (a1, .inr (6, [.ref a3, .int 0, .ref a2, .ref a4, .ref a5, .ref a6, .int 1, .ref a7])), (a2, .inl (cy 0, 41, .inl (upd (fun _ => 0) 0 0)))] s.heap.size = A at hD hAF ⊢
  have hA : ∀ q : Nat, s.heap.size ≤ q → A q := fun q h => by rw [← hAe]; exact Or.inr h
  have hS : va_S A s.heap s.heap [] := va_S.rf
  have hl := lv_entry ([.ref a0, .int 33]) (n := 2) (Nat.le_of_ble_eq_true rfl)
  rw [lg_entry_eq]
  generalize (lg_sl ([.ref a0, .int 33]) ++ List.replicate (2 - (lg_sl ([.ref a0, .int 33])).length) Slot.unset).toArray = ls at hl ⊢
  have hl : lv_has ls 2 [(0, .ref a0), (1, .int 33)] := hl
  have hP : va_P D vwCl [(a0, .inr (8, [.ref a1, .int 0, .int 0, .int (-1)])), (a1, .inr (6, [.ref a3, .int 0, .ref a2, .ref a4, .ref a5, .ref a6, .int 1, .ref a7])), (a2, .inl (cy 0, 41, .inl (upd (fun _ => 0) 0 0)))] s.heap := hP
  refine lv_aload_n hx hb dX6_takes_0 rfl (lv_at hl 0 rfl) ?_
  have hPc := hP.sub (ws' := [(a0, .inr (8, [.ref a1, .int 0, .int 0, .int (-1)])), (a1, .inr (6, [.ref a3, .int 0, .ref a2, .ref a4, .ref a5, .ref a6, .int 1, .ref a7])), (a2, .inl (cy 0, 41, .inl (upd (fun _ => 0) 0 0)))]) [0, 1, 2] rfl
  have hDc := hD.sub (ws' := [(a0, .inr (8, [.ref a1, .int 0, .int 0, .int (-1)])), (a1, .inr (6, [.ref a3, .int 0, .ref a2, .ref a4, .ref a5, .ref a6, .int 1, .ref a7])), (a2, .inl (cy 0, 41, .inl (upd (fun _ => 0) 0 0)))]) [0, 1, 2] (by decide) rfl
  have hFc := va_free (wc := [(a0, .inr (8, [.ref a1, .int 0, .int 0, .int (-1)])), (a1, .inr (6, [.ref a3, .int 0, .ref a2, .ref a4, .ref a5, .ref a6, .int 1, .ref a7])), (a2, .inl (cy 0, 41, .inl (upd (fun _ => 0) 0 0)))]) hD hS hA [0, 1, 2] rfl
  refine va_calli (va_runV (As := []) (rest := []) ⟨hx, hb, hml, hown, hts⟩ (C_X6_kind_1 l D cy sz0 sa a0 a1 a2 a3 a4 a5 a6 a7 s.heap.size) (cwV 0 hts gX6_takes_X6_kind rfl rfl rfl (by decide +kernel) ⟨Nat.le_of_ble_eq_true rfl, Nat.le_of_ble_eq_true rfl⟩) ⟨PcW.blind, va_recv hK hPc (ci := 8) (q0 := 0) rfl rfl, PcW.mk hE hS hAF hPc hDc⟩ rfl rfl hl.1 rfl (lv_room (Nat.le_of_ble_eq_true rfl)) dX6_takes_1 ⟨Nat.le_of_ble_eq_true rfl, Nat.le_of_ble_eq_true rfl⟩) hS (fun q _ h => hFc q h) hFc (fun r_1 u t H1 locs ht hvm hw hB hz1 hk1 hS => ?_)
  obtain ⟨hP1, hD1⟩ := hB
  rw [ht] at hP1
  have hP1 : va_P D vwCl [(a0, .inr (8, [.ref a1, .int 0, .int 0, .int (-1)])), (a1, .inr (6, [.ref a3, .int 0, .ref a2, .ref a4, .ref a5, .ref a6, .int 1, .ref a7])), (a2, .inl (cy 0, 41, .inl (upd (fun _ => 0) 0 0)))] H1 := hP1
  obtain ⟨hP, hD⟩ := va_join (wr := []) (w1 := [(a0, .inr (8, [.ref a1, .int 0, .int 0, .int (-1)])), (a1, .inr (6, [.ref a3, .int 0, .ref a2, .ref a4, .ref a5, .ref a6, .int 1, .ref a7])), (a2, .inl (cy 0, 41, .inl (upd (fun _ => 0) 0 0)))]) hP hD [0, 1, 2] [] rfl rfl (by decide) (by decide) hk1 hFc hP1 hD1
  clear hP1 hD1 hPc hDc hFc hk1 hz1
  generalize H1 = H at hP hS ⊢
  have hP : va_P D vwCl [(a0, .inr (8, [.ref a1, .int 0, .int 0, .int (-1)])), (a1, .inr (6, [.ref a3, .int 0, .ref a2, .ref a4, .ref a5, .ref a6, .int 1, .ref a7])), (a2, .inl (cy 0, 41, .inl (upd (fun _ => 0) 0 0)))] H := hP
  have hD : va_D A [(a0, .inr (8, [.ref a1, .int 0, .int 0, .int (-1)])), (a1, .inr (6, [.ref a3, .int 0, .ref a2, .ref a4, .ref a5, .ref a6, .int 1, .ref a7])), (a2, .inl (cy 0, 41, .inl (upd (fun _ => 0) 0 0)))] := hD
  refine W.widen (k := 0) (n := 0) (Nat.le_of_ble_eq_true rfl) (Nat.le_of_ble_eq_true rfl) ?_
  obtain rfl : r_1 = 0 := hw
  refine lv_iload_n hx hb dX6_takes_4 rfl (lv_at hl 1 rfl) ?_
  refine lv_icmp_eq (tgt := 10) hx hb dX6_takes_5 (by decide) (fun c2 => absurd c2 (by decide +kernel)) (fun _ => ?_)
  refine lv_iconst (v := 0) hx hb dX6_takes_8 (by decide +kernel) ?_
  refine W.widen (k := 0) (n := 0) (Nat.le_of_ble_eq_true rfl) (Nat.le_of_ble_eq_true rfl) ?_
  have hP9 := hP.sub (ws' := [(a0, .inr (8, [.ref a1, .int 0, .int 0, .int (-1)])), (a1, .inr (6, [.ref a3, .int 0, .ref a2, .ref a4, .ref a5, .ref a6, .int 1, .ref a7])), (a2, .inl (cy 0, 41, .inl (upd (fun _ => 0) 0 0)))]) [0, 1, 2] rfl
  have hD9 := hD.sub (ws' := [(a0, .inr (8, [.ref a1, .int 0, .int 0, .int (-1)])), (a1, .inr (6, [.ref a3, .int 0, .ref a2, .ref a4, .ref a5, .ref a6, .int 1, .ref a7])), (a2, .inl (cy 0, 41, .inl (upd (fun _ => 0) 0 0)))]) [0, 1, 2] (by decide) rfl
  exact W.zret (v := 0) (ty := .boolean) hx hb hr rfl (fun t ht hW => ⟨⟨0, (), rfl, rfl, ⟨by rw [ht]; exact hP9, hD9⟩⟩, hS.F ht⟩) hS.2.2 dX6_takes_9

set_option maxHeartbeats 1000000 in
set_option maxRecDepth 100000 in
theorem C_X6_takes_3 (l : Launch) (D : va_G) (cy : Nat → ClassId) (sz0 : Nat) (sa : Nat → Nat) (a0 a1 a2 a3 a4 a5 a6 a7 : Nat) (sz : Nat)  : Met l yX6_takes wsX6_takes ({ frames := 2, cells := 0, slots := 0, locals := 41 }) (PcW D cy sz0 sa [.ref a0, .int 35] [(a0, .inr (8, [.ref a1, .int 0, .int 0, .int (-1)])), (a1, .inr (6, [.ref a3, .int 0, .ref a2, .ref a4, .ref a5, .ref a6, .int 1, .ref a7])), (a2, .inl (cy 0, 41, .inl (upd (fun _ => 0) 0 0)))] sz) (va_Qi (fun (r : Int32) (u : Unit) => r = 0) (fun (u : Unit) (t : State) => BW D [(a0, .inr (8, [.ref a1, .int 0, .int 0, .int (-1)])), (a1, .inr (6, [.ref a3, .int 0, .ref a2, .ref a4, .ref a5, .ref a6, .int 1, .ref a7])), (a2, .inl (cy 0, 41, .inl (upd (fun _ => 0) 0 0)))] (va_A [(a0, .inr (8, [.ref a1, .int 0, .int 0, .int (-1)])), (a1, .inr (6, [.ref a3, .int 0, .ref a2, .ref a4, .ref a5, .ref a6, .int 1, .ref a7])), (a2, .inl (cy 0, 41, .inl (upd (fun _ => 0) 0 0)))] sz) t) (va_A [(a0, .inr (8, [.ref a1, .int 0, .int 0, .int (-1)])), (a1, .inr (6, [.ref a3, .int 0, .ref a2, .ref a4, .ref a5, .ref a6, .int 1, .ref a7])), (a2, .inl (cy 0, 41, .inl (upd (fun _ => 0) 0 0)))] sz)) 0 0 (va_A [(a0, .inr (8, [.ref a1, .int 0, .int 0, .int (-1)])), (a1, .inr (6, [.ref a3, .int 0, .ref a2, .ref a4, .ref a5, .ref a6, .int 1, .ref a7])), (a2, .inl (cy 0, 41, .inl (upd (fun _ => 0) 0 0)))] sz) := by
  refine Met.ofW (cc := cX6_takes) (maxL := 2) (ret := (some .boolean)) (by decide) rfl ?_
  intro p e s m args below meth c s₁ B hml hv
  obtain ⟨rfl, hsz, hP, hD0, hE⟩ := hv
  have hx := B.exec
  have hb := B.bytes
  have hr := B.returns
  have hts := atoms_spec (ws := wsX6_takes) B.pre
  have hown : s.vm.findClass RX6 = some m.cls := findClass_of_methodNamed B.named
  have hlocks := B.notSynchronized
  subst hsz
  have hK := hE.1
  have hAm := hE.2.2.1
  have hWm := hE.2.2.2
  have hAO := hWm.2.2.2.1
  have hD := hD0.self (sz := s.heap.size)
  have hAF := frA hD0 hE.2.1
  generalize hAe : va_A [(a0, .inr (8, [.ref a1, .int 0, .int 0, .int (-1)])), (a1, .inr (6, [.ref a3, .int 0, .ref a2, .ref a4, .ref a5, .ref a6, .int 1, .ref a7])), (a2, .inl (cy 0, 41, .inl (upd (fun _ => 0) 0 0)))] s.heap.size = A at hD hAF ⊢
  have hA : ∀ q : Nat, s.heap.size ≤ q → A q := fun q h => by rw [← hAe]; exact Or.inr h
  have hS : va_S A s.heap s.heap [] := va_S.rf
  have hl := lv_entry ([.ref a0, .int 35]) (n := 2) (Nat.le_of_ble_eq_true rfl)
  rw [lg_entry_eq]
  generalize (lg_sl ([.ref a0, .int 35]) ++ List.replicate (2 - (lg_sl ([.ref a0, .int 35])).length) Slot.unset).toArray = ls at hl ⊢
  have hl : lv_has ls 2 [(0, .ref a0), (1, .int 35)] := hl
  have hP : va_P D vwCl [(a0, .inr (8, [.ref a1, .int 0, .int 0, .int (-1)])), (a1, .inr (6, [.ref a3, .int 0, .ref a2, .ref a4, .ref a5, .ref a6, .int 1, .ref a7])), (a2, .inl (cy 0, 41, .inl (upd (fun _ => 0) 0 0)))] s.heap := hP
  refine lv_aload_n hx hb dX6_takes_0 rfl (lv_at hl 0 rfl) ?_
  have hPc := hP.sub (ws' := [(a0, .inr (8, [.ref a1, .int 0, .int 0, .int (-1)])), (a1, .inr (6, [.ref a3, .int 0, .ref a2, .ref a4, .ref a5, .ref a6, .int 1, .ref a7])), (a2, .inl (cy 0, 41, .inl (upd (fun _ => 0) 0 0)))]) [0, 1, 2] rfl
  have hDc := hD.sub (ws' := [(a0, .inr (8, [.ref a1, .int 0, .int 0, .int (-1)])), (a1, .inr (6, [.ref a3, .int 0, .ref a2, .ref a4, .ref a5, .ref a6, .int 1, .ref a7])), (a2, .inl (cy 0, 41, .inl (upd (fun _ => 0) 0 0)))]) [0, 1, 2] (by decide) rfl
  have hFc := va_free (wc := [(a0, .inr (8, [.ref a1, .int 0, .int 0, .int (-1)])), (a1, .inr (6, [.ref a3, .int 0, .ref a2, .ref a4, .ref a5, .ref a6, .int 1, .ref a7])), (a2, .inl (cy 0, 41, .inl (upd (fun _ => 0) 0 0)))]) hD hS hA [0, 1, 2] rfl
  refine va_calli (va_runV (As := []) (rest := []) ⟨hx, hb, hml, hown, hts⟩ (C_X6_kind_1 l D cy sz0 sa a0 a1 a2 a3 a4 a5 a6 a7 s.heap.size) (cwV 0 hts gX6_takes_X6_kind rfl rfl rfl (by decide +kernel) ⟨Nat.le_of_ble_eq_true rfl, Nat.le_of_ble_eq_true rfl⟩) ⟨PcW.blind, va_recv hK hPc (ci := 8) (q0 := 0) rfl rfl, PcW.mk hE hS hAF hPc hDc⟩ rfl rfl hl.1 rfl (lv_room (Nat.le_of_ble_eq_true rfl)) dX6_takes_1 ⟨Nat.le_of_ble_eq_true rfl, Nat.le_of_ble_eq_true rfl⟩) hS (fun q _ h => hFc q h) hFc (fun r_1 u t H1 locs ht hvm hw hB hz1 hk1 hS => ?_)
  obtain ⟨hP1, hD1⟩ := hB
  rw [ht] at hP1
  have hP1 : va_P D vwCl [(a0, .inr (8, [.ref a1, .int 0, .int 0, .int (-1)])), (a1, .inr (6, [.ref a3, .int 0, .ref a2, .ref a4, .ref a5, .ref a6, .int 1, .ref a7])), (a2, .inl (cy 0, 41, .inl (upd (fun _ => 0) 0 0)))] H1 := hP1
  obtain ⟨hP, hD⟩ := va_join (wr := []) (w1 := [(a0, .inr (8, [.ref a1, .int 0, .int 0, .int (-1)])), (a1, .inr (6, [.ref a3, .int 0, .ref a2, .ref a4, .ref a5, .ref a6, .int 1, .ref a7])), (a2, .inl (cy 0, 41, .inl (upd (fun _ => 0) 0 0)))]) hP hD [0, 1, 2] [] rfl rfl (by decide) (by decide) hk1 hFc hP1 hD1
  clear hP1 hD1 hPc hDc hFc hk1 hz1
  generalize H1 = H at hP hS ⊢
  have hP : va_P D vwCl [(a0, .inr (8, [.ref a1, .int 0, .int 0, .int (-1)])), (a1, .inr (6, [.ref a3, .int 0, .ref a2, .ref a4, .ref a5, .ref a6, .int 1, .ref a7])), (a2, .inl (cy 0, 41, .inl (upd (fun _ => 0) 0 0)))] H := hP
  have hD : va_D A [(a0, .inr (8, [.ref a1, .int 0, .int 0, .int (-1)])), (a1, .inr (6, [.ref a3, .int 0, .ref a2, .ref a4, .ref a5, .ref a6, .int 1, .ref a7])), (a2, .inl (cy 0, 41, .inl (upd (fun _ => 0) 0 0)))] := hD
  refine W.widen (k := 0) (n := 0) (Nat.le_of_ble_eq_true rfl) (Nat.le_of_ble_eq_true rfl) ?_
  obtain rfl : r_1 = 0 := hw
  refine lv_iload_n hx hb dX6_takes_4 rfl (lv_at hl 1 rfl) ?_
  refine lv_icmp_eq (tgt := 10) hx hb dX6_takes_5 (by decide) (fun c2 => absurd c2 (by decide +kernel)) (fun _ => ?_)
  refine lv_iconst (v := 0) hx hb dX6_takes_8 (by decide +kernel) ?_
  refine W.widen (k := 0) (n := 0) (Nat.le_of_ble_eq_true rfl) (Nat.le_of_ble_eq_true rfl) ?_
  have hP9 := hP.sub (ws' := [(a0, .inr (8, [.ref a1, .int 0, .int 0, .int (-1)])), (a1, .inr (6, [.ref a3, .int 0, .ref a2, .ref a4, .ref a5, .ref a6, .int 1, .ref a7])), (a2, .inl (cy 0, 41, .inl (upd (fun _ => 0) 0 0)))]) [0, 1, 2] rfl
  have hD9 := hD.sub (ws' := [(a0, .inr (8, [.ref a1, .int 0, .int 0, .int (-1)])), (a1, .inr (6, [.ref a3, .int 0, .ref a2, .ref a4, .ref a5, .ref a6, .int 1, .ref a7])), (a2, .inl (cy 0, 41, .inl (upd (fun _ => 0) 0 0)))]) [0, 1, 2] (by decide) rfl
  exact W.zret (v := 0) (ty := .boolean) hx hb hr rfl (fun t ht hW => ⟨⟨0, (), rfl, rfl, ⟨by rw [ht]; exact hP9, hD9⟩⟩, hS.F ht⟩) hS.2.2 dX6_takes_9

set_option maxHeartbeats 1000000 in
set_option maxRecDepth 100000 in
theorem C_X6_takes_4 (l : Launch) (D : va_G) (cy : Nat → ClassId) (sz0 : Nat) (sa : Nat → Nat) (a0 a1 a2 a3 a4 a5 a6 a7 : Nat) (sz : Nat)  : Met l yX6_takes wsX6_takes ({ frames := 2, cells := 0, slots := 0, locals := 41 }) (PcW D cy sz0 sa [.ref a0, .int 40] [(a0, .inr (8, [.ref a1, .int 0, .int 0, .int (-1)])), (a1, .inr (6, [.ref a3, .int 0, .ref a2, .ref a4, .ref a5, .ref a6, .int 1, .ref a7])), (a2, .inl (cy 0, 41, .inl (upd (fun _ => 0) 0 0)))] sz) (va_Qi (fun (r : Int32) (u : Unit) => r = 0) (fun (u : Unit) (t : State) => BW D [(a0, .inr (8, [.ref a1, .int 0, .int 0, .int (-1)])), (a1, .inr (6, [.ref a3, .int 0, .ref a2, .ref a4, .ref a5, .ref a6, .int 1, .ref a7])), (a2, .inl (cy 0, 41, .inl (upd (fun _ => 0) 0 0)))] (va_A [(a0, .inr (8, [.ref a1, .int 0, .int 0, .int (-1)])), (a1, .inr (6, [.ref a3, .int 0, .ref a2, .ref a4, .ref a5, .ref a6, .int 1, .ref a7])), (a2, .inl (cy 0, 41, .inl (upd (fun _ => 0) 0 0)))] sz) t) (va_A [(a0, .inr (8, [.ref a1, .int 0, .int 0, .int (-1)])), (a1, .inr (6, [.ref a3, .int 0, .ref a2, .ref a4, .ref a5, .ref a6, .int 1, .ref a7])), (a2, .inl (cy 0, 41, .inl (upd (fun _ => 0) 0 0)))] sz)) 0 0 (va_A [(a0, .inr (8, [.ref a1, .int 0, .int 0, .int (-1)])), (a1, .inr (6, [.ref a3, .int 0, .ref a2, .ref a4, .ref a5, .ref a6, .int 1, .ref a7])), (a2, .inl (cy 0, 41, .inl (upd (fun _ => 0) 0 0)))] sz) := by
  refine Met.ofW (cc := cX6_takes) (maxL := 2) (ret := (some .boolean)) (by decide) rfl ?_
  intro p e s m args below meth c s₁ B hml hv
  obtain ⟨rfl, hsz, hP, hD0, hE⟩ := hv
  have hx := B.exec
  have hb := B.bytes
  have hr := B.returns
  have hts := atoms_spec (ws := wsX6_takes) B.pre
  have hown : s.vm.findClass RX6 = some m.cls := findClass_of_methodNamed B.named
  have hlocks := B.notSynchronized
  subst hsz
  have hK := hE.1
  have hAm := hE.2.2.1
  have hWm := hE.2.2.2
  have hAO := hWm.2.2.2.1
  have hD := hD0.self (sz := s.heap.size)
  have hAF := frA hD0 hE.2.1
  generalize hAe : va_A [(a0, .inr (8, [.ref a1, .int 0, .int 0, .int (-1)])), (a1, .inr (6, [.ref a3, .int 0, .ref a2, .ref a4, .ref a5, .ref a6, .int 1, .ref a7])), (a2, .inl (cy 0, 41, .inl (upd (fun _ => 0) 0 0)))] s.heap.size = A at hD hAF ⊢
  have hA : ∀ q : Nat, s.heap.size ≤ q → A q := fun q h => by rw [← hAe]; exact Or.inr h
  have hS : va_S A s.heap s.heap [] := va_S.rf
  have hl := lv_entry ([.ref a0, .int 40]) (n := 2) (Nat.le_of_ble_eq_true rfl)
  rw [lg_entry_eq]
  generalize (lg_sl ([.ref a0, .int 40]) ++ List.replicate (2 - (lg_sl ([.ref a0, .int 40])).length) Slot.unset).toArray = ls at hl ⊢
  have hl : lv_has ls 2 [(0, .ref a0), (1, .int 40)] := hl
  have hP : va_P D vwCl [(a0, .inr (8, [.ref a1, .int 0, .int 0, .int (-1)])), (a1, .inr (6, [.ref a3, .int 0, .ref a2, .ref a4, .ref a5, .ref a6, .int 1, .ref a7])), (a2, .inl (cy 0, 41, .inl (upd (fun _ => 0) 0 0)))] s.heap := hP
  refine lv_aload_n hx hb dX6_takes_0 rfl (lv_at hl 0 rfl) ?_
  have hPc := hP.sub (ws' := [(a0, .inr (8, [.ref a1, .int 0, .int 0, .int (-1)])), (a1, .inr (6, [.ref a3, .int 0, .ref a2, .ref a4, .ref a5, .ref a6, .int 1, .ref a7])), (a2, .inl (cy 0, 41, .inl (upd (fun _ => 0) 0 0)))]) [0, 1, 2] rfl
  have hDc := hD.sub (ws' := [(a0, .inr (8, [.ref a1, .int 0, .int 0, .int (-1)])), (a1, .inr (6, [.ref a3, .int 0, .ref a2, .ref a4, .ref a5, .ref a6, .int 1, .ref a7])), (a2, .inl (cy 0, 41, .inl (upd (fun _ => 0) 0 0)))]) [0, 1, 2] (by decide) rfl
  have hFc := va_free (wc := [(a0, .inr (8, [.ref a1, .int 0, .int 0, .int (-1)])), (a1, .inr (6, [.ref a3, .int 0, .ref a2, .ref a4, .ref a5, .ref a6, .int 1, .ref a7])), (a2, .inl (cy 0, 41, .inl (upd (fun _ => 0) 0 0)))]) hD hS hA [0, 1, 2] rfl
  refine va_calli (va_runV (As := []) (rest := []) ⟨hx, hb, hml, hown, hts⟩ (C_X6_kind_1 l D cy sz0 sa a0 a1 a2 a3 a4 a5 a6 a7 s.heap.size) (cwV 0 hts gX6_takes_X6_kind rfl rfl rfl (by decide +kernel) ⟨Nat.le_of_ble_eq_true rfl, Nat.le_of_ble_eq_true rfl⟩) ⟨PcW.blind, va_recv hK hPc (ci := 8) (q0 := 0) rfl rfl, PcW.mk hE hS hAF hPc hDc⟩ rfl rfl hl.1 rfl (lv_room (Nat.le_of_ble_eq_true rfl)) dX6_takes_1 ⟨Nat.le_of_ble_eq_true rfl, Nat.le_of_ble_eq_true rfl⟩) hS (fun q _ h => hFc q h) hFc (fun r_1 u t H1 locs ht hvm hw hB hz1 hk1 hS => ?_)
  obtain ⟨hP1, hD1⟩ := hB
  rw [ht] at hP1
  have hP1 : va_P D vwCl [(a0, .inr (8, [.ref a1, .int 0, .int 0, .int (-1)])), (a1, .inr (6, [.ref a3, .int 0, .ref a2, .ref a4, .ref a5, .ref a6, .int 1, .ref a7])), (a2, .inl (cy 0, 41, .inl (upd (fun _ => 0) 0 0)))] H1 := hP1
  obtain ⟨hP, hD⟩ := va_join (wr := []) (w1 := [(a0, .inr (8, [.ref a1, .int 0, .int 0, .int (-1)])), (a1, .inr (6, [.ref a3, .int 0, .ref a2, .ref a4, .ref a5, .ref a6, .int 1, .ref a7])), (a2, .inl (cy 0, 41, .inl (upd (fun _ => 0) 0 0)))]) hP hD [0, 1, 2] [] rfl rfl (by decide) (by decide) hk1 hFc hP1 hD1
  clear hP1 hD1 hPc hDc hFc hk1 hz1
  generalize H1 = H at hP hS ⊢
  have hP : va_P D vwCl [(a0, .inr (8, [.ref a1, .int 0, .int 0, .int (-1)])), (a1, .inr (6, [.ref a3, .int 0, .ref a2, .ref a4, .ref a5, .ref a6, .int 1, .ref a7])), (a2, .inl (cy 0, 41, .inl (upd (fun _ => 0) 0 0)))] H := hP
  have hD : va_D A [(a0, .inr (8, [.ref a1, .int 0, .int 0, .int (-1)])), (a1, .inr (6, [.ref a3, .int 0, .ref a2, .ref a4, .ref a5, .ref a6, .int 1, .ref a7])), (a2, .inl (cy 0, 41, .inl (upd (fun _ => 0) 0 0)))] := hD
  refine W.widen (k := 0) (n := 0) (Nat.le_of_ble_eq_true rfl) (Nat.le_of_ble_eq_true rfl) ?_
  obtain rfl : r_1 = 0 := hw
  refine lv_iload_n hx hb dX6_takes_4 rfl (lv_at hl 1 rfl) ?_
  refine lv_icmp_eq (tgt := 10) hx hb dX6_takes_5 (by decide) (fun c2 => absurd c2 (by decide +kernel)) (fun _ => ?_)
  refine lv_iconst (v := 0) hx hb dX6_takes_8 (by decide +kernel) ?_
  refine W.widen (k := 0) (n := 0) (Nat.le_of_ble_eq_true rfl) (Nat.le_of_ble_eq_true rfl) ?_
  have hP9 := hP.sub (ws' := [(a0, .inr (8, [.ref a1, .int 0, .int 0, .int (-1)])), (a1, .inr (6, [.ref a3, .int 0, .ref a2, .ref a4, .ref a5, .ref a6, .int 1, .ref a7])), (a2, .inl (cy 0, 41, .inl (upd (fun _ => 0) 0 0)))]) [0, 1, 2] rfl
  have hD9 := hD.sub (ws' := [(a0, .inr (8, [.ref a1, .int 0, .int 0, .int (-1)])), (a1, .inr (6, [.ref a3, .int 0, .ref a2, .ref a4, .ref a5, .ref a6, .int 1, .ref a7])), (a2, .inl (cy 0, 41, .inl (upd (fun _ => 0) 0 0)))]) [0, 1, 2] (by decide) rfl
  exact W.zret (v := 0) (ty := .boolean) hx hb hr rfl (fun t ht hW => ⟨⟨0, (), rfl, rfl, ⟨by rw [ht]; exact hP9, hD9⟩⟩, hS.F ht⟩) hS.2.2 dX6_takes_9

set_option maxHeartbeats 1000000 in
set_option maxRecDepth 100000 in
theorem C_X4_placeAt_1 (l : Launch) (D : va_G) (cy : Nat → ClassId) (sz0 : Nat) (sa : Nat → Nat) (a0 a1 a2 a3 a4 a5 a6 : Nat) (sz : Nat)  : Met l yX4_placeAt wsX4_placeAt ({ frames := 0, cells := 0, slots := 0, locals := 0 }) (PcW D cy sz0 sa [.ref a0, .int 0] [(a0, .inr (6, [.ref a2, .int 0, .ref a3, .ref a1, .ref a4, .ref a5, .int 1, .ref a6])), (a1, .inl (cy 0, 41, .inl (upd (fun _ => 0) 0 0)))] sz) (va_Qi (fun (r : Int32) (u : Unit) => r = 0) (fun (u : Unit) (t : State) => BW D [(a0, .inr (6, [.ref a2, .int 0, .ref a3, .ref a1, .ref a4, .ref a5, .int 1, .ref a6])), (a1, .inl (cy 0, 41, .inl (upd (fun _ => 0) 0 0)))] (va_A [(a0, .inr (6, [.ref a2, .int 0, .ref a3, .ref a1, .ref a4, .ref a5, .int 1, .ref a6])), (a1, .inl (cy 0, 41, .inl (upd (fun _ => 0) 0 0)))] sz) t) (va_A [(a0, .inr (6, [.ref a2, .int 0, .ref a3, .ref a1, .ref a4, .ref a5, .int 1, .ref a6])), (a1, .inl (cy 0, 41, .inl (upd (fun _ => 0) 0 0)))] sz)) 0 0 (va_A [(a0, .inr (6, [.ref a2, .int 0, .ref a3, .ref a1, .ref a4, .ref a5, .int 1, .ref a6])), (a1, .inl (cy 0, 41, .inl (upd (fun _ => 0) 0 0)))] sz) := by
  refine Met.ofW (cc := cX4_placeAt) (maxL := 2) (ret := (some .int)) (by decide) rfl ?_
  intro p e s m args below meth c s₁ B hml hv
  obtain ⟨rfl, hsz, hP, hD0, hE⟩ := hv
  have hx := B.exec
  have hb := B.bytes
  have hr := B.returns
  have hts := atoms_spec (ws := wsX4_placeAt) B.pre
  have hown : s.vm.findClass RX4 = some m.cls := findClass_of_methodNamed B.named
  have hlocks := B.notSynchronized
  subst hsz
  have hK := hE.1
  have hAm := hE.2.2.1
  have hWm := hE.2.2.2
  have hAO := hWm.2.2.2.1
  have hD := hD0.self (sz := s.heap.size)
  have hAF := frA hD0 hE.2.1
  generalize hAe : va_A [(a0, .inr (6, [.ref a2, .int 0, .ref a3, .ref a1, .ref a4, .ref a5, .int 1, .ref a6])), (a1, .inl (cy 0, 41, .inl (upd (fun _ => 0) 0 0)))] s.heap.size = A at hD hAF ⊢
  have hA : ∀ q : Nat, s.heap.size ≤ q → A q := fun q h => by rw [← hAe]; exact Or.inr h
  have hS : va_S A s.heap s.heap [] := va_S.rf
  have hl := lv_entry ([.ref a0, .int 0]) (n := 2) (Nat.le_of_ble_eq_true rfl)
  rw [lg_entry_eq]
  generalize (lg_sl ([.ref a0, .int 0]) ++ List.replicate (2 - (lg_sl ([.ref a0, .int 0])).length) Slot.unset).toArray = ls at hl ⊢
  have hl : lv_has ls 2 [(0, .ref a0), (1, .int 0)] := hl
  have hP : va_P D vwCl [(a0, .inr (6, [.ref a2, .int 0, .ref a3, .ref a1, .ref a4, .ref a5, .int 1, .ref a6])), (a1, .inl (cy 0, 41, .inl (upd (fun _ => 0) 0 0)))] s.heap := hP
  refine lv_iload_n hx hb dX4_placeAt_0 rfl (lv_at hl 1 rfl) ?_
  refine lv_if_lt (tgt := 30) hx hb dX4_placeAt_1 (by decide) (fun c1 => absurd c1 (by decide +kernel)) (fun _ => ?_)
  refine lv_iload_n hx hb dX4_placeAt_4 rfl (lv_at hl 1 rfl) ?_
  refine lv_aload_n hx hb dX4_placeAt_5 rfl (lv_at hl 0 rfl) ?_
  refine va_get (D := D) (ci := 6) (v := .int 1) (C := RX4) (T := TX4) (N := 8) hx hb hts (fun _ h => List.mem_cons_of_mem _ (List.mem_append_right _ h)) hown hK hP 0 rfl rfl 6 (by decide) (hts (.fieldLink RX4 42 "PhraseDesk$Lexer" "count" "I") (List.mem_of_getElem? (i := 1) rfl)) (fun _ h9 => h9) rfl dX4_placeAt_6 ?_
  refine lv_icmp_ge (tgt := 30) hx hb dX4_placeAt_9 (by decide) (fun c2 => absurd c2 (by decide +kernel)) (fun _ => ?_)
  refine lv_iload_n hx hb dX4_placeAt_12 rfl (lv_at hl 1 rfl) ?_
  refine lv_aload_n hx hb dX4_placeAt_13 rfl (lv_at hl 0 rfl) ?_
  refine va_get (D := D) (ci := 6) (v := .ref a1) (C := RX4) (T := TX4) (N := 8) hx hb hts (fun _ h => List.mem_cons_of_mem _ (List.mem_append_right _ h)) hown hK hP 0 rfl rfl 3 (by decide) (hts (.fieldLink RX4 19 "PhraseDesk$Lexer" "places" "[I") (List.mem_of_getElem? (i := 2) rfl)) (fun _ h9 => h9) rfl dX4_placeAt_14 ?_
  refine va_alen (v := 41) hx hb hK hP 1 0 rfl rfl rfl dX4_placeAt_17 ?_
  refine lv_icmp_ge (tgt := 30) hx hb dX4_placeAt_18 (by decide) (fun c3 => absurd c3 (by decide +kernel)) (fun _ => ?_)
  refine lv_aload_n hx hb dX4_placeAt_21 rfl (lv_at hl 0 rfl) ?_
  refine va_get (D := D) (ci := 6) (v := .ref a1) (C := RX4) (T := TX4) (N := 8) hx hb hts (fun _ h => List.mem_cons_of_mem _ (List.mem_append_right _ h)) hown hK hP 0 rfl rfl 3 (by decide) (hts (.fieldLink RX4 19 "PhraseDesk$Lexer" "places" "[I") (List.mem_of_getElem? (i := 2) rfl)) (fun _ h9 => h9) rfl dX4_placeAt_22 ?_
  refine lv_iload_n hx hb dX4_placeAt_25 rfl (lv_at hl 1 rfl) ?_
  refine va_iald hx hb hK hP 1 0 rfl rfl (by unfold vp_in; decide +kernel) dX4_placeAt_26 ?_
  refine lv_topi (fun x4 ex4 => ?_)
  obtain rfl : x4 = 0 := ex4.trans (by decide +kernel)
  refine lv_goto (tgt := 31) hx hb dX4_placeAt_27 (by decide) ?_
  refine W.widen (k := 0) (n := 0) (Nat.le_of_ble_eq_true rfl) (Nat.le_of_ble_eq_true rfl) ?_
  have hP9 := hP.sub (ws' := [(a0, .inr (6, [.ref a2, .int 0, .ref a3, .ref a1, .ref a4, .ref a5, .int 1, .ref a6])), (a1, .inl (cy 0, 41, .inl (upd (fun _ => 0) 0 0)))]) [0, 1] rfl
  have hD9 := hD.sub (ws' := [(a0, .inr (6, [.ref a2, .int 0, .ref a3, .ref a1, .ref a4, .ref a5, .int 1, .ref a6])), (a1, .inl (cy 0, 41, .inl (upd (fun _ => 0) 0 0)))]) [0, 1] (by decide) rfl
  exact W.iret (v := 0) hx hb hr (fun t ht hW => ⟨⟨0, (), rfl, rfl, ⟨by rw [ht]; exact hP9, hD9⟩⟩, hS.F ht⟩) hS.2.2 dX4_placeAt_31

set_option maxHeartbeats 1000000 in
set_option maxRecDepth 100000 in
theorem C_X6_refuse_1 (l : Launch) (D : va_G) (cy : Nat → ClassId) (sz0 : Nat) (sa : Nat → Nat) (a0 a1 a2 a3 a4 a5 a6 a7 : Nat) (sz : Nat)  : Met l yX6_refuse wsX6_refuse ({ frames := 1, cells := 0, slots := 0, locals := 21 }) (PcW D cy sz0 sa [.ref a0, .int 2] [(a0, .inr (8, [.ref a1, .int 0, .int 0, .int (-1)])), (a1, .inr (6, [.ref a3, .int 0, .ref a4, .ref a2, .ref a5, .ref a6, .int 1, .ref a7])), (a2, .inl (cy 0, 41, .inl (upd (fun _ => 0) 0 0)))] sz) (va_Qq (fun (r : Option Nat) (u : Unit) => r = none) (fun (u : Unit) (t : State) => BW D [(a0, .inr (8, [.ref a1, .int 0, .int 2, .int 0])), (a1, .inr (6, [.ref a3, .int 0, .ref a4, .ref a2, .ref a5, .ref a6, .int 1, .ref a7])), (a2, .inl (cy 0, 41, .inl (upd (fun _ => 0) 0 0)))] (va_A [(a0, .inr (8, [.ref a1, .int 0, .int 0, .int (-1)])), (a1, .inr (6, [.ref a3, .int 0, .ref a4, .ref a2, .ref a5, .ref a6, .int 1, .ref a7])), (a2, .inl (cy 0, 41, .inl (upd (fun _ => 0) 0 0)))] sz) t) (va_A [(a0, .inr (8, [.ref a1, .int 0, .int 0, .int (-1)])), (a1, .inr (6, [.ref a3, .int 0, .ref a4, .ref a2, .ref a5, .ref a6, .int 1, .ref a7])), (a2, .inl (cy 0, 41, .inl (upd (fun _ => 0) 0 0)))] sz)) 0 0 (va_A [(a0, .inr (8, [.ref a1, .int 0, .int 0, .int (-1)])), (a1, .inr (6, [.ref a3, .int 0, .ref a4, .ref a2, .ref a5, .ref a6, .int 1, .ref a7])), (a2, .inl (cy 0, 41, .inl (upd (fun _ => 0) 0 0)))] sz) := by
  refine Met.ofW (cc := cX6_refuse) (maxL := 2) (ret := (some (.object "PhraseDesk$Node"))) (by decide) rfl ?_
  intro p e s m args below meth c s₁ B hml hv
  obtain ⟨rfl, hsz, hP, hD0, hE⟩ := hv
  have hx := B.exec
  have hb := B.bytes
  have hr := B.returns
  have hts := atoms_spec (ws := wsX6_refuse) B.pre
  have hown : s.vm.findClass RX6 = some m.cls := findClass_of_methodNamed B.named
  have hlocks := B.notSynchronized
  subst hsz
  have hK := hE.1
  have hAm := hE.2.2.1
  have hWm := hE.2.2.2
  have hAO := hWm.2.2.2.1
  have hD := hD0.self (sz := s.heap.size)
  have hAF := frA hD0 hE.2.1
  generalize hAe : va_A [(a0, .inr (8, [.ref a1, .int 0, .int 0, .int (-1)])), (a1, .inr (6, [.ref a3, .int 0, .ref a4, .ref a2, .ref a5, .ref a6, .int 1, .ref a7])), (a2, .inl (cy 0, 41, .inl (upd (fun _ => 0) 0 0)))] s.heap.size = A at hD hAF ⊢
  have hA : ∀ q : Nat, s.heap.size ≤ q → A q := fun q h => by rw [← hAe]; exact Or.inr h
  have hS : va_S A s.heap s.heap [] := va_S.rf
  have hl := lv_entry ([.ref a0, .int 2]) (n := 2) (Nat.le_of_ble_eq_true rfl)
  rw [lg_entry_eq]
  generalize (lg_sl ([.ref a0, .int 2]) ++ List.replicate (2 - (lg_sl ([.ref a0, .int 2])).length) Slot.unset).toArray = ls at hl ⊢
  have hl : lv_has ls 2 [(0, .ref a0), (1, .int 2)] := hl
  have hP : va_P D vwCl [(a0, .inr (8, [.ref a1, .int 0, .int 0, .int (-1)])), (a1, .inr (6, [.ref a3, .int 0, .ref a4, .ref a2, .ref a5, .ref a6, .int 1, .ref a7])), (a2, .inl (cy 0, 41, .inl (upd (fun _ => 0) 0 0)))] s.heap := hP
  refine lv_aload_n hx hb dX6_refuse_0 rfl (lv_at hl 0 rfl) ?_
  refine lv_iload_n hx hb dX6_refuse_1 rfl (lv_at hl 1 rfl) ?_
  refine va_put (D := D) (ci := 8) (v := .int 2) (ty := .int) (C := RX6) (T := TX6) (N := 4) hx hb hts (fun _ h => List.mem_cons_of_mem _ (List.mem_append_left _ (List.mem_append_right _ h))) tyX6 tyX6_ok nmX6 hown hK hP hD hS 0 rfl rfl 2 (by decide) (hts (.fieldLink RX6 22 "PhraseDesk$Parser" "error" "I") (List.mem_of_getElem? (i := 1) rfl)) (fun _ h9 => h9) rfl (by decide +kernel) rfl rfl (Nat.le_of_ble_eq_true rfl) dX6_refuse_2 (fun H locs hP hD hS => ?_)
  have hP : va_P D vwCl [(a0, .inr (8, [.ref a1, .int 0, .int 2, .int (-1)])), (a1, .inr (6, [.ref a3, .int 0, .ref a4, .ref a2, .ref a5, .ref a6, .int 1, .ref a7])), (a2, .inl (cy 0, 41, .inl (upd (fun _ => 0) 0 0)))] H := hP
  have hD : va_D A [(a0, .inr (8, [.ref a1, .int 0, .int 2, .int (-1)])), (a1, .inr (6, [.ref a3, .int 0, .ref a4, .ref a2, .ref a5, .ref a6, .int 1, .ref a7])), (a2, .inl (cy 0, 41, .inl (upd (fun _ => 0) 0 0)))] := hD
  refine lv_aload_n hx hb dX6_refuse_5 rfl (lv_at hl 0 rfl) ?_
  refine lv_aload_n hx hb dX6_refuse_6 rfl (lv_at hl 0 rfl) ?_
  refine va_get (D := D) (ci := 8) (v := .ref a1) (C := RX6) (T := TX6) (N := 4) hx hb hts (fun _ h => List.mem_cons_of_mem _ (List.mem_append_left _ (List.mem_append_right _ h))) hown hK hP 0 rfl rfl 0 (by decide) (hts (.fieldLink RX6 12 "PhraseDesk$Parser" "lexer" "LPhraseDesk$Lexer;") (List.mem_of_getElem? (i := 2) rfl)) (fun _ h9 => h9) rfl dX6_refuse_7 ?_
  refine lv_aload_n hx hb dX6_refuse_10 rfl (lv_at hl 0 rfl) ?_
  refine va_get (D := D) (ci := 8) (v := .int 0) (C := RX6) (T := TX6) (N := 4) hx hb hts (fun _ h => List.mem_cons_of_mem _ (List.mem_append_left _ (List.mem_append_right _ h))) hown hK hP 0 rfl rfl 1 (by decide) (hts (.fieldLink RX6 18 "PhraseDesk$Parser" "at" "I") (List.mem_of_getElem? (i := 3) rfl)) (fun _ h9 => h9) rfl dX6_refuse_11 ?_
  have hPc := hP.sub (ws' := [(a1, .inr (6, [.ref a3, .int 0, .ref a4, .ref a2, .ref a5, .ref a6, .int 1, .ref a7])), (a2, .inl (cy 0, 41, .inl (upd (fun _ => 0) 0 0)))]) [1, 2] rfl
  have hDc := hD.sub (ws' := [(a1, .inr (6, [.ref a3, .int 0, .ref a4, .ref a2, .ref a5, .ref a6, .int 1, .ref a7])), (a2, .inl (cy 0, 41, .inl (upd (fun _ => 0) 0 0)))]) [1, 2] (by decide) rfl
  have hFc := va_free (wc := [(a1, .inr (6, [.ref a3, .int 0, .ref a4, .ref a2, .ref a5, .ref a6, .int 1, .ref a7])), (a2, .inl (cy 0, 41, .inl (upd (fun _ => 0) 0 0)))]) hD hS hA [1, 2] rfl
  refine va_calli (va_runV (As := [.int 0]) (rest := [.ref a0]) ⟨hx, hb, hml, hown, hts⟩ (C_X4_placeAt_1 l D cy sz0 sa a1 a2 a3 a4 a5 a6 a7 H.size) (cwV 1 hts gX6_refuse_X4_placeAt rfl rfl rfl (by decide +kernel) ⟨Nat.le_of_ble_eq_true rfl, Nat.le_of_ble_eq_true rfl⟩) ⟨PcW.blind, va_recv hK hPc (ci := 6) (q0 := 0) rfl rfl, PcW.mk hE hS hAF hPc hDc⟩ rfl rfl hl.1 rfl (lv_room (Nat.le_of_ble_eq_true rfl)) dX6_refuse_14 ⟨Nat.le_of_ble_eq_true rfl, Nat.le_of_ble_eq_true rfl⟩) hS (fun q _ h => hFc q h) hFc (fun r_1 u t H1 locs ht hvm hw hB hz1 hk1 hS => ?_)
  obtain ⟨hP1, hD1⟩ := hB
  rw [ht] at hP1
  have hP1 : va_P D vwCl [(a1, .inr (6, [.ref a3, .int 0, .ref a4, .ref a2, .ref a5, .ref a6, .int 1, .ref a7])), (a2, .inl (cy 0, 41, .inl (upd (fun _ => 0) 0 0)))] H1 := hP1
  obtain ⟨hP, hD⟩ := va_join (wr := [(a0, .inr (8, [.ref a1, .int 0, .int 2, .int (-1)]))]) (w1 := [(a1, .inr (6, [.ref a3, .int 0, .ref a4, .ref a2, .ref a5, .ref a6, .int 1, .ref a7])), (a2, .inl (cy 0, 41, .inl (upd (fun _ => 0) 0 0)))]) hP hD [1, 2] [0] rfl rfl (by decide) (by decide) hk1 hFc hP1 hD1
  clear hP1 hD1 hPc hDc hFc hk1 hz1
  generalize H1 = H at hP hS ⊢
  have hP : va_P D vwCl [(a0, .inr (8, [.ref a1, .int 0, .int 2, .int (-1)])), (a1, .inr (6, [.ref a3, .int 0, .ref a4, .ref a2, .ref a5, .ref a6, .int 1, .ref a7])), (a2, .inl (cy 0, 41, .inl (upd (fun _ => 0) 0 0)))] H := hP
  have hD : va_D A [(a0, .inr (8, [.ref a1, .int 0, .int 2, .int (-1)])), (a1, .inr (6, [.ref a3, .int 0, .ref a4, .ref a2, .ref a5, .ref a6, .int 1, .ref a7])), (a2, .inl (cy 0, 41, .inl (upd (fun _ => 0) 0 0)))] := hD
  refine W.widen (k := 0) (n := 0) (Nat.le_of_ble_eq_true rfl) (Nat.le_of_ble_eq_true rfl) ?_
  obtain rfl : r_1 = 0 := hw
  refine va_put (D := D) (ci := 8) (v := .int 0) (ty := .int) (C := RX6) (T := TX6) (N := 4) hx hb hts (fun _ h => List.mem_cons_of_mem _ (List.mem_append_left _ (List.mem_append_right _ h))) tyX6 tyX6_ok nmX6 hown hK hP hD hS 0 rfl rfl 3 (by decide) (hts (.fieldLink RX6 29 "PhraseDesk$Parser" "place" "I") (List.mem_of_getElem? (i := 4) rfl)) (fun _ h9 => h9) rfl (by decide +kernel) rfl rfl (Nat.le_of_ble_eq_true rfl) dX6_refuse_17 (fun H locs hP hD hS => ?_)
  have hP : va_P D vwCl [(a0, .inr (8, [.ref a1, .int 0, .int 2, .int 0])), (a1, .inr (6, [.ref a3, .int 0, .ref a4, .ref a2, .ref a5, .ref a6, .int 1, .ref a7])), (a2, .inl (cy 0, 41, .inl (upd (fun _ => 0) 0 0)))] H := hP
  have hD : va_D A [(a0, .inr (8, [.ref a1, .int 0, .int 2, .int 0])), (a1, .inr (6, [.ref a3, .int 0, .ref a4, .ref a2, .ref a5, .ref a6, .int 1, .ref a7])), (a2, .inl (cy 0, 41, .inl (upd (fun _ => 0) 0 0)))] := hD
  refine lv_null hx hb dX6_refuse_20 ?_
  refine W.widen (k := 0) (n := 0) (Nat.le_of_ble_eq_true rfl) (Nat.le_of_ble_eq_true rfl) ?_
  have hP9 := hP.sub (ws' := [(a0, .inr (8, [.ref a1, .int 0, .int 2, .int 0])), (a1, .inr (6, [.ref a3, .int 0, .ref a4, .ref a2, .ref a5, .ref a6, .int 1, .ref a7])), (a2, .inl (cy 0, 41, .inl (upd (fun _ => 0) 0 0)))]) [0, 1, 2] rfl
  have hD9 := hD.sub (ws' := [(a0, .inr (8, [.ref a1, .int 0, .int 2, .int 0])), (a1, .inr (6, [.ref a3, .int 0, .ref a4, .ref a2, .ref a5, .ref a6, .int 1, .ref a7])), (a2, .inl (cy 0, 41, .inl (upd (fun _ => 0) 0 0)))]) [0, 1, 2] (by decide) rfl
  exact W.aret (v := .null) hx hb hr (Or.inl ⟨_, rfl⟩) (Or.inl rfl) (fun t ht hW => ⟨⟨none, (), rfl, rfl, ⟨by rw [ht]; exact hP9, hD9⟩⟩, hS.F ht⟩) hS.2.2 dX6_refuse_21

set_option maxHeartbeats 1000000 in
set_option maxRecDepth 100000 in
theorem C_X6_first_1 (l : Launch) (D : va_G) (cy : Nat → ClassId) (sz0 : Nat) (sa : Nat → Nat) (a0 a1 a2 a3 a4 a5 a6 a7 : Nat) (sz : Nat)  : Met l yX6_first wsX6_first ({ frames := 3, cells := 0, slots := 0, locals := 62 }) (PcW D cy sz0 sa [.ref a0, .int 0] [(a0, .inr (8, [.ref a1, .int 0, .int 0, .int (-1)])), (a1, .inr (6, [.ref a4, .int 0, .ref a2, .ref a3, .ref a5, .ref a6, .int 1, .ref a7])), (a2, .inl (cy 0, 41, .inl (upd (fun _ => 0) 0 0))), (a3, .inl (cy 0, 41, .inl (upd (fun _ => 0) 0 0)))] sz) (va_Qq (fun (r : Option Nat) (u : Unit) => r = none) (fun (u : Unit) (t : State) => BW D [(a0, .inr (8, [.ref a1, .int 0, .int 2, .int 0])), (a1, .inr (6, [.ref a4, .int 0, .ref a2, .ref a3, .ref a5, .ref a6, .int 1, .ref a7])), (a2, .inl (cy 0, 41, .inl (upd (fun _ => 0) 0 0))), (a3, .inl (cy 0, 41, .inl (upd (fun _ => 0) 0 0)))] (va_A [(a0, .inr (8, [.ref a1, .int 0, .int 0, .int (-1)])), (a1, .inr (6, [.ref a4, .int 0, .ref a2, .ref a3, .ref a5, .ref a6, .int 1, .ref a7])), (a2, .inl (cy 0, 41, .inl (upd (fun _ => 0) 0 0))), (a3, .inl (cy 0, 41, .inl (upd (fun _ => 0) 0 0)))] sz) t) (va_A [(a0, .inr (8, [.ref a1, .int 0, .int 0, .int (-1)])), (a1, .inr (6, [.ref a4, .int 0, .ref a2, .ref a3, .ref a5, .ref a6, .int 1, .ref a7])), (a2, .inl (cy 0, 41, .inl (upd (fun _ => 0) 0 0))), (a3, .inl (cy 0, 41, .inl (upd (fun _ => 0) 0 0)))] sz)) 0 0 (va_A [(a0, .inr (8, [.ref a1, .int 0, .int 0, .int (-1)])), (a1, .inr (6, [.ref a4, .int 0, .ref a2, .ref a3, .ref a5, .ref a6, .int 1, .ref a7])), (a2, .inl (cy 0, 41, .inl (upd (fun _ => 0) 0 0))), (a3, .inl (cy 0, 41, .inl (upd (fun _ => 0) 0 0)))] sz) := by
  refine Met.ofW (cc := cX6_first) (maxL := 2) (ret := (some (.object "PhraseDesk$Node"))) (by decide) rfl ?_
  intro p e s m args below meth c s₁ B hml hv
  obtain ⟨rfl, hsz, hP, hD0, hE⟩ := hv
  have hx := B.exec
  have hb := B.bytes
  have hr := B.returns
  have hts := atoms_spec (ws := wsX6_first) B.pre
  have hown : s.vm.findClass RX6 = some m.cls := findClass_of_methodNamed B.named
  have hlocks := B.notSynchronized
  subst hsz
  have hK := hE.1
  have hAm := hE.2.2.1
  have hWm := hE.2.2.2
  have hAO := hWm.2.2.2.1
  have hD := hD0.self (sz := s.heap.size)
  have hAF := frA hD0 hE.2.1
  generalize hAe : va_A [(a0, .inr (8, [.ref a1, .int 0, .int 0, .int (-1)])), (a1, .inr (6, [.ref a4, .int 0, .ref a2, .ref a3, .ref a5, .ref a6, .int 1, .ref a7])), (a2, .inl (cy 0, 41, .inl (upd (fun _ => 0) 0 0))), (a3, .inl (cy 0, 41, .inl (upd (fun _ => 0) 0 0)))] s.heap.size = A at hD hAF ⊢
  have hA : ∀ q : Nat, s.heap.size ≤ q → A q := fun q h => by rw [← hAe]; exact Or.inr h
  have hS : va_S A s.heap s.heap [] := va_S.rf
  have hl := lv_entry ([.ref a0, .int 0]) (n := 2) (Nat.le_of_ble_eq_true rfl)
  rw [lg_entry_eq]
  generalize (lg_sl ([.ref a0, .int 0]) ++ List.replicate (2 - (lg_sl ([.ref a0, .int 0])).length) Slot.unset).toArray = ls at hl ⊢
  have hl : lv_has ls 2 [(0, .ref a0), (1, .int 0)] := hl
  have hP : va_P D vwCl [(a0, .inr (8, [.ref a1, .int 0, .int 0, .int (-1)])), (a1, .inr (6, [.ref a4, .int 0, .ref a2, .ref a3, .ref a5, .ref a6, .int 1, .ref a7])), (a2, .inl (cy 0, 41, .inl (upd (fun _ => 0) 0 0))), (a3, .inl (cy 0, 41, .inl (upd (fun _ => 0) 0 0)))] s.heap := hP
  refine lv_aload_n hx hb dX6_first_0 rfl (lv_at hl 0 rfl) ?_
  have hPc := hP.sub (ws' := [(a0, .inr (8, [.ref a1, .int 0, .int 0, .int (-1)])), (a1, .inr (6, [.ref a4, .int 0, .ref a2, .ref a3, .ref a5, .ref a6, .int 1, .ref a7])), (a2, .inl (cy 0, 41, .inl (upd (fun _ => 0) 0 0)))]) [0, 1, 2] rfl
  have hDc := hD.sub (ws' := [(a0, .inr (8, [.ref a1, .int 0, .int 0, .int (-1)])), (a1, .inr (6, [.ref a4, .int 0, .ref a2, .ref a3, .ref a5, .ref a6, .int 1, .ref a7])), (a2, .inl (cy 0, 41, .inl (upd (fun _ => 0) 0 0)))]) [0, 1, 2] (by decide) rfl
  have hFc := va_free (wc := [(a0, .inr (8, [.ref a1, .int 0, .int 0, .int (-1)])), (a1, .inr (6, [.ref a4, .int 0, .ref a2, .ref a3, .ref a5, .ref a6, .int 1, .ref a7])), (a2, .inl (cy 0, 41, .inl (upd (fun _ => 0) 0 0)))]) hD hS hA [0, 1, 2] rfl
  refine va_calli (va_runV (As := []) (rest := []) ⟨hx, hb, hml, hown, hts⟩ (C_X6_kind_1 l D cy sz0 sa a0 a1 a2 a4 a3 a5 a6 a7 s.heap.size) (cwV 0 hts gX6_first_X6_kind rfl rfl rfl (by decide +kernel) ⟨Nat.le_of_ble_eq_true rfl, Nat.le_of_ble_eq_true rfl⟩) ⟨PcW.blind, va_recv hK hPc (ci := 8) (q0 := 0) rfl rfl, PcW.mk hE hS hAF hPc hDc⟩ rfl rfl hl.1 rfl (lv_room (Nat.le_of_ble_eq_true rfl)) dX6_first_1 ⟨Nat.le_of_ble_eq_true rfl, Nat.le_of_ble_eq_true rfl⟩) hS (fun q _ h => hFc q h) hFc (fun r_1 u t H1 locs ht hvm hw hB hz1 hk1 hS => ?_)
  obtain ⟨hP1, hD1⟩ := hB
  rw [ht] at hP1
  have hP1 : va_P D vwCl [(a0, .inr (8, [.ref a1, .int 0, .int 0, .int (-1)])), (a1, .inr (6, [.ref a4, .int 0, .ref a2, .ref a3, .ref a5, .ref a6, .int 1, .ref a7])), (a2, .inl (cy 0, 41, .inl (upd (fun _ => 0) 0 0)))] H1 := hP1
  obtain ⟨hP, hD⟩ := va_join (wr := [(a3, .inl (cy 0, 41, .inl (upd (fun _ => 0) 0 0)))]) (w1 := [(a0, .inr (8, [.ref a1, .int 0, .int 0, .int (-1)])), (a1, .inr (6, [.ref a4, .int 0, .ref a2, .ref a3, .ref a5, .ref a6, .int 1, .ref a7])), (a2, .inl (cy 0, 41, .inl (upd (fun _ => 0) 0 0)))]) hP hD [0, 1, 2] [3] rfl rfl (by decide) (by decide) hk1 hFc hP1 hD1
  clear hP1 hD1 hPc hDc hFc hk1 hz1
  generalize H1 = H at hP hS ⊢
  have hP : va_P D vwCl [(a3, .inl (cy 0, 41, .inl (upd (fun _ => 0) 0 0))), (a0, .inr (8, [.ref a1, .int 0, .int 0, .int (-1)])), (a1, .inr (6, [.ref a4, .int 0, .ref a2, .ref a3, .ref a5, .ref a6, .int 1, .ref a7])), (a2, .inl (cy 0, 41, .inl (upd (fun _ => 0) 0 0)))] H := hP
  have hD : va_D A [(a3, .inl (cy 0, 41, .inl (upd (fun _ => 0) 0 0))), (a0, .inr (8, [.ref a1, .int 0, .int 0, .int (-1)])), (a1, .inr (6, [.ref a4, .int 0, .ref a2, .ref a3, .ref a5, .ref a6, .int 1, .ref a7])), (a2, .inl (cy 0, 41, .inl (upd (fun _ => 0) 0 0)))] := hD
  refine W.widen (k := 0) (n := 0) (Nat.le_of_ble_eq_true rfl) (Nat.le_of_ble_eq_true rfl) ?_
  obtain rfl : r_1 = 0 := hw
  refine lv_iconst (v := 1) hx hb dX6_first_4 (by decide +kernel) ?_
  refine lv_icmp_ne (tgt := 35) hx hb dX6_first_5 (by decide) (fun _ => ?_) (fun c2 => absurd c2 (by decide +kernel))
  refine lv_aload_n hx hb dX6_first_35 rfl (lv_at hl 0 rfl) ?_
  refine lv_bipush (v := 35) hx hb dX6_first_36 (by decide +kernel) ?_
  have hPc := hP.sub (ws' := [(a0, .inr (8, [.ref a1, .int 0, .int 0, .int (-1)])), (a1, .inr (6, [.ref a4, .int 0, .ref a2, .ref a3, .ref a5, .ref a6, .int 1, .ref a7])), (a2, .inl (cy 0, 41, .inl (upd (fun _ => 0) 0 0)))]) [1, 2, 3] rfl
  have hDc := hD.sub (ws' := [(a0, .inr (8, [.ref a1, .int 0, .int 0, .int (-1)])), (a1, .inr (6, [.ref a4, .int 0, .ref a2, .ref a3, .ref a5, .ref a6, .int 1, .ref a7])), (a2, .inl (cy 0, 41, .inl (upd (fun _ => 0) 0 0)))]) [1, 2, 3] (by decide) rfl
  have hFc := va_free (wc := [(a0, .inr (8, [.ref a1, .int 0, .int 0, .int (-1)])), (a1, .inr (6, [.ref a4, .int 0, .ref a2, .ref a3, .ref a5, .ref a6, .int 1, .ref a7])), (a2, .inl (cy 0, 41, .inl (upd (fun _ => 0) 0 0)))]) hD hS hA [1, 2, 3] rfl
  refine va_calli (va_runV (As := [.int 35]) (rest := []) ⟨hx, hb, hml, hown, hts⟩ (C_X6_takes_3 l D cy sz0 sa a0 a1 a2 a4 a3 a5 a6 a7 H.size) (cwV 1 hts gX6_first_X6_takes rfl rfl rfl (by decide +kernel) ⟨Nat.le_of_ble_eq_true rfl, Nat.le_of_ble_eq_true rfl⟩) ⟨PcW.blind, va_recv hK hPc (ci := 8) (q0 := 0) rfl rfl, PcW.mk hE hS hAF hPc hDc⟩ rfl rfl hl.1 rfl (lv_room (Nat.le_of_ble_eq_true rfl)) dX6_first_38 ⟨Nat.le_of_ble_eq_true rfl, Nat.le_of_ble_eq_true rfl⟩) hS (fun q _ h => hFc q h) hFc (fun r_3 u t H1 locs ht hvm hw hB hz1 hk1 hS => ?_)
  obtain ⟨hP1, hD1⟩ := hB
  rw [ht] at hP1
  have hP1 : va_P D vwCl [(a0, .inr (8, [.ref a1, .int 0, .int 0, .int (-1)])), (a1, .inr (6, [.ref a4, .int 0, .ref a2, .ref a3, .ref a5, .ref a6, .int 1, .ref a7])), (a2, .inl (cy 0, 41, .inl (upd (fun _ => 0) 0 0)))] H1 := hP1
  obtain ⟨hP, hD⟩ := va_join (wr := [(a3, .inl (cy 0, 41, .inl (upd (fun _ => 0) 0 0)))]) (w1 := [(a0, .inr (8, [.ref a1, .int 0, .int 0, .int (-1)])), (a1, .inr (6, [.ref a4, .int 0, .ref a2, .ref a3, .ref a5, .ref a6, .int 1, .ref a7])), (a2, .inl (cy 0, 41, .inl (upd (fun _ => 0) 0 0)))]) hP hD [1, 2, 3] [0] rfl rfl (by decide) (by decide) hk1 hFc hP1 hD1
  clear hP1 hD1 hPc hDc hFc hk1 hz1
  generalize H1 = H at hP hS ⊢
  have hP : va_P D vwCl [(a3, .inl (cy 0, 41, .inl (upd (fun _ => 0) 0 0))), (a0, .inr (8, [.ref a1, .int 0, .int 0, .int (-1)])), (a1, .inr (6, [.ref a4, .int 0, .ref a2, .ref a3, .ref a5, .ref a6, .int 1, .ref a7])), (a2, .inl (cy 0, 41, .inl (upd (fun _ => 0) 0 0)))] H := hP
  have hD : va_D A [(a3, .inl (cy 0, 41, .inl (upd (fun _ => 0) 0 0))), (a0, .inr (8, [.ref a1, .int 0, .int 0, .int (-1)])), (a1, .inr (6, [.ref a4, .int 0, .ref a2, .ref a3, .ref a5, .ref a6, .int 1, .ref a7])), (a2, .inl (cy 0, 41, .inl (upd (fun _ => 0) 0 0)))] := hD
  refine W.widen (k := 0) (n := 0) (Nat.le_of_ble_eq_true rfl) (Nat.le_of_ble_eq_true rfl) ?_
  obtain rfl : r_3 = 0 := hw
  refine lv_if_eq (tgt := 68) hx hb dX6_first_41 (by decide) (fun _ => ?_) (fun c4 => absurd (by decide +kernel) c4)
  refine lv_aload_n hx hb dX6_first_68 rfl (lv_at hl 0 rfl) ?_
  refine lv_bipush (v := 40) hx hb dX6_first_69 (by decide +kernel) ?_
  have hPc := hP.sub (ws' := [(a0, .inr (8, [.ref a1, .int 0, .int 0, .int (-1)])), (a1, .inr (6, [.ref a4, .int 0, .ref a2, .ref a3, .ref a5, .ref a6, .int 1, .ref a7])), (a2, .inl (cy 0, 41, .inl (upd (fun _ => 0) 0 0)))]) [1, 2, 3] rfl
  have hDc := hD.sub (ws' := [(a0, .inr (8, [.ref a1, .int 0, .int 0, .int (-1)])), (a1, .inr (6, [.ref a4, .int 0, .ref a2, .ref a3, .ref a5, .ref a6, .int 1, .ref a7])), (a2, .inl (cy 0, 41, .inl (upd (fun _ => 0) 0 0)))]) [1, 2, 3] (by decide) rfl
  have hFc := va_free (wc := [(a0, .inr (8, [.ref a1, .int 0, .int 0, .int (-1)])), (a1, .inr (6, [.ref a4, .int 0, .ref a2, .ref a3, .ref a5, .ref a6, .int 1, .ref a7])), (a2, .inl (cy 0, 41, .inl (upd (fun _ => 0) 0 0)))]) hD hS hA [1, 2, 3] rfl
  refine va_calli (va_runV (As := [.int 40]) (rest := []) ⟨hx, hb, hml, hown, hts⟩ (C_X6_takes_4 l D cy sz0 sa a0 a1 a2 a4 a3 a5 a6 a7 H.size) (cwV 1 hts gX6_first_X6_takes rfl rfl rfl (by decide +kernel) ⟨Nat.le_of_ble_eq_true rfl, Nat.le_of_ble_eq_true rfl⟩) ⟨PcW.blind, va_recv hK hPc (ci := 8) (q0 := 0) rfl rfl, PcW.mk hE hS hAF hPc hDc⟩ rfl rfl hl.1 rfl (lv_room (Nat.le_of_ble_eq_true rfl)) dX6_first_71 ⟨Nat.le_of_ble_eq_true rfl, Nat.le_of_ble_eq_true rfl⟩) hS (fun q _ h => hFc q h) hFc (fun r_5 u t H1 locs ht hvm hw hB hz1 hk1 hS => ?_)
  obtain ⟨hP1, hD1⟩ := hB
  rw [ht] at hP1
  have hP1 : va_P D vwCl [(a0, .inr (8, [.ref a1, .int 0, .int 0, .int (-1)])), (a1, .inr (6, [.ref a4, .int 0, .ref a2, .ref a3, .ref a5, .ref a6, .int 1, .ref a7])), (a2, .inl (cy 0, 41, .inl (upd (fun _ => 0) 0 0)))] H1 := hP1
  obtain ⟨hP, hD⟩ := va_join (wr := [(a3, .inl (cy 0, 41, .inl (upd (fun _ => 0) 0 0)))]) (w1 := [(a0, .inr (8, [.ref a1, .int 0, .int 0, .int (-1)])), (a1, .inr (6, [.ref a4, .int 0, .ref a2, .ref a3, .ref a5, .ref a6, .int 1, .ref a7])), (a2, .inl (cy 0, 41, .inl (upd (fun _ => 0) 0 0)))]) hP hD [1, 2, 3] [0] rfl rfl (by decide) (by decide) hk1 hFc hP1 hD1
  clear hP1 hD1 hPc hDc hFc hk1 hz1
  generalize H1 = H at hP hS ⊢
  have hP : va_P D vwCl [(a3, .inl (cy 0, 41, .inl (upd (fun _ => 0) 0 0))), (a0, .inr (8, [.ref a1, .int 0, .int 0, .int (-1)])), (a1, .inr (6, [.ref a4, .int 0, .ref a2, .ref a3, .ref a5, .ref a6, .int 1, .ref a7])), (a2, .inl (cy 0, 41, .inl (upd (fun _ => 0) 0 0)))] H := hP
  have hD : va_D A [(a3, .inl (cy 0, 41, .inl (upd (fun _ => 0) 0 0))), (a0, .inr (8, [.ref a1, .int 0, .int 0, .int (-1)])), (a1, .inr (6, [.ref a4, .int 0, .ref a2, .ref a3, .ref a5, .ref a6, .int 1, .ref a7])), (a2, .inl (cy 0, 41, .inl (upd (fun _ => 0) 0 0)))] := hD
  refine W.widen (k := 0) (n := 0) (Nat.le_of_ble_eq_true rfl) (Nat.le_of_ble_eq_true rfl) ?_
  obtain rfl : r_5 = 0 := hw
  refine lv_if_eq (tgt := 83) hx hb dX6_first_74 (by decide) (fun _ => ?_) (fun c6 => absurd (by decide +kernel) c6)
  refine lv_aload_n hx hb dX6_first_83 rfl (lv_at hl 0 rfl) ?_
  have hPc := hP.sub (ws' := [(a0, .inr (8, [.ref a1, .int 0, .int 0, .int (-1)])), (a1, .inr (6, [.ref a4, .int 0, .ref a2, .ref a3, .ref a5, .ref a6, .int 1, .ref a7])), (a2, .inl (cy 0, 41, .inl (upd (fun _ => 0) 0 0)))]) [1, 2, 3] rfl
  have hDc := hD.sub (ws' := [(a0, .inr (8, [.ref a1, .int 0, .int 0, .int (-1)])), (a1, .inr (6, [.ref a4, .int 0, .ref a2, .ref a3, .ref a5, .ref a6, .int 1, .ref a7])), (a2, .inl (cy 0, 41, .inl (upd (fun _ => 0) 0 0)))]) [1, 2, 3] (by decide) rfl
  have hFc := va_free (wc := [(a0, .inr (8, [.ref a1, .int 0, .int 0, .int (-1)])), (a1, .inr (6, [.ref a4, .int 0, .ref a2, .ref a3, .ref a5, .ref a6, .int 1, .ref a7])), (a2, .inl (cy 0, 41, .inl (upd (fun _ => 0) 0 0)))]) hD hS hA [1, 2, 3] rfl
  refine va_calli (va_runV (As := []) (rest := []) ⟨hx, hb, hml, hown, hts⟩ (C_X6_kind_1 l D cy sz0 sa a0 a1 a2 a4 a3 a5 a6 a7 H.size) (cwV 0 hts gX6_first_X6_kind rfl rfl rfl (by decide +kernel) ⟨Nat.le_of_ble_eq_true rfl, Nat.le_of_ble_eq_true rfl⟩) ⟨PcW.blind, va_recv hK hPc (ci := 8) (q0 := 0) rfl rfl, PcW.mk hE hS hAF hPc hDc⟩ rfl rfl hl.1 rfl (lv_room (Nat.le_of_ble_eq_true rfl)) dX6_first_84 ⟨Nat.le_of_ble_eq_true rfl, Nat.le_of_ble_eq_true rfl⟩) hS (fun q _ h => hFc q h) hFc (fun r_7 u t H1 locs ht hvm hw hB hz1 hk1 hS => ?_)
  obtain ⟨hP1, hD1⟩ := hB
  rw [ht] at hP1
  have hP1 : va_P D vwCl [(a0, .inr (8, [.ref a1, .int 0, .int 0, .int (-1)])), (a1, .inr (6, [.ref a4, .int 0, .ref a2, .ref a3, .ref a5, .ref a6, .int 1, .ref a7])), (a2, .inl (cy 0, 41, .inl (upd (fun _ => 0) 0 0)))] H1 := hP1
  obtain ⟨hP, hD⟩ := va_join (wr := [(a3, .inl (cy 0, 41, .inl (upd (fun _ => 0) 0 0)))]) (w1 := [(a0, .inr (8, [.ref a1, .int 0, .int 0, .int (-1)])), (a1, .inr (6, [.ref a4, .int 0, .ref a2, .ref a3, .ref a5, .ref a6, .int 1, .ref a7])), (a2, .inl (cy 0, 41, .inl (upd (fun _ => 0) 0 0)))]) hP hD [1, 2, 3] [0] rfl rfl (by decide) (by decide) hk1 hFc hP1 hD1
  clear hP1 hD1 hPc hDc hFc hk1 hz1
  generalize H1 = H at hP hS ⊢
  have hP : va_P D vwCl [(a3, .inl (cy 0, 41, .inl (upd (fun _ => 0) 0 0))), (a0, .inr (8, [.ref a1, .int 0, .int 0, .int (-1)])), (a1, .inr (6, [.ref a4, .int 0, .ref a2, .ref a3, .ref a5, .ref a6, .int 1, .ref a7])), (a2, .inl (cy 0, 41, .inl (upd (fun _ => 0) 0 0)))] H := hP
  have hD : va_D A [(a3, .inl (cy 0, 41, .inl (upd (fun _ => 0) 0 0))), (a0, .inr (8, [.ref a1, .int 0, .int 0, .int (-1)])), (a1, .inr (6, [.ref a4, .int 0, .ref a2, .ref a3, .ref a5, .ref a6, .int 1, .ref a7])), (a2, .inl (cy 0, 41, .inl (upd (fun _ => 0) 0 0)))] := hD
  refine W.widen (k := 0) (n := 0) (Nat.le_of_ble_eq_true rfl) (Nat.le_of_ble_eq_true rfl) ?_
  obtain rfl : r_7 = 0 := hw
  refine lv_iconst (v := 2) hx hb dX6_first_87 (by decide +kernel) ?_
  refine lv_icmp_ne (tgt := 99) hx hb dX6_first_88 (by decide) (fun _ => ?_) (fun c8 => absurd c8 (by decide +kernel))
  refine lv_aload_n hx hb dX6_first_99 rfl (lv_at hl 0 rfl) ?_
  refine lv_iconst (v := 2) hx hb dX6_first_100 (by decide +kernel) ?_
  have hPc := hP.sub (ws' := [(a0, .inr (8, [.ref a1, .int 0, .int 0, .int (-1)])), (a1, .inr (6, [.ref a4, .int 0, .ref a2, .ref a3, .ref a5, .ref a6, .int 1, .ref a7])), (a3, .inl (cy 0, 41, .inl (upd (fun _ => 0) 0 0)))]) [1, 2, 0] rfl
  have hDc := hD.sub (ws' := [(a0, .inr (8, [.ref a1, .int 0, .int 0, .int (-1)])), (a1, .inr (6, [.ref a4, .int 0, .ref a2, .ref a3, .ref a5, .ref a6, .int 1, .ref a7])), (a3, .inl (cy 0, 41, .inl (upd (fun _ => 0) 0 0)))]) [1, 2, 0] (by decide) rfl
  have hFc := va_free (wc := [(a0, .inr (8, [.ref a1, .int 0, .int 0, .int (-1)])), (a1, .inr (6, [.ref a4, .int 0, .ref a2, .ref a3, .ref a5, .ref a6, .int 1, .ref a7])), (a3, .inl (cy 0, 41, .inl (upd (fun _ => 0) 0 0)))]) hD hS hA [1, 2, 0] rfl
  refine va_callq (va_runV (As := [.int 2]) (rest := []) ⟨hx, hb, hml, hown, hts⟩ (C_X6_refuse_1 l D cy sz0 sa a0 a1 a3 a4 a2 a5 a6 a7 H.size) (cwV 1 hts gX6_first_X6_refuse rfl rfl rfl (by decide +kernel) ⟨Nat.le_of_ble_eq_true rfl, Nat.le_of_ble_eq_true rfl⟩) ⟨PcW.blind, va_recv hK hPc (ci := 8) (q0 := 0) rfl rfl, PcW.mk hE hS hAF hPc hDc⟩ rfl rfl hl.1 rfl (lv_room (Nat.le_of_ble_eq_true rfl)) dX6_first_101 ⟨Nat.le_of_ble_eq_true rfl, Nat.le_of_ble_eq_true rfl⟩) hS (fun q _ h => hFc q h) hFc (fun r_9 u t H1 locs ht hvm hw hB hz1 hk1 hS => ?_)
  obtain ⟨hP1, hD1⟩ := hB
  rw [ht] at hP1
  have hP1 : va_P D vwCl [(a0, .inr (8, [.ref a1, .int 0, .int 2, .int 0])), (a1, .inr (6, [.ref a4, .int 0, .ref a2, .ref a3, .ref a5, .ref a6, .int 1, .ref a7])), (a3, .inl (cy 0, 41, .inl (upd (fun _ => 0) 0 0)))] H1 := hP1
  obtain ⟨hP, hD⟩ := va_join (wr := [(a2, .inl (cy 0, 41, .inl (upd (fun _ => 0) 0 0)))]) (w1 := [(a0, .inr (8, [.ref a1, .int 0, .int 2, .int 0])), (a1, .inr (6, [.ref a4, .int 0, .ref a2, .ref a3, .ref a5, .ref a6, .int 1, .ref a7])), (a3, .inl (cy 0, 41, .inl (upd (fun _ => 0) 0 0)))]) hP hD [1, 2, 0] [3] rfl rfl (by decide) (by decide) hk1 hFc hP1 hD1
  clear hP1 hD1 hPc hDc hFc hk1 hz1
  generalize H1 = H at hP hS ⊢
  have hP : va_P D vwCl [(a2, .inl (cy 0, 41, .inl (upd (fun _ => 0) 0 0))), (a0, .inr (8, [.ref a1, .int 0, .int 2, .int 0])), (a1, .inr (6, [.ref a4, .int 0, .ref a2, .ref a3, .ref a5, .ref a6, .int 1, .ref a7])), (a3, .inl (cy 0, 41, .inl (upd (fun _ => 0) 0 0)))] H := hP
  have hD : va_D A [(a2, .inl (cy 0, 41, .inl (upd (fun _ => 0) 0 0))), (a0, .inr (8, [.ref a1, .int 0, .int 2, .int 0])), (a1, .inr (6, [.ref a4, .int 0, .ref a2, .ref a3, .ref a5, .ref a6, .int 1, .ref a7])), (a3, .inl (cy 0, 41, .inl (upd (fun _ => 0) 0 0)))] := hD
  refine W.widen (k := 0) (n := 0) (Nat.le_of_ble_eq_true rfl) (Nat.le_of_ble_eq_true rfl) ?_
  obtain rfl : r_9 = none := hw
  refine W.eq (g2 := F0 m 104 ls [.null]) rfl ?_
  refine W.widen (k := 0) (n := 0) (Nat.le_of_ble_eq_true rfl) (Nat.le_of_ble_eq_true rfl) ?_
  have hP9 := hP.sub (ws' := [(a0, .inr (8, [.ref a1, .int 0, .int 2, .int 0])), (a1, .inr (6, [.ref a4, .int 0, .ref a2, .ref a3, .ref a5, .ref a6, .int 1, .ref a7])), (a2, .inl (cy 0, 41, .inl (upd (fun _ => 0) 0 0))), (a3, .inl (cy 0, 41, .inl (upd (fun _ => 0) 0 0)))]) [1, 2, 0, 3] rfl
  have hD9 := hD.sub (ws' := [(a0, .inr (8, [.ref a1, .int 0, .int 2, .int 0])), (a1, .inr (6, [.ref a4, .int 0, .ref a2, .ref a3, .ref a5, .ref a6, .int 1, .ref a7])), (a2, .inl (cy 0, 41, .inl (upd (fun _ => 0) 0 0))), (a3, .inl (cy 0, 41, .inl (upd (fun _ => 0) 0 0)))]) [1, 2, 0, 3] (by decide) rfl
  exact W.aret (v := .null) hx hb hr (Or.inl ⟨_, rfl⟩) (Or.inl rfl) (fun t ht hW => ⟨⟨none, (), rfl, rfl, ⟨by rw [ht]; exact hP9, hD9⟩⟩, hS.F ht⟩) hS.2.2 dX6_first_104

set_option maxHeartbeats 1000000 in
set_option maxRecDepth 100000 in
theorem C_X6_chain_1 (l : Launch) (D : va_G) (cy : Nat → ClassId) (sz0 : Nat) (sa : Nat → Nat) (a0 a1 a2 a3 a4 a5 a6 a7 : Nat) (sz : Nat)  : Met l yX6_chain wsX6_chain ({ frames := 4, cells := 0, slots := 0, locals := 83 }) (PcW D cy sz0 sa [.ref a0, .int 0] [(a0, .inr (8, [.ref a1, .int 0, .int 0, .int (-1)])), (a1, .inr (6, [.ref a4, .int 0, .ref a2, .ref a3, .ref a5, .ref a6, .int 1, .ref a7])), (a2, .inl (cy 0, 41, .inl (upd (fun _ => 0) 0 0))), (a3, .inl (cy 0, 41, .inl (upd (fun _ => 0) 0 0)))] sz) (va_Qq (fun (r : Option Nat) (u : Unit) => r = none) (fun (u : Unit) (t : State) => BW D [(a0, .inr (8, [.ref a1, .int 0, .int 2, .int 0])), (a1, .inr (6, [.ref a4, .int 0, .ref a2, .ref a3, .ref a5, .ref a6, .int 1, .ref a7])), (a2, .inl (cy 0, 41, .inl (upd (fun _ => 0) 0 0))), (a3, .inl (cy 0, 41, .inl (upd (fun _ => 0) 0 0)))] (va_A [(a0, .inr (8, [.ref a1, .int 0, .int 0, .int (-1)])), (a1, .inr (6, [.ref a4, .int 0, .ref a2, .ref a3, .ref a5, .ref a6, .int 1, .ref a7])), (a2, .inl (cy 0, 41, .inl (upd (fun _ => 0) 0 0))), (a3, .inl (cy 0, 41, .inl (upd (fun _ => 0) 0 0)))] sz) t) (va_A [(a0, .inr (8, [.ref a1, .int 0, .int 0, .int (-1)])), (a1, .inr (6, [.ref a4, .int 0, .ref a2, .ref a3, .ref a5, .ref a6, .int 1, .ref a7])), (a2, .inl (cy 0, 41, .inl (upd (fun _ => 0) 0 0))), (a3, .inl (cy 0, 41, .inl (upd (fun _ => 0) 0 0)))] sz)) 0 0 (va_A [(a0, .inr (8, [.ref a1, .int 0, .int 0, .int (-1)])), (a1, .inr (6, [.ref a4, .int 0, .ref a2, .ref a3, .ref a5, .ref a6, .int 1, .ref a7])), (a2, .inl (cy 0, 41, .inl (upd (fun _ => 0) 0 0))), (a3, .inl (cy 0, 41, .inl (upd (fun _ => 0) 0 0)))] sz) := by
  refine Met.ofW (cc := cX6_chain) (maxL := 5) (ret := (some (.object "PhraseDesk$Node"))) (by decide) rfl ?_
  intro p e s m args below meth c s₁ B hml hv
  obtain ⟨rfl, hsz, hP, hD0, hE⟩ := hv
  have hx := B.exec
  have hb := B.bytes
  have hr := B.returns
  have hts := atoms_spec (ws := wsX6_chain) B.pre
  have hown : s.vm.findClass RX6 = some m.cls := findClass_of_methodNamed B.named
  have hlocks := B.notSynchronized
  subst hsz
  have hK := hE.1
  have hAm := hE.2.2.1
  have hWm := hE.2.2.2
  have hAO := hWm.2.2.2.1
  have hD := hD0.self (sz := s.heap.size)
  have hAF := frA hD0 hE.2.1
  generalize hAe : va_A [(a0, .inr (8, [.ref a1, .int 0, .int 0, .int (-1)])), (a1, .inr (6, [.ref a4, .int 0, .ref a2, .ref a3, .ref a5, .ref a6, .int 1, .ref a7])), (a2, .inl (cy 0, 41, .inl (upd (fun _ => 0) 0 0))), (a3, .inl (cy 0, 41, .inl (upd (fun _ => 0) 0 0)))] s.heap.size = A at hD hAF ⊢
  have hA : ∀ q : Nat, s.heap.size ≤ q → A q := fun q h => by rw [← hAe]; exact Or.inr h
  have hS : va_S A s.heap s.heap [] := va_S.rf
  have hl := lv_entry ([.ref a0, .int 0]) (n := 5) (Nat.le_of_ble_eq_true rfl)
  rw [lg_entry_eq]
  generalize (lg_sl ([.ref a0, .int 0]) ++ List.replicate (5 - (lg_sl ([.ref a0, .int 0])).length) Slot.unset).toArray = ls at hl ⊢
  have hl : lv_has ls 5 [(0, .ref a0), (1, .int 0)] := hl
  have hP : va_P D vwCl [(a0, .inr (8, [.ref a1, .int 0, .int 0, .int (-1)])), (a1, .inr (6, [.ref a4, .int 0, .ref a2, .ref a3, .ref a5, .ref a6, .int 1, .ref a7])), (a2, .inl (cy 0, 41, .inl (upd (fun _ => 0) 0 0))), (a3, .inl (cy 0, 41, .inl (upd (fun _ => 0) 0 0)))] s.heap := hP
  refine lv_aload_n hx hb dX6_chain_0 rfl (lv_at hl 0 rfl) ?_
  refine lv_iload_n hx hb dX6_chain_1 rfl (lv_at hl 1 rfl) ?_
  have hPc := hP.sub (ws' := [(a0, .inr (8, [.ref a1, .int 0, .int 0, .int (-1)])), (a1, .inr (6, [.ref a4, .int 0, .ref a2, .ref a3, .ref a5, .ref a6, .int 1, .ref a7])), (a2, .inl (cy 0, 41, .inl (upd (fun _ => 0) 0 0))), (a3, .inl (cy 0, 41, .inl (upd (fun _ => 0) 0 0)))]) [0, 1, 2, 3] rfl
  have hDc := hD.sub (ws' := [(a0, .inr (8, [.ref a1, .int 0, .int 0, .int (-1)])), (a1, .inr (6, [.ref a4, .int 0, .ref a2, .ref a3, .ref a5, .ref a6, .int 1, .ref a7])), (a2, .inl (cy 0, 41, .inl (upd (fun _ => 0) 0 0))), (a3, .inl (cy 0, 41, .inl (upd (fun _ => 0) 0 0)))]) [0, 1, 2, 3] (by decide) rfl
  have hFc := va_free (wc := [(a0, .inr (8, [.ref a1, .int 0, .int 0, .int (-1)])), (a1, .inr (6, [.ref a4, .int 0, .ref a2, .ref a3, .ref a5, .ref a6, .int 1, .ref a7])), (a2, .inl (cy 0, 41, .inl (upd (fun _ => 0) 0 0))), (a3, .inl (cy 0, 41, .inl (upd (fun _ => 0) 0 0)))]) hD hS hA [0, 1, 2, 3] rfl
  refine va_callq (va_runV (As := [.int 0]) (rest := []) ⟨hx, hb, hml, hown, hts⟩ (C_X6_first_1 l D cy sz0 sa a0 a1 a2 a3 a4 a5 a6 a7 s.heap.size) (cwV 1 hts gX6_chain_X6_first rfl rfl rfl (by decide +kernel) ⟨Nat.le_of_ble_eq_true rfl, Nat.le_of_ble_eq_true rfl⟩) ⟨PcW.blind, va_recv hK hPc (ci := 8) (q0 := 0) rfl rfl, PcW.mk hE hS hAF hPc hDc⟩ rfl rfl hl.1 rfl (lv_room (Nat.le_of_ble_eq_true rfl)) dX6_chain_2 ⟨Nat.le_of_ble_eq_true rfl, Nat.le_of_ble_eq_true rfl⟩) hS (fun q _ h => hFc q h) hFc (fun r_1 u t H1 locs ht hvm hw hB hz1 hk1 hS => ?_)
  obtain ⟨hP1, hD1⟩ := hB
  rw [ht] at hP1
  have hP1 : va_P D vwCl [(a0, .inr (8, [.ref a1, .int 0, .int 2, .int 0])), (a1, .inr (6, [.ref a4, .int 0, .ref a2, .ref a3, .ref a5, .ref a6, .int 1, .ref a7])), (a2, .inl (cy 0, 41, .inl (upd (fun _ => 0) 0 0))), (a3, .inl (cy 0, 41, .inl (upd (fun _ => 0) 0 0)))] H1 := hP1
  obtain ⟨hP, hD⟩ := va_join (wr := []) (w1 := [(a0, .inr (8, [.ref a1, .int 0, .int 2, .int 0])), (a1, .inr (6, [.ref a4, .int 0, .ref a2, .ref a3, .ref a5, .ref a6, .int 1, .ref a7])), (a2, .inl (cy 0, 41, .inl (upd (fun _ => 0) 0 0))), (a3, .inl (cy 0, 41, .inl (upd (fun _ => 0) 0 0)))]) hP hD [0, 1, 2, 3] [] rfl rfl (by decide) (by decide) hk1 hFc hP1 hD1
  clear hP1 hD1 hPc hDc hFc hk1 hz1
  generalize H1 = H at hP hS ⊢
  have hP : va_P D vwCl [(a0, .inr (8, [.ref a1, .int 0, .int 2, .int 0])), (a1, .inr (6, [.ref a4, .int 0, .ref a2, .ref a3, .ref a5, .ref a6, .int 1, .ref a7])), (a2, .inl (cy 0, 41, .inl (upd (fun _ => 0) 0 0))), (a3, .inl (cy 0, 41, .inl (upd (fun _ => 0) 0 0)))] H := hP
  have hD : va_D A [(a0, .inr (8, [.ref a1, .int 0, .int 2, .int 0])), (a1, .inr (6, [.ref a4, .int 0, .ref a2, .ref a3, .ref a5, .ref a6, .int 1, .ref a7])), (a2, .inl (cy 0, 41, .inl (upd (fun _ => 0) 0 0))), (a3, .inl (cy 0, 41, .inl (upd (fun _ => 0) 0 0)))] := hD
  refine W.widen (k := 0) (n := 0) (Nat.le_of_ble_eq_true rfl) (Nat.le_of_ble_eq_true rfl) ?_
  obtain rfl : r_1 = none := hw
  refine W.eq (g2 := F0 m 5 ls [.null]) rfl ?_
  refine lv_astore_nN (lv' := [(2, .null), (0, .ref a0), (1, .int 0)]) hx hb dX6_chain_5 rfl hl (by decide) rfl (fun ls hl => ?_)
  refine lv_iconst (v := 0) hx hb dX6_chain_6 (by decide +kernel) ?_
  refine lv_istore_n (lv' := [(3, .int 0), (2, .null), (0, .ref a0), (1, .int 0)]) hx hb dX6_chain_7 rfl hl (by decide) rfl (fun ls hl => ?_)
  refine lv_iload_n hx hb dX6_chain_8 rfl (lv_at hl 0 rfl) ?_
  refine lv_bipush (v := 40) hx hb dX6_chain_9 (by decide +kernel) ?_
  refine lv_icmp_ge (tgt := 83) hx hb dX6_chain_11 (by decide) (fun c2 => absurd c2 (by decide +kernel)) (fun _ => ?_)
  refine lv_aload_nN hx hb dX6_chain_14 rfl (lv_at hl 1 rfl) ?_
  refine lv_ifnullN (tgt := 83) hx hb dX6_chain_15 (by decide) ?_
  refine lv_aload_nN hx hb dX6_chain_83 rfl (lv_at hl 1 rfl) ?_
  refine W.widen (k := 0) (n := 0) (Nat.le_of_ble_eq_true rfl) (Nat.le_of_ble_eq_true rfl) ?_
  have hP9 := hP.sub (ws' := [(a0, .inr (8, [.ref a1, .int 0, .int 2, .int 0])), (a1, .inr (6, [.ref a4, .int 0, .ref a2, .ref a3, .ref a5, .ref a6, .int 1, .ref a7])), (a2, .inl (cy 0, 41, .inl (upd (fun _ => 0) 0 0))), (a3, .inl (cy 0, 41, .inl (upd (fun _ => 0) 0 0)))]) [0, 1, 2, 3] rfl
  have hD9 := hD.sub (ws' := [(a0, .inr (8, [.ref a1, .int 0, .int 2, .int 0])), (a1, .inr (6, [.ref a4, .int 0, .ref a2, .ref a3, .ref a5, .ref a6, .int 1, .ref a7])), (a2, .inl (cy 0, 41, .inl (upd (fun _ => 0) 0 0))), (a3, .inl (cy 0, 41, .inl (upd (fun _ => 0) 0 0)))]) [0, 1, 2, 3] (by decide) rfl
  exact W.aret (v := .null) hx hb hr (Or.inl ⟨_, rfl⟩) (Or.inl rfl) (fun t ht hW => ⟨⟨none, (), rfl, rfl, ⟨by rw [ht]; exact hP9, hD9⟩⟩, hS.F ht⟩) hS.2.2 dX6_chain_84

set_option maxHeartbeats 1000000 in
set_option maxRecDepth 100000 in
theorem C_X6_sign_1 (l : Launch) (D : va_G) (cy : Nat → ClassId) (sz0 : Nat) (sa : Nat → Nat) (a0 a1 a2 a3 a4 a5 a6 a7 : Nat) (sz : Nat)  : Met l yX6_sign wsX6_sign ({ frames := 5, cells := 0, slots := 0, locals := 107 }) (PcW D cy sz0 sa [.ref a0, .int 0] [(a0, .inr (8, [.ref a1, .int 0, .int 0, .int (-1)])), (a1, .inr (6, [.ref a4, .int 0, .ref a2, .ref a3, .ref a5, .ref a6, .int 1, .ref a7])), (a2, .inl (cy 0, 41, .inl (upd (fun _ => 0) 0 0))), (a3, .inl (cy 0, 41, .inl (upd (fun _ => 0) 0 0)))] sz) (va_Qq (fun (r : Option Nat) (u : Unit) => r = none) (fun (u : Unit) (t : State) => BW D [(a0, .inr (8, [.ref a1, .int 0, .int 2, .int 0])), (a1, .inr (6, [.ref a4, .int 0, .ref a2, .ref a3, .ref a5, .ref a6, .int 1, .ref a7])), (a2, .inl (cy 0, 41, .inl (upd (fun _ => 0) 0 0))), (a3, .inl (cy 0, 41, .inl (upd (fun _ => 0) 0 0)))] (va_A [(a0, .inr (8, [.ref a1, .int 0, .int 0, .int (-1)])), (a1, .inr (6, [.ref a4, .int 0, .ref a2, .ref a3, .ref a5, .ref a6, .int 1, .ref a7])), (a2, .inl (cy 0, 41, .inl (upd (fun _ => 0) 0 0))), (a3, .inl (cy 0, 41, .inl (upd (fun _ => 0) 0 0)))] sz) t) (va_A [(a0, .inr (8, [.ref a1, .int 0, .int 0, .int (-1)])), (a1, .inr (6, [.ref a4, .int 0, .ref a2, .ref a3, .ref a5, .ref a6, .int 1, .ref a7])), (a2, .inl (cy 0, 41, .inl (upd (fun _ => 0) 0 0))), (a3, .inl (cy 0, 41, .inl (upd (fun _ => 0) 0 0)))] sz)) 0 0 (va_A [(a0, .inr (8, [.ref a1, .int 0, .int 0, .int (-1)])), (a1, .inr (6, [.ref a4, .int 0, .ref a2, .ref a3, .ref a5, .ref a6, .int 1, .ref a7])), (a2, .inl (cy 0, 41, .inl (upd (fun _ => 0) 0 0))), (a3, .inl (cy 0, 41, .inl (upd (fun _ => 0) 0 0)))] sz) := by
  refine Met.ofW (cc := cX6_sign) (maxL := 4) (ret := (some (.object "PhraseDesk$Node"))) (by decide) rfl ?_
  intro p e s m args below meth c s₁ B hml hv
  obtain ⟨rfl, hsz, hP, hD0, hE⟩ := hv
  have hx := B.exec
  have hb := B.bytes
  have hr := B.returns
  have hts := atoms_spec (ws := wsX6_sign) B.pre
  have hown : s.vm.findClass RX6 = some m.cls := findClass_of_methodNamed B.named
  have hlocks := B.notSynchronized
  subst hsz
  have hK := hE.1
  have hAm := hE.2.2.1
  have hWm := hE.2.2.2
  have hAO := hWm.2.2.2.1
  have hD := hD0.self (sz := s.heap.size)
  have hAF := frA hD0 hE.2.1
  generalize hAe : va_A [(a0, .inr (8, [.ref a1, .int 0, .int 0, .int (-1)])), (a1, .inr (6, [.ref a4, .int 0, .ref a2, .ref a3, .ref a5, .ref a6, .int 1, .ref a7])), (a2, .inl (cy 0, 41, .inl (upd (fun _ => 0) 0 0))), (a3, .inl (cy 0, 41, .inl (upd (fun _ => 0) 0 0)))] s.heap.size = A at hD hAF ⊢
  have hA : ∀ q : Nat, s.heap.size ≤ q → A q := fun q h => by rw [← hAe]; exact Or.inr h
  have hS : va_S A s.heap s.heap [] := va_S.rf
  have hl := lv_entry ([.ref a0, .int 0]) (n := 4) (Nat.le_of_ble_eq_true rfl)
  rw [lg_entry_eq]
  generalize (lg_sl ([.ref a0, .int 0]) ++ List.replicate (4 - (lg_sl ([.ref a0, .int 0])).length) Slot.unset).toArray = ls at hl ⊢
  have hl : lv_has ls 4 [(0, .ref a0), (1, .int 0)] := hl
  have hP : va_P D vwCl [(a0, .inr (8, [.ref a1, .int 0, .int 0, .int (-1)])), (a1, .inr (6, [.ref a4, .int 0, .ref a2, .ref a3, .ref a5, .ref a6, .int 1, .ref a7])), (a2, .inl (cy 0, 41, .inl (upd (fun _ => 0) 0 0))), (a3, .inl (cy 0, 41, .inl (upd (fun _ => 0) 0 0)))] s.heap := hP
  refine lv_aload_n hx hb dX6_sign_0 rfl (lv_at hl 0 rfl) ?_
  refine lv_bipush (v := 45) hx hb dX6_sign_1 (by decide +kernel) ?_
  have hPc := hP.sub (ws' := [(a0, .inr (8, [.ref a1, .int 0, .int 0, .int (-1)])), (a1, .inr (6, [.ref a4, .int 0, .ref a2, .ref a3, .ref a5, .ref a6, .int 1, .ref a7])), (a2, .inl (cy 0, 41, .inl (upd (fun _ => 0) 0 0)))]) [0, 1, 2] rfl
  have hDc := hD.sub (ws' := [(a0, .inr (8, [.ref a1, .int 0, .int 0, .int (-1)])), (a1, .inr (6, [.ref a4, .int 0, .ref a2, .ref a3, .ref a5, .ref a6, .int 1, .ref a7])), (a2, .inl (cy 0, 41, .inl (upd (fun _ => 0) 0 0)))]) [0, 1, 2] (by decide) rfl
  have hFc := va_free (wc := [(a0, .inr (8, [.ref a1, .int 0, .int 0, .int (-1)])), (a1, .inr (6, [.ref a4, .int 0, .ref a2, .ref a3, .ref a5, .ref a6, .int 1, .ref a7])), (a2, .inl (cy 0, 41, .inl (upd (fun _ => 0) 0 0)))]) hD hS hA [0, 1, 2] rfl
  refine va_calli (va_runV (As := [.int 45]) (rest := []) ⟨hx, hb, hml, hown, hts⟩ (C_X6_takes_1 l D cy sz0 sa a0 a1 a2 a4 a3 a5 a6 a7 s.heap.size) (cwV 1 hts gX6_sign_X6_takes rfl rfl rfl (by decide +kernel) ⟨Nat.le_of_ble_eq_true rfl, Nat.le_of_ble_eq_true rfl⟩) ⟨PcW.blind, va_recv hK hPc (ci := 8) (q0 := 0) rfl rfl, PcW.mk hE hS hAF hPc hDc⟩ rfl rfl hl.1 rfl (lv_room (Nat.le_of_ble_eq_true rfl)) dX6_sign_3 ⟨Nat.le_of_ble_eq_true rfl, Nat.le_of_ble_eq_true rfl⟩) hS (fun q _ h => hFc q h) hFc (fun r_1 u t H1 locs ht hvm hw hB hz1 hk1 hS => ?_)
  obtain ⟨hP1, hD1⟩ := hB
  rw [ht] at hP1
  have hP1 : va_P D vwCl [(a0, .inr (8, [.ref a1, .int 0, .int 0, .int (-1)])), (a1, .inr (6, [.ref a4, .int 0, .ref a2, .ref a3, .ref a5, .ref a6, .int 1, .ref a7])), (a2, .inl (cy 0, 41, .inl (upd (fun _ => 0) 0 0)))] H1 := hP1
  obtain ⟨hP, hD⟩ := va_join (wr := [(a3, .inl (cy 0, 41, .inl (upd (fun _ => 0) 0 0)))]) (w1 := [(a0, .inr (8, [.ref a1, .int 0, .int 0, .int (-1)])), (a1, .inr (6, [.ref a4, .int 0, .ref a2, .ref a3, .ref a5, .ref a6, .int 1, .ref a7])), (a2, .inl (cy 0, 41, .inl (upd (fun _ => 0) 0 0)))]) hP hD [0, 1, 2] [3] rfl rfl (by decide) (by decide) hk1 hFc hP1 hD1
  clear hP1 hD1 hPc hDc hFc hk1 hz1
  generalize H1 = H at hP hS ⊢
  have hP : va_P D vwCl [(a3, .inl (cy 0, 41, .inl (upd (fun _ => 0) 0 0))), (a0, .inr (8, [.ref a1, .int 0, .int 0, .int (-1)])), (a1, .inr (6, [.ref a4, .int 0, .ref a2, .ref a3, .ref a5, .ref a6, .int 1, .ref a7])), (a2, .inl (cy 0, 41, .inl (upd (fun _ => 0) 0 0)))] H := hP
  have hD : va_D A [(a3, .inl (cy 0, 41, .inl (upd (fun _ => 0) 0 0))), (a0, .inr (8, [.ref a1, .int 0, .int 0, .int (-1)])), (a1, .inr (6, [.ref a4, .int 0, .ref a2, .ref a3, .ref a5, .ref a6, .int 1, .ref a7])), (a2, .inl (cy 0, 41, .inl (upd (fun _ => 0) 0 0)))] := hD
  refine W.widen (k := 0) (n := 0) (Nat.le_of_ble_eq_true rfl) (Nat.le_of_ble_eq_true rfl) ?_
  obtain rfl : r_1 = 0 := hw
  refine lv_if_eq (tgt := 14) hx hb dX6_sign_6 (by decide) (fun _ => ?_) (fun c2 => absurd (by decide +kernel) c2)
  refine lv_aload_n hx hb dX6_sign_14 rfl (lv_at hl 0 rfl) ?_
  refine lv_bipush (v := 33) hx hb dX6_sign_15 (by decide +kernel) ?_
  have hPc := hP.sub (ws' := [(a0, .inr (8, [.ref a1, .int 0, .int 0, .int (-1)])), (a1, .inr (6, [.ref a4, .int 0, .ref a2, .ref a3, .ref a5, .ref a6, .int 1, .ref a7])), (a2, .inl (cy 0, 41, .inl (upd (fun _ => 0) 0 0)))]) [1, 2, 3] rfl
  have hDc := hD.sub (ws' := [(a0, .inr (8, [.ref a1, .int 0, .int 0, .int (-1)])), (a1, .inr (6, [.ref a4, .int 0, .ref a2, .ref a3, .ref a5, .ref a6, .int 1, .ref a7])), (a2, .inl (cy 0, 41, .inl (upd (fun _ => 0) 0 0)))]) [1, 2, 3] (by decide) rfl
  have hFc := va_free (wc := [(a0, .inr (8, [.ref a1, .int 0, .int 0, .int (-1)])), (a1, .inr (6, [.ref a4, .int 0, .ref a2, .ref a3, .ref a5, .ref a6, .int 1, .ref a7])), (a2, .inl (cy 0, 41, .inl (upd (fun _ => 0) 0 0)))]) hD hS hA [1, 2, 3] rfl
  refine va_calli (va_runV (As := [.int 33]) (rest := []) ⟨hx, hb, hml, hown, hts⟩ (C_X6_takes_2 l D cy sz0 sa a0 a1 a2 a4 a3 a5 a6 a7 H.size) (cwV 1 hts gX6_sign_X6_takes rfl rfl rfl (by decide +kernel) ⟨Nat.le_of_ble_eq_true rfl, Nat.le_of_ble_eq_true rfl⟩) ⟨PcW.blind, va_recv hK hPc (ci := 8) (q0 := 0) rfl rfl, PcW.mk hE hS hAF hPc hDc⟩ rfl rfl hl.1 rfl (lv_room (Nat.le_of_ble_eq_true rfl)) dX6_sign_17 ⟨Nat.le_of_ble_eq_true rfl, Nat.le_of_ble_eq_true rfl⟩) hS (fun q _ h => hFc q h) hFc (fun r_3 u t H1 locs ht hvm hw hB hz1 hk1 hS => ?_)
  obtain ⟨hP1, hD1⟩ := hB
  rw [ht] at hP1
  have hP1 : va_P D vwCl [(a0, .inr (8, [.ref a1, .int 0, .int 0, .int (-1)])), (a1, .inr (6, [.ref a4, .int 0, .ref a2, .ref a3, .ref a5, .ref a6, .int 1, .ref a7])), (a2, .inl (cy 0, 41, .inl (upd (fun _ => 0) 0 0)))] H1 := hP1
  obtain ⟨hP, hD⟩ := va_join (wr := [(a3, .inl (cy 0, 41, .inl (upd (fun _ => 0) 0 0)))]) (w1 := [(a0, .inr (8, [.ref a1, .int 0, .int 0, .int (-1)])), (a1, .inr (6, [.ref a4, .int 0, .ref a2, .ref a3, .ref a5, .ref a6, .int 1, .ref a7])), (a2, .inl (cy 0, 41, .inl (upd (fun _ => 0) 0 0)))]) hP hD [1, 2, 3] [0] rfl rfl (by decide) (by decide) hk1 hFc hP1 hD1
  clear hP1 hD1 hPc hDc hFc hk1 hz1
  generalize H1 = H at hP hS ⊢
  have hP : va_P D vwCl [(a3, .inl (cy 0, 41, .inl (upd (fun _ => 0) 0 0))), (a0, .inr (8, [.ref a1, .int 0, .int 0, .int (-1)])), (a1, .inr (6, [.ref a4, .int 0, .ref a2, .ref a3, .ref a5, .ref a6, .int 1, .ref a7])), (a2, .inl (cy 0, 41, .inl (upd (fun _ => 0) 0 0)))] H := hP
  have hD : va_D A [(a3, .inl (cy 0, 41, .inl (upd (fun _ => 0) 0 0))), (a0, .inr (8, [.ref a1, .int 0, .int 0, .int (-1)])), (a1, .inr (6, [.ref a4, .int 0, .ref a2, .ref a3, .ref a5, .ref a6, .int 1, .ref a7])), (a2, .inl (cy 0, 41, .inl (upd (fun _ => 0) 0 0)))] := hD
  refine W.widen (k := 0) (n := 0) (Nat.le_of_ble_eq_true rfl) (Nat.le_of_ble_eq_true rfl) ?_
  obtain rfl : r_3 = 0 := hw
  refine lv_if_eq (tgt := 28) hx hb dX6_sign_20 (by decide) (fun _ => ?_) (fun c4 => absurd (by decide +kernel) c4)
  refine lv_iconst (v := (-1)) hx hb dX6_sign_28 (by decide +kernel) ?_
  refine lv_istore_n (lv' := [(2, .int (-1)), (0, .ref a0), (1, .int 0)]) hx hb dX6_sign_29 rfl hl (by decide) rfl (fun ls hl => ?_)
  refine lv_aload_n hx hb dX6_sign_30 rfl (lv_at hl 1 rfl) ?_
  refine lv_iload_n hx hb dX6_sign_31 rfl (lv_at hl 2 rfl) ?_
  have hPc := hP.sub (ws' := [(a0, .inr (8, [.ref a1, .int 0, .int 0, .int (-1)])), (a1, .inr (6, [.ref a4, .int 0, .ref a2, .ref a3, .ref a5, .ref a6, .int 1, .ref a7])), (a2, .inl (cy 0, 41, .inl (upd (fun _ => 0) 0 0))), (a3, .inl (cy 0, 41, .inl (upd (fun _ => 0) 0 0)))]) [1, 2, 3, 0] rfl
  have hDc := hD.sub (ws' := [(a0, .inr (8, [.ref a1, .int 0, .int 0, .int (-1)])), (a1, .inr (6, [.ref a4, .int 0, .ref a2, .ref a3, .ref a5, .ref a6, .int 1, .ref a7])), (a2, .inl (cy 0, 41, .inl (upd (fun _ => 0) 0 0))), (a3, .inl (cy 0, 41, .inl (upd (fun _ => 0) 0 0)))]) [1, 2, 3, 0] (by decide) rfl
  have hFc := va_free (wc := [(a0, .inr (8, [.ref a1, .int 0, .int 0, .int (-1)])), (a1, .inr (6, [.ref a4, .int 0, .ref a2, .ref a3, .ref a5, .ref a6, .int 1, .ref a7])), (a2, .inl (cy 0, 41, .inl (upd (fun _ => 0) 0 0))), (a3, .inl (cy 0, 41, .inl (upd (fun _ => 0) 0 0)))]) hD hS hA [1, 2, 3, 0] rfl
  refine va_callq (va_runV (As := [.int 0]) (rest := []) ⟨hx, hb, hml, hown, hts⟩ (C_X6_chain_1 l D cy sz0 sa a0 a1 a2 a3 a4 a5 a6 a7 H.size) (cwV 1 hts gX6_sign_X6_chain rfl rfl rfl (by decide +kernel) ⟨Nat.le_of_ble_eq_true rfl, Nat.le_of_ble_eq_true rfl⟩) ⟨PcW.blind, va_recv hK hPc (ci := 8) (q0 := 0) rfl rfl, PcW.mk hE hS hAF hPc hDc⟩ rfl rfl hl.1 rfl (lv_room (Nat.le_of_ble_eq_true rfl)) dX6_sign_32 ⟨Nat.le_of_ble_eq_true rfl, Nat.le_of_ble_eq_true rfl⟩) hS (fun q _ h => hFc q h) hFc (fun r_5 u t H1 locs ht hvm hw hB hz1 hk1 hS => ?_)
  obtain ⟨hP1, hD1⟩ := hB
  rw [ht] at hP1
  have hP1 : va_P D vwCl [(a0, .inr (8, [.ref a1, .int 0, .int 2, .int 0])), (a1, .inr (6, [.ref a4, .int 0, .ref a2, .ref a3, .ref a5, .ref a6, .int 1, .ref a7])), (a2, .inl (cy 0, 41, .inl (upd (fun _ => 0) 0 0))), (a3, .inl (cy 0, 41, .inl (upd (fun _ => 0) 0 0)))] H1 := hP1
  obtain ⟨hP, hD⟩ := va_join (wr := []) (w1 := [(a0, .inr (8, [.ref a1, .int 0, .int 2, .int 0])), (a1, .inr (6, [.ref a4, .int 0, .ref a2, .ref a3, .ref a5, .ref a6, .int 1, .ref a7])), (a2, .inl (cy 0, 41, .inl (upd (fun _ => 0) 0 0))), (a3, .inl (cy 0, 41, .inl (upd (fun _ => 0) 0 0)))]) hP hD [1, 2, 3, 0] [] rfl rfl (by decide) (by decide) hk1 hFc hP1 hD1
  clear hP1 hD1 hPc hDc hFc hk1 hz1
  generalize H1 = H at hP hS ⊢
  have hP : va_P D vwCl [(a0, .inr (8, [.ref a1, .int 0, .int 2, .int 0])), (a1, .inr (6, [.ref a4, .int 0, .ref a2, .ref a3, .ref a5, .ref a6, .int 1, .ref a7])), (a2, .inl (cy 0, 41, .inl (upd (fun _ => 0) 0 0))), (a3, .inl (cy 0, 41, .inl (upd (fun _ => 0) 0 0)))] H := hP
  have hD : va_D A [(a0, .inr (8, [.ref a1, .int 0, .int 2, .int 0])), (a1, .inr (6, [.ref a4, .int 0, .ref a2, .ref a3, .ref a5, .ref a6, .int 1, .ref a7])), (a2, .inl (cy 0, 41, .inl (upd (fun _ => 0) 0 0))), (a3, .inl (cy 0, 41, .inl (upd (fun _ => 0) 0 0)))] := hD
  refine W.widen (k := 0) (n := 0) (Nat.le_of_ble_eq_true rfl) (Nat.le_of_ble_eq_true rfl) ?_
  obtain rfl : r_5 = none := hw
  refine W.eq (g2 := F0 m 35 ls [.null]) rfl ?_
  refine lv_astore_nN (lv' := [(3, .null), (2, .int (-1)), (0, .ref a0), (1, .int 0)]) hx hb dX6_sign_35 rfl hl (by decide) rfl (fun ls hl => ?_)
  refine lv_aload_nN hx hb dX6_sign_36 rfl (lv_at hl 0 rfl) ?_
  refine lv_ifnullN (tgt := 45) hx hb dX6_sign_37 (by decide) ?_
  refine lv_aload_nN hx hb dX6_sign_45 rfl (lv_at hl 0 rfl) ?_
  refine lv_goto (tgt := 56) hx hb dX6_sign_46 (by decide) ?_
  refine W.widen (k := 0) (n := 0) (Nat.le_of_ble_eq_true rfl) (Nat.le_of_ble_eq_true rfl) ?_
  have hP9 := hP.sub (ws' := [(a0, .inr (8, [.ref a1, .int 0, .int 2, .int 0])), (a1, .inr (6, [.ref a4, .int 0, .ref a2, .ref a3, .ref a5, .ref a6, .int 1, .ref a7])), (a2, .inl (cy 0, 41, .inl (upd (fun _ => 0) 0 0))), (a3, .inl (cy 0, 41, .inl (upd (fun _ => 0) 0 0)))]) [0, 1, 2, 3] rfl
  have hD9 := hD.sub (ws' := [(a0, .inr (8, [.ref a1, .int 0, .int 2, .int 0])), (a1, .inr (6, [.ref a4, .int 0, .ref a2, .ref a3, .ref a5, .ref a6, .int 1, .ref a7])), (a2, .inl (cy 0, 41, .inl (upd (fun _ => 0) 0 0))), (a3, .inl (cy 0, 41, .inl (upd (fun _ => 0) 0 0)))]) [0, 1, 2, 3] (by decide) rfl
  exact W.aret (v := .null) hx hb hr (Or.inl ⟨_, rfl⟩) (Or.inl rfl) (fun t ht hW => ⟨⟨none, (), rfl, rfl, ⟨by rw [ht]; exact hP9, hD9⟩⟩, hS.F ht⟩) hS.2.2 dX6_sign_56

set_option maxHeartbeats 1000000 in
set_option maxRecDepth 100000 in
theorem C_X6_level_1 (l : Launch) (D : va_G) (cy : Nat → ClassId) (sz0 : Nat) (sa : Nat → Nat) (a0 a1 a2 a3 a4 a5 a6 a7 : Nat) (sz : Nat)  : Met l yX6_level wsX6_level ({ frames := 6, cells := 0, slots := 0, locals := 130 }) (PcW D cy sz0 sa [.ref a0, .int 5, .int 0] [(a0, .inr (8, [.ref a1, .int 0, .int 0, .int (-1)])), (a1, .inr (6, [.ref a4, .int 0, .ref a2, .ref a3, .ref a5, .ref a6, .int 1, .ref a7])), (a2, .inl (cy 0, 41, .inl (upd (fun _ => 0) 0 0))), (a3, .inl (cy 0, 41, .inl (upd (fun _ => 0) 0 0)))] sz) (va_Qq (fun (r : Option Nat) (u : Unit) => r = none) (fun (u : Unit) (t : State) => BW D [(a0, .inr (8, [.ref a1, .int 0, .int 2, .int 0])), (a1, .inr (6, [.ref a4, .int 0, .ref a2, .ref a3, .ref a5, .ref a6, .int 1, .ref a7])), (a2, .inl (cy 0, 41, .inl (upd (fun _ => 0) 0 0))), (a3, .inl (cy 0, 41, .inl (upd (fun _ => 0) 0 0)))] (va_A [(a0, .inr (8, [.ref a1, .int 0, .int 0, .int (-1)])), (a1, .inr (6, [.ref a4, .int 0, .ref a2, .ref a3, .ref a5, .ref a6, .int 1, .ref a7])), (a2, .inl (cy 0, 41, .inl (upd (fun _ => 0) 0 0))), (a3, .inl (cy 0, 41, .inl (upd (fun _ => 0) 0 0)))] sz) t) (va_A [(a0, .inr (8, [.ref a1, .int 0, .int 0, .int (-1)])), (a1, .inr (6, [.ref a4, .int 0, .ref a2, .ref a3, .ref a5, .ref a6, .int 1, .ref a7])), (a2, .inl (cy 0, 41, .inl (upd (fun _ => 0) 0 0))), (a3, .inl (cy 0, 41, .inl (upd (fun _ => 0) 0 0)))] sz)) 0 0 (va_A [(a0, .inr (8, [.ref a1, .int 0, .int 0, .int (-1)])), (a1, .inr (6, [.ref a4, .int 0, .ref a2, .ref a3, .ref a5, .ref a6, .int 1, .ref a7])), (a2, .inl (cy 0, 41, .inl (upd (fun _ => 0) 0 0))), (a3, .inl (cy 0, 41, .inl (upd (fun _ => 0) 0 0)))] sz) := by
  refine Met.ofW (cc := cX6_level) (maxL := 7) (ret := (some (.object "PhraseDesk$Node"))) (by decide) rfl ?_
  intro p e s m args below meth c s₁ B hml hv
  obtain ⟨rfl, hsz, hP, hD0, hE⟩ := hv
  have hx := B.exec
  have hb := B.bytes
  have hr := B.returns
  have hts := atoms_spec (ws := wsX6_level) B.pre
  have hown : s.vm.findClass RX6 = some m.cls := findClass_of_methodNamed B.named
  have hlocks := B.notSynchronized
  subst hsz
  have hK := hE.1
  have hAm := hE.2.2.1
  have hWm := hE.2.2.2
  have hAO := hWm.2.2.2.1
  have hD := hD0.self (sz := s.heap.size)
  have hAF := frA hD0 hE.2.1
  generalize hAe : va_A [(a0, .inr (8, [.ref a1, .int 0, .int 0, .int (-1)])), (a1, .inr (6, [.ref a4, .int 0, .ref a2, .ref a3, .ref a5, .ref a6, .int 1, .ref a7])), (a2, .inl (cy 0, 41, .inl (upd (fun _ => 0) 0 0))), (a3, .inl (cy 0, 41, .inl (upd (fun _ => 0) 0 0)))] s.heap.size = A at hD hAF ⊢
  have hA : ∀ q : Nat, s.heap.size ≤ q → A q := fun q h => by rw [← hAe]; exact Or.inr h
  have hS : va_S A s.heap s.heap [] := va_S.rf
  have hl := lv_entry ([.ref a0, .int 5, .int 0]) (n := 7) (Nat.le_of_ble_eq_true rfl)
  rw [lg_entry_eq]
  generalize (lg_sl ([.ref a0, .int 5, .int 0]) ++ List.replicate (7 - (lg_sl ([.ref a0, .int 5, .int 0])).length) Slot.unset).toArray = ls at hl ⊢
  have hl : lv_has ls 7 [(0, .ref a0), (1, .int 5), (2, .int 0)] := hl
  have hP : va_P D vwCl [(a0, .inr (8, [.ref a1, .int 0, .int 0, .int (-1)])), (a1, .inr (6, [.ref a4, .int 0, .ref a2, .ref a3, .ref a5, .ref a6, .int 1, .ref a7])), (a2, .inl (cy 0, 41, .inl (upd (fun _ => 0) 0 0))), (a3, .inl (cy 0, 41, .inl (upd (fun _ => 0) 0 0)))] s.heap := hP
  refine lv_iload_n hx hb dX6_level_0 rfl (lv_at hl 1 rfl) ?_
  refine lv_iconst (v := 4) hx hb dX6_level_1 (by decide +kernel) ?_
  refine lv_icmp_le (tgt := 11) hx hb dX6_level_2 (by decide) (fun c1 => absurd c1 (by decide +kernel)) (fun _ => ?_)
  refine lv_aload_n hx hb dX6_level_5 rfl (lv_at hl 0 rfl) ?_
  refine lv_iload_n hx hb dX6_level_6 rfl (lv_at hl 2 rfl) ?_
  have hPc := hP.sub (ws' := [(a0, .inr (8, [.ref a1, .int 0, .int 0, .int (-1)])), (a1, .inr (6, [.ref a4, .int 0, .ref a2, .ref a3, .ref a5, .ref a6, .int 1, .ref a7])), (a2, .inl (cy 0, 41, .inl (upd (fun _ => 0) 0 0))), (a3, .inl (cy 0, 41, .inl (upd (fun _ => 0) 0 0)))]) [0, 1, 2, 3] rfl
  have hDc := hD.sub (ws' := [(a0, .inr (8, [.ref a1, .int 0, .int 0, .int (-1)])), (a1, .inr (6, [.ref a4, .int 0, .ref a2, .ref a3, .ref a5, .ref a6, .int 1, .ref a7])), (a2, .inl (cy 0, 41, .inl (upd (fun _ => 0) 0 0))), (a3, .inl (cy 0, 41, .inl (upd (fun _ => 0) 0 0)))]) [0, 1, 2, 3] (by decide) rfl
  have hFc := va_free (wc := [(a0, .inr (8, [.ref a1, .int 0, .int 0, .int (-1)])), (a1, .inr (6, [.ref a4, .int 0, .ref a2, .ref a3, .ref a5, .ref a6, .int 1, .ref a7])), (a2, .inl (cy 0, 41, .inl (upd (fun _ => 0) 0 0))), (a3, .inl (cy 0, 41, .inl (upd (fun _ => 0) 0 0)))]) hD hS hA [0, 1, 2, 3] rfl
  refine va_callq (va_runV (As := [.int 0]) (rest := []) ⟨hx, hb, hml, hown, hts⟩ (C_X6_sign_1 l D cy sz0 sa a0 a1 a2 a3 a4 a5 a6 a7 s.heap.size) (cwV 1 hts gX6_level_X6_sign rfl rfl rfl (by decide +kernel) ⟨Nat.le_of_ble_eq_true rfl, Nat.le_of_ble_eq_true rfl⟩) ⟨PcW.blind, va_recv hK hPc (ci := 8) (q0 := 0) rfl rfl, PcW.mk hE hS hAF hPc hDc⟩ rfl rfl hl.1 rfl (lv_room (Nat.le_of_ble_eq_true rfl)) dX6_level_7 ⟨Nat.le_of_ble_eq_true rfl, Nat.le_of_ble_eq_true rfl⟩) hS (fun q _ h => hFc q h) hFc (fun r_2 u t H1 locs ht hvm hw hB hz1 hk1 hS => ?_)
  obtain ⟨hP1, hD1⟩ := hB
  rw [ht] at hP1
  have hP1 : va_P D vwCl [(a0, .inr (8, [.ref a1, .int 0, .int 2, .int 0])), (a1, .inr (6, [.ref a4, .int 0, .ref a2, .ref a3, .ref a5, .ref a6, .int 1, .ref a7])), (a2, .inl (cy 0, 41, .inl (upd (fun _ => 0) 0 0))), (a3, .inl (cy 0, 41, .inl (upd (fun _ => 0) 0 0)))] H1 := hP1
  obtain ⟨hP, hD⟩ := va_join (wr := []) (w1 := [(a0, .inr (8, [.ref a1, .int 0, .int 2, .int 0])), (a1, .inr (6, [.ref a4, .int 0, .ref a2, .ref a3, .ref a5, .ref a6, .int 1, .ref a7])), (a2, .inl (cy 0, 41, .inl (upd (fun _ => 0) 0 0))), (a3, .inl (cy 0, 41, .inl (upd (fun _ => 0) 0 0)))]) hP hD [0, 1, 2, 3] [] rfl rfl (by decide) (by decide) hk1 hFc hP1 hD1
  clear hP1 hD1 hPc hDc hFc hk1 hz1
  generalize H1 = H at hP hS ⊢
  have hP : va_P D vwCl [(a0, .inr (8, [.ref a1, .int 0, .int 2, .int 0])), (a1, .inr (6, [.ref a4, .int 0, .ref a2, .ref a3, .ref a5, .ref a6, .int 1, .ref a7])), (a2, .inl (cy 0, 41, .inl (upd (fun _ => 0) 0 0))), (a3, .inl (cy 0, 41, .inl (upd (fun _ => 0) 0 0)))] H := hP
  have hD : va_D A [(a0, .inr (8, [.ref a1, .int 0, .int 2, .int 0])), (a1, .inr (6, [.ref a4, .int 0, .ref a2, .ref a3, .ref a5, .ref a6, .int 1, .ref a7])), (a2, .inl (cy 0, 41, .inl (upd (fun _ => 0) 0 0))), (a3, .inl (cy 0, 41, .inl (upd (fun _ => 0) 0 0)))] := hD
  refine W.widen (k := 0) (n := 0) (Nat.le_of_ble_eq_true rfl) (Nat.le_of_ble_eq_true rfl) ?_
  obtain rfl : r_2 = none := hw
  refine W.eq (g2 := F0 m 10 ls [.null]) rfl ?_
  refine W.widen (k := 0) (n := 0) (Nat.le_of_ble_eq_true rfl) (Nat.le_of_ble_eq_true rfl) ?_
  have hP9 := hP.sub (ws' := [(a0, .inr (8, [.ref a1, .int 0, .int 2, .int 0])), (a1, .inr (6, [.ref a4, .int 0, .ref a2, .ref a3, .ref a5, .ref a6, .int 1, .ref a7])), (a2, .inl (cy 0, 41, .inl (upd (fun _ => 0) 0 0))), (a3, .inl (cy 0, 41, .inl (upd (fun _ => 0) 0 0)))]) [0, 1, 2, 3] rfl
  have hD9 := hD.sub (ws' := [(a0, .inr (8, [.ref a1, .int 0, .int 2, .int 0])), (a1, .inr (6, [.ref a4, .int 0, .ref a2, .ref a3, .ref a5, .ref a6, .int 1, .ref a7])), (a2, .inl (cy 0, 41, .inl (upd (fun _ => 0) 0 0))), (a3, .inl (cy 0, 41, .inl (upd (fun _ => 0) 0 0)))]) [0, 1, 2, 3] (by decide) rfl
  exact W.aret (v := .null) hx hb hr (Or.inl ⟨_, rfl⟩) (Or.inl rfl) (fun t ht hW => ⟨⟨none, (), rfl, rfl, ⟨by rw [ht]; exact hP9, hD9⟩⟩, hS.F ht⟩) hS.2.2 dX6_level_10

set_option maxHeartbeats 1000000 in
set_option maxRecDepth 100000 in
theorem C_X6_level_2 (l : Launch) (D : va_G) (cy : Nat → ClassId) (sz0 : Nat) (sa : Nat → Nat) (a0 a1 a2 a3 a4 a5 a6 a7 : Nat) (sz : Nat)  : Met l yX6_level wsX6_level ({ frames := 7, cells := 0, slots := 0, locals := 156 }) (PcW D cy sz0 sa [.ref a0, .int 4, .int 0] [(a0, .inr (8, [.ref a1, .int 0, .int 0, .int (-1)])), (a1, .inr (6, [.ref a4, .int 0, .ref a2, .ref a3, .ref a5, .ref a6, .int 1, .ref a7])), (a2, .inl (cy 0, 41, .inl (upd (fun _ => 0) 0 0))), (a3, .inl (cy 0, 41, .inl (upd (fun _ => 0) 0 0)))] sz) (va_Qq (fun (r : Option Nat) (u : Unit) => r = none) (fun (u : Unit) (t : State) => BW D [(a0, .inr (8, [.ref a1, .int 0, .int 2, .int 0])), (a1, .inr (6, [.ref a4, .int 0, .ref a2, .ref a3, .ref a5, .ref a6, .int 1, .ref a7])), (a2, .inl (cy 0, 41, .inl (upd (fun _ => 0) 0 0))), (a3, .inl (cy 0, 41, .inl (upd (fun _ => 0) 0 0)))] (va_A [(a0, .inr (8, [.ref a1, .int 0, .int 0, .int (-1)])), (a1, .inr (6, [.ref a4, .int 0, .ref a2, .ref a3, .ref a5, .ref a6, .int 1, .ref a7])), (a2, .inl (cy 0, 41, .inl (upd (fun _ => 0) 0 0))), (a3, .inl (cy 0, 41, .inl (upd (fun _ => 0) 0 0)))] sz) t) (va_A [(a0, .inr (8, [.ref a1, .int 0, .int 0, .int (-1)])), (a1, .inr (6, [.ref a4, .int 0, .ref a2, .ref a3, .ref a5, .ref a6, .int 1, .ref a7])), (a2, .inl (cy 0, 41, .inl (upd (fun _ => 0) 0 0))), (a3, .inl (cy 0, 41, .inl (upd (fun _ => 0) 0 0)))] sz)) 0 0 (va_A [(a0, .inr (8, [.ref a1, .int 0, .int 0, .int (-1)])), (a1, .inr (6, [.ref a4, .int 0, .ref a2, .ref a3, .ref a5, .ref a6, .int 1, .ref a7])), (a2, .inl (cy 0, 41, .inl (upd (fun _ => 0) 0 0))), (a3, .inl (cy 0, 41, .inl (upd (fun _ => 0) 0 0)))] sz) := by
  refine Met.ofW (cc := cX6_level) (maxL := 7) (ret := (some (.object "PhraseDesk$Node"))) (by decide) rfl ?_
  intro p e s m args below meth c s₁ B hml hv
  obtain ⟨rfl, hsz, hP, hD0, hE⟩ := hv
  have hx := B.exec
  have hb := B.bytes
  have hr := B.returns
  have hts := atoms_spec (ws := wsX6_level) B.pre
  have hown : s.vm.findClass RX6 = some m.cls := findClass_of_methodNamed B.named
  have hlocks := B.notSynchronized
  subst hsz
  have hK := hE.1
  have hAm := hE.2.2.1
  have hWm := hE.2.2.2
  have hAO := hWm.2.2.2.1
  have hD := hD0.self (sz := s.heap.size)
  have hAF := frA hD0 hE.2.1
  generalize hAe : va_A [(a0, .inr (8, [.ref a1, .int 0, .int 0, .int (-1)])), (a1, .inr (6, [.ref a4, .int 0, .ref a2, .ref a3, .ref a5, .ref a6, .int 1, .ref a7])), (a2, .inl (cy 0, 41, .inl (upd (fun _ => 0) 0 0))), (a3, .inl (cy 0, 41, .inl (upd (fun _ => 0) 0 0)))] s.heap.size = A at hD hAF ⊢
  have hA : ∀ q : Nat, s.heap.size ≤ q → A q := fun q h => by rw [← hAe]; exact Or.inr h
  have hS : va_S A s.heap s.heap [] := va_S.rf
  have hl := lv_entry ([.ref a0, .int 4, .int 0]) (n := 7) (Nat.le_of_ble_eq_true rfl)
  rw [lg_entry_eq]
  generalize (lg_sl ([.ref a0, .int 4, .int 0]) ++ List.replicate (7 - (lg_sl ([.ref a0, .int 4, .int 0])).length) Slot.unset).toArray = ls at hl ⊢
  have hl : lv_has ls 7 [(0, .ref a0), (1, .int 4), (2, .int 0)] := hl
  have hP : va_P D vwCl [(a0, .inr (8, [.ref a1, .int 0, .int 0, .int (-1)])), (a1, .inr (6, [.ref a4, .int 0, .ref a2, .ref a3, .ref a5, .ref a6, .int 1, .ref a7])), (a2, .inl (cy 0, 41, .inl (upd (fun _ => 0) 0 0))), (a3, .inl (cy 0, 41, .inl (upd (fun _ => 0) 0 0)))] s.heap := hP
  refine lv_iload_n hx hb dX6_level_0 rfl (lv_at hl 1 rfl) ?_
  refine lv_iconst (v := 4) hx hb dX6_level_1 (by decide +kernel) ?_
  refine lv_icmp_le (tgt := 11) hx hb dX6_level_2 (by decide) (fun _ => ?_) (fun c1 => absurd (by decide +kernel) c1)
  refine lv_aload_n hx hb dX6_level_11 rfl (lv_at hl 0 rfl) ?_
  refine lv_iload_n hx hb dX6_level_12 rfl (lv_at hl 1 rfl) ?_
  refine lv_iconst (v := 1) hx hb dX6_level_13 (by decide +kernel) ?_
  refine lv_iadd hx hb dX6_level_14 ?_
  refine lv_topi (fun x2 ex2 => ?_)
  obtain rfl : x2 = 5 := ex2.trans (by decide +kernel)
  refine lv_iload_n hx hb dX6_level_15 rfl (lv_at hl 2 rfl) ?_
  have hPc := hP.sub (ws' := [(a0, .inr (8, [.ref a1, .int 0, .int 0, .int (-1)])), (a1, .inr (6, [.ref a4, .int 0, .ref a2, .ref a3, .ref a5, .ref a6, .int 1, .ref a7])), (a2, .inl (cy 0, 41, .inl (upd (fun _ => 0) 0 0))), (a3, .inl (cy 0, 41, .inl (upd (fun _ => 0) 0 0)))]) [0, 1, 2, 3] rfl
  have hDc := hD.sub (ws' := [(a0, .inr (8, [.ref a1, .int 0, .int 0, .int (-1)])), (a1, .inr (6, [.ref a4, .int 0, .ref a2, .ref a3, .ref a5, .ref a6, .int 1, .ref a7])), (a2, .inl (cy 0, 41, .inl (upd (fun _ => 0) 0 0))), (a3, .inl (cy 0, 41, .inl (upd (fun _ => 0) 0 0)))]) [0, 1, 2, 3] (by decide) rfl
  have hFc := va_free (wc := [(a0, .inr (8, [.ref a1, .int 0, .int 0, .int (-1)])), (a1, .inr (6, [.ref a4, .int 0, .ref a2, .ref a3, .ref a5, .ref a6, .int 1, .ref a7])), (a2, .inl (cy 0, 41, .inl (upd (fun _ => 0) 0 0))), (a3, .inl (cy 0, 41, .inl (upd (fun _ => 0) 0 0)))]) hD hS hA [0, 1, 2, 3] rfl
  refine va_callq (va_runV (As := [.int 5, .int 0]) (rest := []) ⟨hx, hb, hml, hown, hts⟩ (C_X6_level_1 l D cy sz0 sa a0 a1 a2 a3 a4 a5 a6 a7 s.heap.size) (cwV 2 hts gX6_level_X6_level rfl rfl rfl (by decide +kernel) ⟨Nat.le_of_ble_eq_true rfl, Nat.le_of_ble_eq_true rfl⟩) ⟨PcW.blind, va_recv hK hPc (ci := 8) (q0 := 0) rfl rfl, PcW.mk hE hS hAF hPc hDc⟩ rfl rfl hl.1 rfl (lv_room (Nat.le_of_ble_eq_true rfl)) dX6_level_16 ⟨Nat.le_of_ble_eq_true rfl, Nat.le_of_ble_eq_true rfl⟩) hS (fun q _ h => hFc q h) hFc (fun r_3 u t H1 locs ht hvm hw hB hz1 hk1 hS => ?_)
  obtain ⟨hP1, hD1⟩ := hB
  rw [ht] at hP1
  have hP1 : va_P D vwCl [(a0, .inr (8, [.ref a1, .int 0, .int 2, .int 0])), (a1, .inr (6, [.ref a4, .int 0, .ref a2, .ref a3, .ref a5, .ref a6, .int 1, .ref a7])), (a2, .inl (cy 0, 41, .inl (upd (fun _ => 0) 0 0))), (a3, .inl (cy 0, 41, .inl (upd (fun _ => 0) 0 0)))] H1 := hP1
  obtain ⟨hP, hD⟩ := va_join (wr := []) (w1 := [(a0, .inr (8, [.ref a1, .int 0, .int 2, .int 0])), (a1, .inr (6, [.ref a4, .int 0, .ref a2, .ref a3, .ref a5, .ref a6, .int 1, .ref a7])), (a2, .inl (cy 0, 41, .inl (upd (fun _ => 0) 0 0))), (a3, .inl (cy 0, 41, .inl (upd (fun _ => 0) 0 0)))]) hP hD [0, 1, 2, 3] [] rfl rfl (by decide) (by decide) hk1 hFc hP1 hD1
  clear hP1 hD1 hPc hDc hFc hk1 hz1
  generalize H1 = H at hP hS ⊢
  have hP : va_P D vwCl [(a0, .inr (8, [.ref a1, .int 0, .int 2, .int 0])), (a1, .inr (6, [.ref a4, .int 0, .ref a2, .ref a3, .ref a5, .ref a6, .int 1, .ref a7])), (a2, .inl (cy 0, 41, .inl (upd (fun _ => 0) 0 0))), (a3, .inl (cy 0, 41, .inl (upd (fun _ => 0) 0 0)))] H := hP
  have hD : va_D A [(a0, .inr (8, [.ref a1, .int 0, .int 2, .int 0])), (a1, .inr (6, [.ref a4, .int 0, .ref a2, .ref a3, .ref a5, .ref a6, .int 1, .ref a7])), (a2, .inl (cy 0, 41, .inl (upd (fun _ => 0) 0 0))), (a3, .inl (cy 0, 41, .inl (upd (fun _ => 0) 0 0)))] := hD
  refine W.widen (k := 0) (n := 0) (Nat.le_of_ble_eq_true rfl) (Nat.le_of_ble_eq_true rfl) ?_
  obtain rfl : r_3 = none := hw
  refine W.eq (g2 := F0 m 19 ls [.null]) rfl ?_
  refine lv_astore_nN (lv' := [(3, .null), (0, .ref a0), (1, .int 4), (2, .int 0)]) hx hb dX6_level_19 rfl hl (by decide) rfl (fun ls hl => ?_)
  refine lv_iconst (v := 0) hx hb dX6_level_20 (by decide +kernel) ?_
  refine lv_istore (lv' := [(4, .int 0), (3, .null), (0, .ref a0), (1, .int 4), (2, .int 0)]) hx hb dX6_level_21 hl (by decide) rfl (fun ls hl => ?_)
  refine lv_iload hx hb dX6_level_23 (lv_at hl 0 rfl) ?_
  refine lv_bipush (v := 40) hx hb dX6_level_25 (by decide +kernel) ?_
  refine lv_icmp_ge (tgt := 104) hx hb dX6_level_27 (by decide) (fun c4 => absurd c4 (by decide +kernel)) (fun _ => ?_)
  refine lv_aload_nN hx hb dX6_level_30 rfl (lv_at hl 1 rfl) ?_
  refine lv_ifnullN (tgt := 104) hx hb dX6_level_31 (by decide) ?_
  refine lv_aload_nN hx hb dX6_level_104 rfl (lv_at hl 1 rfl) ?_
  refine W.widen (k := 0) (n := 0) (Nat.le_of_ble_eq_true rfl) (Nat.le_of_ble_eq_true rfl) ?_
  have hP9 := hP.sub (ws' := [(a0, .inr (8, [.ref a1, .int 0, .int 2, .int 0])), (a1, .inr (6, [.ref a4, .int 0, .ref a2, .ref a3, .ref a5, .ref a6, .int 1, .ref a7])), (a2, .inl (cy 0, 41, .inl (upd (fun _ => 0) 0 0))), (a3, .inl (cy 0, 41, .inl (upd (fun _ => 0) 0 0)))]) [0, 1, 2, 3] rfl
  have hD9 := hD.sub (ws' := [(a0, .inr (8, [.ref a1, .int 0, .int 2, .int 0])), (a1, .inr (6, [.ref a4, .int 0, .ref a2, .ref a3, .ref a5, .ref a6, .int 1, .ref a7])), (a2, .inl (cy 0, 41, .inl (upd (fun _ => 0) 0 0))), (a3, .inl (cy 0, 41, .inl (upd (fun _ => 0) 0 0)))]) [0, 1, 2, 3] (by decide) rfl
  exact W.aret (v := .null) hx hb hr (Or.inl ⟨_, rfl⟩) (Or.inl rfl) (fun t ht hW => ⟨⟨none, (), rfl, rfl, ⟨by rw [ht]; exact hP9, hD9⟩⟩, hS.F ht⟩) hS.2.2 dX6_level_105

set_option maxHeartbeats 1000000 in
set_option maxRecDepth 100000 in
theorem C_X6_level_3 (l : Launch) (D : va_G) (cy : Nat → ClassId) (sz0 : Nat) (sa : Nat → Nat) (a0 a1 a2 a3 a4 a5 a6 a7 : Nat) (sz : Nat)  : Met l yX6_level wsX6_level ({ frames := 8, cells := 0, slots := 0, locals := 182 }) (PcW D cy sz0 sa [.ref a0, .int 3, .int 0] [(a0, .inr (8, [.ref a1, .int 0, .int 0, .int (-1)])), (a1, .inr (6, [.ref a4, .int 0, .ref a2, .ref a3, .ref a5, .ref a6, .int 1, .ref a7])), (a2, .inl (cy 0, 41, .inl (upd (fun _ => 0) 0 0))), (a3, .inl (cy 0, 41, .inl (upd (fun _ => 0) 0 0)))] sz) (va_Qq (fun (r : Option Nat) (u : Unit) => r = none) (fun (u : Unit) (t : State) => BW D [(a0, .inr (8, [.ref a1, .int 0, .int 2, .int 0])), (a1, .inr (6, [.ref a4, .int 0, .ref a2, .ref a3, .ref a5, .ref a6, .int 1, .ref a7])), (a2, .inl (cy 0, 41, .inl (upd (fun _ => 0) 0 0))), (a3, .inl (cy 0, 41, .inl (upd (fun _ => 0) 0 0)))] (va_A [(a0, .inr (8, [.ref a1, .int 0, .int 0, .int (-1)])), (a1, .inr (6, [.ref a4, .int 0, .ref a2, .ref a3, .ref a5, .ref a6, .int 1, .ref a7])), (a2, .inl (cy 0, 41, .inl (upd (fun _ => 0) 0 0))), (a3, .inl (cy 0, 41, .inl (upd (fun _ => 0) 0 0)))] sz) t) (va_A [(a0, .inr (8, [.ref a1, .int 0, .int 0, .int (-1)])), (a1, .inr (6, [.ref a4, .int 0, .ref a2, .ref a3, .ref a5, .ref a6, .int 1, .ref a7])), (a2, .inl (cy 0, 41, .inl (upd (fun _ => 0) 0 0))), (a3, .inl (cy 0, 41, .inl (upd (fun _ => 0) 0 0)))] sz)) 0 0 (va_A [(a0, .inr (8, [.ref a1, .int 0, .int 0, .int (-1)])), (a1, .inr (6, [.ref a4, .int 0, .ref a2, .ref a3, .ref a5, .ref a6, .int 1, .ref a7])), (a2, .inl (cy 0, 41, .inl (upd (fun _ => 0) 0 0))), (a3, .inl (cy 0, 41, .inl (upd (fun _ => 0) 0 0)))] sz) := by
  refine Met.ofW (cc := cX6_level) (maxL := 7) (ret := (some (.object "PhraseDesk$Node"))) (by decide) rfl ?_
  intro p e s m args below meth c s₁ B hml hv
  obtain ⟨rfl, hsz, hP, hD0, hE⟩ := hv
  have hx := B.exec
  have hb := B.bytes
  have hr := B.returns
  have hts := atoms_spec (ws := wsX6_level) B.pre
  have hown : s.vm.findClass RX6 = some m.cls := findClass_of_methodNamed B.named
  have hlocks := B.notSynchronized
  subst hsz
  have hK := hE.1
  have hAm := hE.2.2.1
  have hWm := hE.2.2.2
  have hAO := hWm.2.2.2.1
  have hD := hD0.self (sz := s.heap.size)
  have hAF := frA hD0 hE.2.1
  generalize hAe : va_A [(a0, .inr (8, [.ref a1, .int 0, .int 0, .int (-1)])), (a1, .inr (6, [.ref a4, .int 0, .ref a2, .ref a3, .ref a5, .ref a6, .int 1, .ref a7])), (a2, .inl (cy 0, 41, .inl (upd (fun _ => 0) 0 0))), (a3, .inl (cy 0, 41, .inl (upd (fun _ => 0) 0 0)))] s.heap.size = A at hD hAF ⊢
  have hA : ∀ q : Nat, s.heap.size ≤ q → A q := fun q h => by rw [← hAe]; exact Or.inr h
  have hS : va_S A s.heap s.heap [] := va_S.rf
  have hl := lv_entry ([.ref a0, .int 3, .int 0]) (n := 7) (Nat.le_of_ble_eq_true rfl)
  rw [lg_entry_eq]
  generalize (lg_sl ([.ref a0, .int 3, .int 0]) ++ List.replicate (7 - (lg_sl ([.ref a0, .int 3, .int 0])).length) Slot.unset).toArray = ls at hl ⊢
  have hl : lv_has ls 7 [(0, .ref a0), (1, .int 3), (2, .int 0)] := hl
  have hP : va_P D vwCl [(a0, .inr (8, [.ref a1, .int 0, .int 0, .int (-1)])), (a1, .inr (6, [.ref a4, .int 0, .ref a2, .ref a3, .ref a5, .ref a6, .int 1, .ref a7])), (a2, .inl (cy 0, 41, .inl (upd (fun _ => 0) 0 0))), (a3, .inl (cy 0, 41, .inl (upd (fun _ => 0) 0 0)))] s.heap := hP
  refine lv_iload_n hx hb dX6_level_0 rfl (lv_at hl 1 rfl) ?_
  refine lv_iconst (v := 4) hx hb dX6_level_1 (by decide +kernel) ?_
  refine lv_icmp_le (tgt := 11) hx hb dX6_level_2 (by decide) (fun _ => ?_) (fun c1 => absurd (by decide +kernel) c1)
  refine lv_aload_n hx hb dX6_level_11 rfl (lv_at hl 0 rfl) ?_
  refine lv_iload_n hx hb dX6_level_12 rfl (lv_at hl 1 rfl) ?_
  refine lv_iconst (v := 1) hx hb dX6_level_13 (by decide +kernel) ?_
  refine lv_iadd hx hb dX6_level_14 ?_
  refine lv_topi (fun x2 ex2 => ?_)
  obtain rfl : x2 = 4 := ex2.trans (by decide +kernel)
  refine lv_iload_n hx hb dX6_level_15 rfl (lv_at hl 2 rfl) ?_
  have hPc := hP.sub (ws' := [(a0, .inr (8, [.ref a1, .int 0, .int 0, .int (-1)])), (a1, .inr (6, [.ref a4, .int 0, .ref a2, .ref a3, .ref a5, .ref a6, .int 1, .ref a7])), (a2, .inl (cy 0, 41, .inl (upd (fun _ => 0) 0 0))), (a3, .inl (cy 0, 41, .inl (upd (fun _ => 0) 0 0)))]) [0, 1, 2, 3] rfl
  have hDc := hD.sub (ws' := [(a0, .inr (8, [.ref a1, .int 0, .int 0, .int (-1)])), (a1, .inr (6, [.ref a4, .int 0, .ref a2, .ref a3, .ref a5, .ref a6, .int 1, .ref a7])), (a2, .inl (cy 0, 41, .inl (upd (fun _ => 0) 0 0))), (a3, .inl (cy 0, 41, .inl (upd (fun _ => 0) 0 0)))]) [0, 1, 2, 3] (by decide) rfl
  have hFc := va_free (wc := [(a0, .inr (8, [.ref a1, .int 0, .int 0, .int (-1)])), (a1, .inr (6, [.ref a4, .int 0, .ref a2, .ref a3, .ref a5, .ref a6, .int 1, .ref a7])), (a2, .inl (cy 0, 41, .inl (upd (fun _ => 0) 0 0))), (a3, .inl (cy 0, 41, .inl (upd (fun _ => 0) 0 0)))]) hD hS hA [0, 1, 2, 3] rfl
  refine va_callq (va_runV (As := [.int 4, .int 0]) (rest := []) ⟨hx, hb, hml, hown, hts⟩ (C_X6_level_2 l D cy sz0 sa a0 a1 a2 a3 a4 a5 a6 a7 s.heap.size) (cwV 2 hts gX6_level_X6_level rfl rfl rfl (by decide +kernel) ⟨Nat.le_of_ble_eq_true rfl, Nat.le_of_ble_eq_true rfl⟩) ⟨PcW.blind, va_recv hK hPc (ci := 8) (q0 := 0) rfl rfl, PcW.mk hE hS hAF hPc hDc⟩ rfl rfl hl.1 rfl (lv_room (Nat.le_of_ble_eq_true rfl)) dX6_level_16 ⟨Nat.le_of_ble_eq_true rfl, Nat.le_of_ble_eq_true rfl⟩) hS (fun q _ h => hFc q h) hFc (fun r_3 u t H1 locs ht hvm hw hB hz1 hk1 hS => ?_)
  obtain ⟨hP1, hD1⟩ := hB
  rw [ht] at hP1
  have hP1 : va_P D vwCl [(a0, .inr (8, [.ref a1, .int 0, .int 2, .int 0])), (a1, .inr (6, [.ref a4, .int 0, .ref a2, .ref a3, .ref a5, .ref a6, .int 1, .ref a7])), (a2, .inl (cy 0, 41, .inl (upd (fun _ => 0) 0 0))), (a3, .inl (cy 0, 41, .inl (upd (fun _ => 0) 0 0)))] H1 := hP1
  obtain ⟨hP, hD⟩ := va_join (wr := []) (w1 := [(a0, .inr (8, [.ref a1, .int 0, .int 2, .int 0])), (a1, .inr (6, [.ref a4, .int 0, .ref a2, .ref a3, .ref a5, .ref a6, .int 1, .ref a7])), (a2, .inl (cy 0, 41, .inl (upd (fun _ => 0) 0 0))), (a3, .inl (cy 0, 41, .inl (upd (fun _ => 0) 0 0)))]) hP hD [0, 1, 2, 3] [] rfl rfl (by decide) (by decide) hk1 hFc hP1 hD1
  clear hP1 hD1 hPc hDc hFc hk1 hz1
  generalize H1 = H at hP hS ⊢
  have hP : va_P D vwCl [(a0, .inr (8, [.ref a1, .int 0, .int 2, .int 0])), (a1, .inr (6, [.ref a4, .int 0, .ref a2, .ref a3, .ref a5, .ref a6, .int 1, .ref a7])), (a2, .inl (cy 0, 41, .inl (upd (fun _ => 0) 0 0))), (a3, .inl (cy 0, 41, .inl (upd (fun _ => 0) 0 0)))] H := hP
  have hD : va_D A [(a0, .inr (8, [.ref a1, .int 0, .int 2, .int 0])), (a1, .inr (6, [.ref a4, .int 0, .ref a2, .ref a3, .ref a5, .ref a6, .int 1, .ref a7])), (a2, .inl (cy 0, 41, .inl (upd (fun _ => 0) 0 0))), (a3, .inl (cy 0, 41, .inl (upd (fun _ => 0) 0 0)))] := hD
  refine W.widen (k := 0) (n := 0) (Nat.le_of_ble_eq_true rfl) (Nat.le_of_ble_eq_true rfl) ?_
  obtain rfl : r_3 = none := hw
  refine W.eq (g2 := F0 m 19 ls [.null]) rfl ?_
  refine lv_astore_nN (lv' := [(3, .null), (0, .ref a0), (1, .int 3), (2, .int 0)]) hx hb dX6_level_19 rfl hl (by decide) rfl (fun ls hl => ?_)
  refine lv_iconst (v := 0) hx hb dX6_level_20 (by decide +kernel) ?_
  refine lv_istore (lv' := [(4, .int 0), (3, .null), (0, .ref a0), (1, .int 3), (2, .int 0)]) hx hb dX6_level_21 hl (by decide) rfl (fun ls hl => ?_)
  refine lv_iload hx hb dX6_level_23 (lv_at hl 0 rfl) ?_
  refine lv_bipush (v := 40) hx hb dX6_level_25 (by decide +kernel) ?_
  refine lv_icmp_ge (tgt := 104) hx hb dX6_level_27 (by decide) (fun c4 => absurd c4 (by decide +kernel)) (fun _ => ?_)
  refine lv_aload_nN hx hb dX6_level_30 rfl (lv_at hl 1 rfl) ?_
  refine lv_ifnullN (tgt := 104) hx hb dX6_level_31 (by decide) ?_
  refine lv_aload_nN hx hb dX6_level_104 rfl (lv_at hl 1 rfl) ?_
  refine W.widen (k := 0) (n := 0) (Nat.le_of_ble_eq_true rfl) (Nat.le_of_ble_eq_true rfl) ?_
  have hP9 := hP.sub (ws' := [(a0, .inr (8, [.ref a1, .int 0, .int 2, .int 0])), (a1, .inr (6, [.ref a4, .int 0, .ref a2, .ref a3, .ref a5, .ref a6, .int 1, .ref a7])), (a2, .inl (cy 0, 41, .inl (upd (fun _ => 0) 0 0))), (a3, .inl (cy 0, 41, .inl (upd (fun _ => 0) 0 0)))]) [0, 1, 2, 3] rfl
  have hD9 := hD.sub (ws' := [(a0, .inr (8, [.ref a1, .int 0, .int 2, .int 0])), (a1, .inr (6, [.ref a4, .int 0, .ref a2, .ref a3, .ref a5, .ref a6, .int 1, .ref a7])), (a2, .inl (cy 0, 41, .inl (upd (fun _ => 0) 0 0))), (a3, .inl (cy 0, 41, .inl (upd (fun _ => 0) 0 0)))]) [0, 1, 2, 3] (by decide) rfl
  exact W.aret (v := .null) hx hb hr (Or.inl ⟨_, rfl⟩) (Or.inl rfl) (fun t ht hW => ⟨⟨none, (), rfl, rfl, ⟨by rw [ht]; exact hP9, hD9⟩⟩, hS.F ht⟩) hS.2.2 dX6_level_105

set_option maxHeartbeats 1000000 in
set_option maxRecDepth 100000 in
theorem C_X6_level_4 (l : Launch) (D : va_G) (cy : Nat → ClassId) (sz0 : Nat) (sa : Nat → Nat) (a0 a1 a2 a3 a4 a5 a6 a7 : Nat) (sz : Nat)  : Met l yX6_level wsX6_level ({ frames := 9, cells := 0, slots := 0, locals := 208 }) (PcW D cy sz0 sa [.ref a0, .int 2, .int 0] [(a0, .inr (8, [.ref a1, .int 0, .int 0, .int (-1)])), (a1, .inr (6, [.ref a4, .int 0, .ref a2, .ref a3, .ref a5, .ref a6, .int 1, .ref a7])), (a2, .inl (cy 0, 41, .inl (upd (fun _ => 0) 0 0))), (a3, .inl (cy 0, 41, .inl (upd (fun _ => 0) 0 0)))] sz) (va_Qq (fun (r : Option Nat) (u : Unit) => r = none) (fun (u : Unit) (t : State) => BW D [(a0, .inr (8, [.ref a1, .int 0, .int 2, .int 0])), (a1, .inr (6, [.ref a4, .int 0, .ref a2, .ref a3, .ref a5, .ref a6, .int 1, .ref a7])), (a2, .inl (cy 0, 41, .inl (upd (fun _ => 0) 0 0))), (a3, .inl (cy 0, 41, .inl (upd (fun _ => 0) 0 0)))] (va_A [(a0, .inr (8, [.ref a1, .int 0, .int 0, .int (-1)])), (a1, .inr (6, [.ref a4, .int 0, .ref a2, .ref a3, .ref a5, .ref a6, .int 1, .ref a7])), (a2, .inl (cy 0, 41, .inl (upd (fun _ => 0) 0 0))), (a3, .inl (cy 0, 41, .inl (upd (fun _ => 0) 0 0)))] sz) t) (va_A [(a0, .inr (8, [.ref a1, .int 0, .int 0, .int (-1)])), (a1, .inr (6, [.ref a4, .int 0, .ref a2, .ref a3, .ref a5, .ref a6, .int 1, .ref a7])), (a2, .inl (cy 0, 41, .inl (upd (fun _ => 0) 0 0))), (a3, .inl (cy 0, 41, .inl (upd (fun _ => 0) 0 0)))] sz)) 0 0 (va_A [(a0, .inr (8, [.ref a1, .int 0, .int 0, .int (-1)])), (a1, .inr (6, [.ref a4, .int 0, .ref a2, .ref a3, .ref a5, .ref a6, .int 1, .ref a7])), (a2, .inl (cy 0, 41, .inl (upd (fun _ => 0) 0 0))), (a3, .inl (cy 0, 41, .inl (upd (fun _ => 0) 0 0)))] sz) := by
  refine Met.ofW (cc := cX6_level) (maxL := 7) (ret := (some (.object "PhraseDesk$Node"))) (by decide) rfl ?_
  intro p e s m args below meth c s₁ B hml hv
  obtain ⟨rfl, hsz, hP, hD0, hE⟩ := hv
  have hx := B.exec
  have hb := B.bytes
  have hr := B.returns
  have hts := atoms_spec (ws := wsX6_level) B.pre
  have hown : s.vm.findClass RX6 = some m.cls := findClass_of_methodNamed B.named
  have hlocks := B.notSynchronized
  subst hsz
  have hK := hE.1
  have hAm := hE.2.2.1
  have hWm := hE.2.2.2
  have hAO := hWm.2.2.2.1
  have hD := hD0.self (sz := s.heap.size)
  have hAF := frA hD0 hE.2.1
  generalize hAe : va_A [(a0, .inr (8, [.ref a1, .int 0, .int 0, .int (-1)])), (a1, .inr (6, [.ref a4, .int 0, .ref a2, .ref a3, .ref a5, .ref a6, .int 1, .ref a7])), (a2, .inl (cy 0, 41, .inl (upd (fun _ => 0) 0 0))), (a3, .inl (cy 0, 41, .inl (upd (fun _ => 0) 0 0)))] s.heap.size = A at hD hAF ⊢
  have hA : ∀ q : Nat, s.heap.size ≤ q → A q := fun q h => by rw [← hAe]; exact Or.inr h
  have hS : va_S A s.heap s.heap [] := va_S.rf
  have hl := lv_entry ([.ref a0, .int 2, .int 0]) (n := 7) (Nat.le_of_ble_eq_true rfl)
  rw [lg_entry_eq]
  generalize (lg_sl ([.ref a0, .int 2, .int 0]) ++ List.replicate (7 - (lg_sl ([.ref a0, .int 2, .int 0])).length) Slot.unset).toArray = ls at hl ⊢
  have hl : lv_has ls 7 [(0, .ref a0), (1, .int 2), (2, .int 0)] := hl
  have hP : va_P D vwCl [(a0, .inr (8, [.ref a1, .int 0, .int 0, .int (-1)])), (a1, .inr (6, [.ref a4, .int 0, .ref a2, .ref a3, .ref a5, .ref a6, .int 1, .ref a7])), (a2, .inl (cy 0, 41, .inl (upd (fun _ => 0) 0 0))), (a3, .inl (cy 0, 41, .inl (upd (fun _ => 0) 0 0)))] s.heap := hP
  refine lv_iload_n hx hb dX6_level_0 rfl (lv_at hl 1 rfl) ?_
  refine lv_iconst (v := 4) hx hb dX6_level_1 (by decide +kernel) ?_
  refine lv_icmp_le (tgt := 11) hx hb dX6_level_2 (by decide) (fun _ => ?_) (fun c1 => absurd (by decide +kernel) c1)
  refine lv_aload_n hx hb dX6_level_11 rfl (lv_at hl 0 rfl) ?_
  refine lv_iload_n hx hb dX6_level_12 rfl (lv_at hl 1 rfl) ?_
  refine lv_iconst (v := 1) hx hb dX6_level_13 (by decide +kernel) ?_
  refine lv_iadd hx hb dX6_level_14 ?_
  refine lv_topi (fun x2 ex2 => ?_)
  obtain rfl : x2 = 3 := ex2.trans (by decide +kernel)
  refine lv_iload_n hx hb dX6_level_15 rfl (lv_at hl 2 rfl) ?_
  have hPc := hP.sub (ws' := [(a0, .inr (8, [.ref a1, .int 0, .int 0, .int (-1)])), (a1, .inr (6, [.ref a4, .int 0, .ref a2, .ref a3, .ref a5, .ref a6, .int 1, .ref a7])), (a2, .inl (cy 0, 41, .inl (upd (fun _ => 0) 0 0))), (a3, .inl (cy 0, 41, .inl (upd (fun _ => 0) 0 0)))]) [0, 1, 2, 3] rfl
  have hDc := hD.sub (ws' := [(a0, .inr (8, [.ref a1, .int 0, .int 0, .int (-1)])), (a1, .inr (6, [.ref a4, .int 0, .ref a2, .ref a3, .ref a5, .ref a6, .int 1, .ref a7])), (a2, .inl (cy 0, 41, .inl (upd (fun _ => 0) 0 0))), (a3, .inl (cy 0, 41, .inl (upd (fun _ => 0) 0 0)))]) [0, 1, 2, 3] (by decide) rfl
  have hFc := va_free (wc := [(a0, .inr (8, [.ref a1, .int 0, .int 0, .int (-1)])), (a1, .inr (6, [.ref a4, .int 0, .ref a2, .ref a3, .ref a5, .ref a6, .int 1, .ref a7])), (a2, .inl (cy 0, 41, .inl (upd (fun _ => 0) 0 0))), (a3, .inl (cy 0, 41, .inl (upd (fun _ => 0) 0 0)))]) hD hS hA [0, 1, 2, 3] rfl
  refine va_callq (va_runV (As := [.int 3, .int 0]) (rest := []) ⟨hx, hb, hml, hown, hts⟩ (C_X6_level_3 l D cy sz0 sa a0 a1 a2 a3 a4 a5 a6 a7 s.heap.size) (cwV 2 hts gX6_level_X6_level rfl rfl rfl (by decide +kernel) ⟨Nat.le_of_ble_eq_true rfl, Nat.le_of_ble_eq_true rfl⟩) ⟨PcW.blind, va_recv hK hPc (ci := 8) (q0 := 0) rfl rfl, PcW.mk hE hS hAF hPc hDc⟩ rfl rfl hl.1 rfl (lv_room (Nat.le_of_ble_eq_true rfl)) dX6_level_16 ⟨Nat.le_of_ble_eq_true rfl, Nat.le_of_ble_eq_true rfl⟩) hS (fun q _ h => hFc q h) hFc (fun r_3 u t H1 locs ht hvm hw hB hz1 hk1 hS => ?_)
  obtain ⟨hP1, hD1⟩ := hB
  rw [ht] at hP1
  have hP1 : va_P D vwCl [(a0, .inr (8, [.ref a1, .int 0, .int 2, .int 0])), (a1, .inr (6, [.ref a4, .int 0, .ref a2, .ref a3, .ref a5, .ref a6, .int 1, .ref a7])), (a2, .inl (cy 0, 41, .inl (upd (fun _ => 0) 0 0))), (a3, .inl (cy 0, 41, .inl (upd (fun _ => 0) 0 0)))] H1 := hP1
  obtain ⟨hP, hD⟩ := va_join (wr := []) (w1 := [(a0, .inr (8, [.ref a1, .int 0, .int 2, .int 0])), (a1, .inr (6, [.ref a4, .int 0, .ref a2, .ref a3, .ref a5, .ref a6, .int 1, .ref a7])), (a2, .inl (cy 0, 41, .inl (upd (fun _ => 0) 0 0))), (a3, .inl (cy 0, 41, .inl (upd (fun _ => 0) 0 0)))]) hP hD [0, 1, 2, 3] [] rfl rfl (by decide) (by decide) hk1 hFc hP1 hD1
  clear hP1 hD1 hPc hDc hFc hk1 hz1
  generalize H1 = H at hP hS ⊢
  have hP : va_P D vwCl [(a0, .inr (8, [.ref a1, .int 0, .int 2, .int 0])), (a1, .inr (6, [.ref a4, .int 0, .ref a2, .ref a3, .ref a5, .ref a6, .int 1, .ref a7])), (a2, .inl (cy 0, 41, .inl (upd (fun _ => 0) 0 0))), (a3, .inl (cy 0, 41, .inl (upd (fun _ => 0) 0 0)))] H := hP
  have hD : va_D A [(a0, .inr (8, [.ref a1, .int 0, .int 2, .int 0])), (a1, .inr (6, [.ref a4, .int 0, .ref a2, .ref a3, .ref a5, .ref a6, .int 1, .ref a7])), (a2, .inl (cy 0, 41, .inl (upd (fun _ => 0) 0 0))), (a3, .inl (cy 0, 41, .inl (upd (fun _ => 0) 0 0)))] := hD
  refine W.widen (k := 0) (n := 0) (Nat.le_of_ble_eq_true rfl) (Nat.le_of_ble_eq_true rfl) ?_
  obtain rfl : r_3 = none := hw
  refine W.eq (g2 := F0 m 19 ls [.null]) rfl ?_
  refine lv_astore_nN (lv' := [(3, .null), (0, .ref a0), (1, .int 2), (2, .int 0)]) hx hb dX6_level_19 rfl hl (by decide) rfl (fun ls hl => ?_)
  refine lv_iconst (v := 0) hx hb dX6_level_20 (by decide +kernel) ?_
  refine lv_istore (lv' := [(4, .int 0), (3, .null), (0, .ref a0), (1, .int 2), (2, .int 0)]) hx hb dX6_level_21 hl (by decide) rfl (fun ls hl => ?_)
  refine lv_iload hx hb dX6_level_23 (lv_at hl 0 rfl) ?_
  refine lv_bipush (v := 40) hx hb dX6_level_25 (by decide +kernel) ?_
  refine lv_icmp_ge (tgt := 104) hx hb dX6_level_27 (by decide) (fun c4 => absurd c4 (by decide +kernel)) (fun _ => ?_)
  refine lv_aload_nN hx hb dX6_level_30 rfl (lv_at hl 1 rfl) ?_
  refine lv_ifnullN (tgt := 104) hx hb dX6_level_31 (by decide) ?_
  refine lv_aload_nN hx hb dX6_level_104 rfl (lv_at hl 1 rfl) ?_
  refine W.widen (k := 0) (n := 0) (Nat.le_of_ble_eq_true rfl) (Nat.le_of_ble_eq_true rfl) ?_
  have hP9 := hP.sub (ws' := [(a0, .inr (8, [.ref a1, .int 0, .int 2, .int 0])), (a1, .inr (6, [.ref a4, .int 0, .ref a2, .ref a3, .ref a5, .ref a6, .int 1, .ref a7])), (a2, .inl (cy 0, 41, .inl (upd (fun _ => 0) 0 0))), (a3, .inl (cy 0, 41, .inl (upd (fun _ => 0) 0 0)))]) [0, 1, 2, 3] rfl
  have hD9 := hD.sub (ws' := [(a0, .inr (8, [.ref a1, .int 0, .int 2, .int 0])), (a1, .inr (6, [.ref a4, .int 0, .ref a2, .ref a3, .ref a5, .ref a6, .int 1, .ref a7])), (a2, .inl (cy 0, 41, .inl (upd (fun _ => 0) 0 0))), (a3, .inl (cy 0, 41, .inl (upd (fun _ => 0) 0 0)))]) [0, 1, 2, 3] (by decide) rfl
  exact W.aret (v := .null) hx hb hr (Or.inl ⟨_, rfl⟩) (Or.inl rfl) (fun t ht hW => ⟨⟨none, (), rfl, rfl, ⟨by rw [ht]; exact hP9, hD9⟩⟩, hS.F ht⟩) hS.2.2 dX6_level_105

set_option maxHeartbeats 1000000 in
set_option maxRecDepth 100000 in
theorem C_X6_level_5 (l : Launch) (D : va_G) (cy : Nat → ClassId) (sz0 : Nat) (sa : Nat → Nat) (a0 a1 a2 a3 a4 a5 a6 a7 : Nat) (sz : Nat)  : Met l yX6_level wsX6_level ({ frames := 10, cells := 0, slots := 0, locals := 234 }) (PcW D cy sz0 sa [.ref a0, .int 1, .int 0] [(a0, .inr (8, [.ref a1, .int 0, .int 0, .int (-1)])), (a1, .inr (6, [.ref a4, .int 0, .ref a2, .ref a3, .ref a5, .ref a6, .int 1, .ref a7])), (a2, .inl (cy 0, 41, .inl (upd (fun _ => 0) 0 0))), (a3, .inl (cy 0, 41, .inl (upd (fun _ => 0) 0 0)))] sz) (va_Qq (fun (r : Option Nat) (u : Unit) => r = none) (fun (u : Unit) (t : State) => BW D [(a0, .inr (8, [.ref a1, .int 0, .int 2, .int 0])), (a1, .inr (6, [.ref a4, .int 0, .ref a2, .ref a3, .ref a5, .ref a6, .int 1, .ref a7])), (a2, .inl (cy 0, 41, .inl (upd (fun _ => 0) 0 0))), (a3, .inl (cy 0, 41, .inl (upd (fun _ => 0) 0 0)))] (va_A [(a0, .inr (8, [.ref a1, .int 0, .int 0, .int (-1)])), (a1, .inr (6, [.ref a4, .int 0, .ref a2, .ref a3, .ref a5, .ref a6, .int 1, .ref a7])), (a2, .inl (cy 0, 41, .inl (upd (fun _ => 0) 0 0))), (a3, .inl (cy 0, 41, .inl (upd (fun _ => 0) 0 0)))] sz) t) (va_A [(a0, .inr (8, [.ref a1, .int 0, .int 0, .int (-1)])), (a1, .inr (6, [.ref a4, .int 0, .ref a2, .ref a3, .ref a5, .ref a6, .int 1, .ref a7])), (a2, .inl (cy 0, 41, .inl (upd (fun _ => 0) 0 0))), (a3, .inl (cy 0, 41, .inl (upd (fun _ => 0) 0 0)))] sz)) 0 0 (va_A [(a0, .inr (8, [.ref a1, .int 0, .int 0, .int (-1)])), (a1, .inr (6, [.ref a4, .int 0, .ref a2, .ref a3, .ref a5, .ref a6, .int 1, .ref a7])), (a2, .inl (cy 0, 41, .inl (upd (fun _ => 0) 0 0))), (a3, .inl (cy 0, 41, .inl (upd (fun _ => 0) 0 0)))] sz) := by
  refine Met.ofW (cc := cX6_level) (maxL := 7) (ret := (some (.object "PhraseDesk$Node"))) (by decide) rfl ?_
  intro p e s m args below meth c s₁ B hml hv
  obtain ⟨rfl, hsz, hP, hD0, hE⟩ := hv
  have hx := B.exec
  have hb := B.bytes
  have hr := B.returns
  have hts := atoms_spec (ws := wsX6_level) B.pre
  have hown : s.vm.findClass RX6 = some m.cls := findClass_of_methodNamed B.named
  have hlocks := B.notSynchronized
  subst hsz
  have hK := hE.1
  have hAm := hE.2.2.1
  have hWm := hE.2.2.2
  have hAO := hWm.2.2.2.1
  have hD := hD0.self (sz := s.heap.size)
  have hAF := frA hD0 hE.2.1
  generalize hAe : va_A [(a0, .inr (8, [.ref a1, .int 0, .int 0, .int (-1)])), (a1, .inr (6, [.ref a4, .int 0, .ref a2, .ref a3, .ref a5, .ref a6, .int 1, .ref a7])), (a2, .inl (cy 0, 41, .inl (upd (fun _ => 0) 0 0))), (a3, .inl (cy 0, 41, .inl (upd (fun _ => 0) 0 0)))] s.heap.size = A at hD hAF ⊢
  have hA : ∀ q : Nat, s.heap.size ≤ q → A q := fun q h => by rw [← hAe]; exact Or.inr h
  have hS : va_S A s.heap s.heap [] := va_S.rf
  have hl := lv_entry ([.ref a0, .int 1, .int 0]) (n := 7) (Nat.le_of_ble_eq_true rfl)
  rw [lg_entry_eq]
  generalize (lg_sl ([.ref a0, .int 1, .int 0]) ++ List.replicate (7 - (lg_sl ([.ref a0, .int 1, .int 0])).length) Slot.unset).toArray = ls at hl ⊢
  have hl : lv_has ls 7 [(0, .ref a0), (1, .int 1), (2, .int 0)] := hl
  have hP : va_P D vwCl [(a0, .inr (8, [.ref a1, .int 0, .int 0, .int (-1)])), (a1, .inr (6, [.ref a4, .int 0, .ref a2, .ref a3, .ref a5, .ref a6, .int 1, .ref a7])), (a2, .inl (cy 0, 41, .inl (upd (fun _ => 0) 0 0))), (a3, .inl (cy 0, 41, .inl (upd (fun _ => 0) 0 0)))] s.heap := hP
  refine lv_iload_n hx hb dX6_level_0 rfl (lv_at hl 1 rfl) ?_
  refine lv_iconst (v := 4) hx hb dX6_level_1 (by decide +kernel) ?_
  refine lv_icmp_le (tgt := 11) hx hb dX6_level_2 (by decide) (fun _ => ?_) (fun c1 => absurd (by decide +kernel) c1)
  refine lv_aload_n hx hb dX6_level_11 rfl (lv_at hl 0 rfl) ?_
  refine lv_iload_n hx hb dX6_level_12 rfl (lv_at hl 1 rfl) ?_
  refine lv_iconst (v := 1) hx hb dX6_level_13 (by decide +kernel) ?_
  refine lv_iadd hx hb dX6_level_14 ?_
  refine lv_topi (fun x2 ex2 => ?_)
  obtain rfl : x2 = 2 := ex2.trans (by decide +kernel)
  refine lv_iload_n hx hb dX6_level_15 rfl (lv_at hl 2 rfl) ?_
  have hPc := hP.sub (ws' := [(a0, .inr (8, [.ref a1, .int 0, .int 0, .int (-1)])), (a1, .inr (6, [.ref a4, .int 0, .ref a2, .ref a3, .ref a5, .ref a6, .int 1, .ref a7])), (a2, .inl (cy 0, 41, .inl (upd (fun _ => 0) 0 0))), (a3, .inl (cy 0, 41, .inl (upd (fun _ => 0) 0 0)))]) [0, 1, 2, 3] rfl
  have hDc := hD.sub (ws' := [(a0, .inr (8, [.ref a1, .int 0, .int 0, .int (-1)])), (a1, .inr (6, [.ref a4, .int 0, .ref a2, .ref a3, .ref a5, .ref a6, .int 1, .ref a7])), (a2, .inl (cy 0, 41, .inl (upd (fun _ => 0) 0 0))), (a3, .inl (cy 0, 41, .inl (upd (fun _ => 0) 0 0)))]) [0, 1, 2, 3] (by decide) rfl
  have hFc := va_free (wc := [(a0, .inr (8, [.ref a1, .int 0, .int 0, .int (-1)])), (a1, .inr (6, [.ref a4, .int 0, .ref a2, .ref a3, .ref a5, .ref a6, .int 1, .ref a7])), (a2, .inl (cy 0, 41, .inl (upd (fun _ => 0) 0 0))), (a3, .inl (cy 0, 41, .inl (upd (fun _ => 0) 0 0)))]) hD hS hA [0, 1, 2, 3] rfl
  refine va_callq (va_runV (As := [.int 2, .int 0]) (rest := []) ⟨hx, hb, hml, hown, hts⟩ (C_X6_level_4 l D cy sz0 sa a0 a1 a2 a3 a4 a5 a6 a7 s.heap.size) (cwV 2 hts gX6_level_X6_level rfl rfl rfl (by decide +kernel) ⟨Nat.le_of_ble_eq_true rfl, Nat.le_of_ble_eq_true rfl⟩) ⟨PcW.blind, va_recv hK hPc (ci := 8) (q0 := 0) rfl rfl, PcW.mk hE hS hAF hPc hDc⟩ rfl rfl hl.1 rfl (lv_room (Nat.le_of_ble_eq_true rfl)) dX6_level_16 ⟨Nat.le_of_ble_eq_true rfl, Nat.le_of_ble_eq_true rfl⟩) hS (fun q _ h => hFc q h) hFc (fun r_3 u t H1 locs ht hvm hw hB hz1 hk1 hS => ?_)
  obtain ⟨hP1, hD1⟩ := hB
  rw [ht] at hP1
  have hP1 : va_P D vwCl [(a0, .inr (8, [.ref a1, .int 0, .int 2, .int 0])), (a1, .inr (6, [.ref a4, .int 0, .ref a2, .ref a3, .ref a5, .ref a6, .int 1, .ref a7])), (a2, .inl (cy 0, 41, .inl (upd (fun _ => 0) 0 0))), (a3, .inl (cy 0, 41, .inl (upd (fun _ => 0) 0 0)))] H1 := hP1
  obtain ⟨hP, hD⟩ := va_join (wr := []) (w1 := [(a0, .inr (8, [.ref a1, .int 0, .int 2, .int 0])), (a1, .inr (6, [.ref a4, .int 0, .ref a2, .ref a3, .ref a5, .ref a6, .int 1, .ref a7])), (a2, .inl (cy 0, 41, .inl (upd (fun _ => 0) 0 0))), (a3, .inl (cy 0, 41, .inl (upd (fun _ => 0) 0 0)))]) hP hD [0, 1, 2, 3] [] rfl rfl (by decide) (by decide) hk1 hFc hP1 hD1
  clear hP1 hD1 hPc hDc hFc hk1 hz1
  generalize H1 = H at hP hS ⊢
  have hP : va_P D vwCl [(a0, .inr (8, [.ref a1, .int 0, .int 2, .int 0])), (a1, .inr (6, [.ref a4, .int 0, .ref a2, .ref a3, .ref a5, .ref a6, .int 1, .ref a7])), (a2, .inl (cy 0, 41, .inl (upd (fun _ => 0) 0 0))), (a3, .inl (cy 0, 41, .inl (upd (fun _ => 0) 0 0)))] H := hP
  have hD : va_D A [(a0, .inr (8, [.ref a1, .int 0, .int 2, .int 0])), (a1, .inr (6, [.ref a4, .int 0, .ref a2, .ref a3, .ref a5, .ref a6, .int 1, .ref a7])), (a2, .inl (cy 0, 41, .inl (upd (fun _ => 0) 0 0))), (a3, .inl (cy 0, 41, .inl (upd (fun _ => 0) 0 0)))] := hD
  refine W.widen (k := 0) (n := 0) (Nat.le_of_ble_eq_true rfl) (Nat.le_of_ble_eq_true rfl) ?_
  obtain rfl : r_3 = none := hw
  refine W.eq (g2 := F0 m 19 ls [.null]) rfl ?_
  refine lv_astore_nN (lv' := [(3, .null), (0, .ref a0), (1, .int 1), (2, .int 0)]) hx hb dX6_level_19 rfl hl (by decide) rfl (fun ls hl => ?_)
  refine lv_iconst (v := 0) hx hb dX6_level_20 (by decide +kernel) ?_
  refine lv_istore (lv' := [(4, .int 0), (3, .null), (0, .ref a0), (1, .int 1), (2, .int 0)]) hx hb dX6_level_21 hl (by decide) rfl (fun ls hl => ?_)
  refine lv_iload hx hb dX6_level_23 (lv_at hl 0 rfl) ?_
  refine lv_bipush (v := 40) hx hb dX6_level_25 (by decide +kernel) ?_
  refine lv_icmp_ge (tgt := 104) hx hb dX6_level_27 (by decide) (fun c4 => absurd c4 (by decide +kernel)) (fun _ => ?_)
  refine lv_aload_nN hx hb dX6_level_30 rfl (lv_at hl 1 rfl) ?_
  refine lv_ifnullN (tgt := 104) hx hb dX6_level_31 (by decide) ?_
  refine lv_aload_nN hx hb dX6_level_104 rfl (lv_at hl 1 rfl) ?_
  refine W.widen (k := 0) (n := 0) (Nat.le_of_ble_eq_true rfl) (Nat.le_of_ble_eq_true rfl) ?_
  have hP9 := hP.sub (ws' := [(a0, .inr (8, [.ref a1, .int 0, .int 2, .int 0])), (a1, .inr (6, [.ref a4, .int 0, .ref a2, .ref a3, .ref a5, .ref a6, .int 1, .ref a7])), (a2, .inl (cy 0, 41, .inl (upd (fun _ => 0) 0 0))), (a3, .inl (cy 0, 41, .inl (upd (fun _ => 0) 0 0)))]) [0, 1, 2, 3] rfl
  have hD9 := hD.sub (ws' := [(a0, .inr (8, [.ref a1, .int 0, .int 2, .int 0])), (a1, .inr (6, [.ref a4, .int 0, .ref a2, .ref a3, .ref a5, .ref a6, .int 1, .ref a7])), (a2, .inl (cy 0, 41, .inl (upd (fun _ => 0) 0 0))), (a3, .inl (cy 0, 41, .inl (upd (fun _ => 0) 0 0)))]) [0, 1, 2, 3] (by decide) rfl
  exact W.aret (v := .null) hx hb hr (Or.inl ⟨_, rfl⟩) (Or.inl rfl) (fun t ht hW => ⟨⟨none, (), rfl, rfl, ⟨by rw [ht]; exact hP9, hD9⟩⟩, hS.F ht⟩) hS.2.2 dX6_level_105

set_option maxHeartbeats 1000000 in
set_option maxRecDepth 100000 in
theorem C_X6_level_6 (l : Launch) (D : va_G) (cy : Nat → ClassId) (sz0 : Nat) (sa : Nat → Nat) (a0 a1 a2 a3 a4 a5 a6 a7 : Nat) (sz : Nat)  : Met l yX6_level wsX6_level ({ frames := 11, cells := 0, slots := 0, locals := 260 }) (PcW D cy sz0 sa [.ref a0, .int 0, .int 0] [(a0, .inr (8, [.ref a1, .int 0, .int 0, .int (-1)])), (a1, .inr (6, [.ref a4, .int 0, .ref a2, .ref a3, .ref a5, .ref a6, .int 1, .ref a7])), (a2, .inl (cy 0, 41, .inl (upd (fun _ => 0) 0 0))), (a3, .inl (cy 0, 41, .inl (upd (fun _ => 0) 0 0)))] sz) (va_Qq (fun (r : Option Nat) (u : Unit) => r = none) (fun (u : Unit) (t : State) => BW D [(a0, .inr (8, [.ref a1, .int 0, .int 2, .int 0])), (a1, .inr (6, [.ref a4, .int 0, .ref a2, .ref a3, .ref a5, .ref a6, .int 1, .ref a7])), (a2, .inl (cy 0, 41, .inl (upd (fun _ => 0) 0 0))), (a3, .inl (cy 0, 41, .inl (upd (fun _ => 0) 0 0)))] (va_A [(a0, .inr (8, [.ref a1, .int 0, .int 0, .int (-1)])), (a1, .inr (6, [.ref a4, .int 0, .ref a2, .ref a3, .ref a5, .ref a6, .int 1, .ref a7])), (a2, .inl (cy 0, 41, .inl (upd (fun _ => 0) 0 0))), (a3, .inl (cy 0, 41, .inl (upd (fun _ => 0) 0 0)))] sz) t) (va_A [(a0, .inr (8, [.ref a1, .int 0, .int 0, .int (-1)])), (a1, .inr (6, [.ref a4, .int 0, .ref a2, .ref a3, .ref a5, .ref a6, .int 1, .ref a7])), (a2, .inl (cy 0, 41, .inl (upd (fun _ => 0) 0 0))), (a3, .inl (cy 0, 41, .inl (upd (fun _ => 0) 0 0)))] sz)) 0 0 (va_A [(a0, .inr (8, [.ref a1, .int 0, .int 0, .int (-1)])), (a1, .inr (6, [.ref a4, .int 0, .ref a2, .ref a3, .ref a5, .ref a6, .int 1, .ref a7])), (a2, .inl (cy 0, 41, .inl (upd (fun _ => 0) 0 0))), (a3, .inl (cy 0, 41, .inl (upd (fun _ => 0) 0 0)))] sz) := by
  refine Met.ofW (cc := cX6_level) (maxL := 7) (ret := (some (.object "PhraseDesk$Node"))) (by decide) rfl ?_
  intro p e s m args below meth c s₁ B hml hv
  obtain ⟨rfl, hsz, hP, hD0, hE⟩ := hv
  have hx := B.exec
  have hb := B.bytes
  have hr := B.returns
  have hts := atoms_spec (ws := wsX6_level) B.pre
  have hown : s.vm.findClass RX6 = some m.cls := findClass_of_methodNamed B.named
  have hlocks := B.notSynchronized
  subst hsz
  have hK := hE.1
  have hAm := hE.2.2.1
  have hWm := hE.2.2.2
  have hAO := hWm.2.2.2.1
  have hD := hD0.self (sz := s.heap.size)
  have hAF := frA hD0 hE.2.1
  generalize hAe : va_A [(a0, .inr (8, [.ref a1, .int 0, .int 0, .int (-1)])), (a1, .inr (6, [.ref a4, .int 0, .ref a2, .ref a3, .ref a5, .ref a6, .int 1, .ref a7])), (a2, .inl (cy 0, 41, .inl (upd (fun _ => 0) 0 0))), (a3, .inl (cy 0, 41, .inl (upd (fun _ => 0) 0 0)))] s.heap.size = A at hD hAF ⊢
  have hA : ∀ q : Nat, s.heap.size ≤ q → A q := fun q h => by rw [← hAe]; exact Or.inr h
  have hS : va_S A s.heap s.heap [] := va_S.rf
  have hl := lv_entry ([.ref a0, .int 0, .int 0]) (n := 7) (Nat.le_of_ble_eq_true rfl)
  rw [lg_entry_eq]
  generalize (lg_sl ([.ref a0, .int 0, .int 0]) ++ List.replicate (7 - (lg_sl ([.ref a0, .int 0, .int 0])).length) Slot.unset).toArray = ls at hl ⊢
  have hl : lv_has ls 7 [(0, .ref a0), (1, .int 0), (2, .int 0)] := hl
  have hP : va_P D vwCl [(a0, .inr (8, [.ref a1, .int 0, .int 0, .int (-1)])), (a1, .inr (6, [.ref a4, .int 0, .ref a2, .ref a3, .ref a5, .ref a6, .int 1, .ref a7])), (a2, .inl (cy 0, 41, .inl (upd (fun _ => 0) 0 0))), (a3, .inl (cy 0, 41, .inl (upd (fun _ => 0) 0 0)))] s.heap := hP
  refine lv_iload_n hx hb dX6_level_0 rfl (lv_at hl 1 rfl) ?_
  refine lv_iconst (v := 4) hx hb dX6_level_1 (by decide +kernel) ?_
  refine lv_icmp_le (tgt := 11) hx hb dX6_level_2 (by decide) (fun _ => ?_) (fun c1 => absurd (by decide +kernel) c1)
  refine lv_aload_n hx hb dX6_level_11 rfl (lv_at hl 0 rfl) ?_
  refine lv_iload_n hx hb dX6_level_12 rfl (lv_at hl 1 rfl) ?_
  refine lv_iconst (v := 1) hx hb dX6_level_13 (by decide +kernel) ?_
  refine lv_iadd hx hb dX6_level_14 ?_
  refine lv_topi (fun x2 ex2 => ?_)
  obtain rfl : x2 = 1 := ex2.trans (by decide +kernel)
  refine lv_iload_n hx hb dX6_level_15 rfl (lv_at hl 2 rfl) ?_
  have hPc := hP.sub (ws' := [(a0, .inr (8, [.ref a1, .int 0, .int 0, .int (-1)])), (a1, .inr (6, [.ref a4, .int 0, .ref a2, .ref a3, .ref a5, .ref a6, .int 1, .ref a7])), (a2, .inl (cy 0, 41, .inl (upd (fun _ => 0) 0 0))), (a3, .inl (cy 0, 41, .inl (upd (fun _ => 0) 0 0)))]) [0, 1, 2, 3] rfl
  have hDc := hD.sub (ws' := [(a0, .inr (8, [.ref a1, .int 0, .int 0, .int (-1)])), (a1, .inr (6, [.ref a4, .int 0, .ref a2, .ref a3, .ref a5, .ref a6, .int 1, .ref a7])), (a2, .inl (cy 0, 41, .inl (upd (fun _ => 0) 0 0))), (a3, .inl (cy 0, 41, .inl (upd (fun _ => 0) 0 0)))]) [0, 1, 2, 3] (by decide) rfl
  have hFc := va_free (wc := [(a0, .inr (8, [.ref a1, .int 0, .int 0, .int (-1)])), (a1, .inr (6, [.ref a4, .int 0, .ref a2, .ref a3, .ref a5, .ref a6, .int 1, .ref a7])), (a2, .inl (cy 0, 41, .inl (upd (fun _ => 0) 0 0))), (a3, .inl (cy 0, 41, .inl (upd (fun _ => 0) 0 0)))]) hD hS hA [0, 1, 2, 3] rfl
  refine va_callq (va_runV (As := [.int 1, .int 0]) (rest := []) ⟨hx, hb, hml, hown, hts⟩ (C_X6_level_5 l D cy sz0 sa a0 a1 a2 a3 a4 a5 a6 a7 s.heap.size) (cwV 2 hts gX6_level_X6_level rfl rfl rfl (by decide +kernel) ⟨Nat.le_of_ble_eq_true rfl, Nat.le_of_ble_eq_true rfl⟩) ⟨PcW.blind, va_recv hK hPc (ci := 8) (q0 := 0) rfl rfl, PcW.mk hE hS hAF hPc hDc⟩ rfl rfl hl.1 rfl (lv_room (Nat.le_of_ble_eq_true rfl)) dX6_level_16 ⟨Nat.le_of_ble_eq_true rfl, Nat.le_of_ble_eq_true rfl⟩) hS (fun q _ h => hFc q h) hFc (fun r_3 u t H1 locs ht hvm hw hB hz1 hk1 hS => ?_)
  obtain ⟨hP1, hD1⟩ := hB
  rw [ht] at hP1
  have hP1 : va_P D vwCl [(a0, .inr (8, [.ref a1, .int 0, .int 2, .int 0])), (a1, .inr (6, [.ref a4, .int 0, .ref a2, .ref a3, .ref a5, .ref a6, .int 1, .ref a7])), (a2, .inl (cy 0, 41, .inl (upd (fun _ => 0) 0 0))), (a3, .inl (cy 0, 41, .inl (upd (fun _ => 0) 0 0)))] H1 := hP1
  obtain ⟨hP, hD⟩ := va_join (wr := []) (w1 := [(a0, .inr (8, [.ref a1, .int 0, .int 2, .int 0])), (a1, .inr (6, [.ref a4, .int 0, .ref a2, .ref a3, .ref a5, .ref a6, .int 1, .ref a7])), (a2, .inl (cy 0, 41, .inl (upd (fun _ => 0) 0 0))), (a3, .inl (cy 0, 41, .inl (upd (fun _ => 0) 0 0)))]) hP hD [0, 1, 2, 3] [] rfl rfl (by decide) (by decide) hk1 hFc hP1 hD1
  clear hP1 hD1 hPc hDc hFc hk1 hz1
  generalize H1 = H at hP hS ⊢
  have hP : va_P D vwCl [(a0, .inr (8, [.ref a1, .int 0, .int 2, .int 0])), (a1, .inr (6, [.ref a4, .int 0, .ref a2, .ref a3, .ref a5, .ref a6, .int 1, .ref a7])), (a2, .inl (cy 0, 41, .inl (upd (fun _ => 0) 0 0))), (a3, .inl (cy 0, 41, .inl (upd (fun _ => 0) 0 0)))] H := hP
  have hD : va_D A [(a0, .inr (8, [.ref a1, .int 0, .int 2, .int 0])), (a1, .inr (6, [.ref a4, .int 0, .ref a2, .ref a3, .ref a5, .ref a6, .int 1, .ref a7])), (a2, .inl (cy 0, 41, .inl (upd (fun _ => 0) 0 0))), (a3, .inl (cy 0, 41, .inl (upd (fun _ => 0) 0 0)))] := hD
  refine W.widen (k := 0) (n := 0) (Nat.le_of_ble_eq_true rfl) (Nat.le_of_ble_eq_true rfl) ?_
  obtain rfl : r_3 = none := hw
  refine W.eq (g2 := F0 m 19 ls [.null]) rfl ?_
  refine lv_astore_nN (lv' := [(3, .null), (0, .ref a0), (1, .int 0), (2, .int 0)]) hx hb dX6_level_19 rfl hl (by decide) rfl (fun ls hl => ?_)
  refine lv_iconst (v := 0) hx hb dX6_level_20 (by decide +kernel) ?_
  refine lv_istore (lv' := [(4, .int 0), (3, .null), (0, .ref a0), (1, .int 0), (2, .int 0)]) hx hb dX6_level_21 hl (by decide) rfl (fun ls hl => ?_)
  refine lv_iload hx hb dX6_level_23 (lv_at hl 0 rfl) ?_
  refine lv_bipush (v := 40) hx hb dX6_level_25 (by decide +kernel) ?_
  refine lv_icmp_ge (tgt := 104) hx hb dX6_level_27 (by decide) (fun c4 => absurd c4 (by decide +kernel)) (fun _ => ?_)
  refine lv_aload_nN hx hb dX6_level_30 rfl (lv_at hl 1 rfl) ?_
  refine lv_ifnullN (tgt := 104) hx hb dX6_level_31 (by decide) ?_
  refine lv_aload_nN hx hb dX6_level_104 rfl (lv_at hl 1 rfl) ?_
  refine W.widen (k := 0) (n := 0) (Nat.le_of_ble_eq_true rfl) (Nat.le_of_ble_eq_true rfl) ?_
  have hP9 := hP.sub (ws' := [(a0, .inr (8, [.ref a1, .int 0, .int 2, .int 0])), (a1, .inr (6, [.ref a4, .int 0, .ref a2, .ref a3, .ref a5, .ref a6, .int 1, .ref a7])), (a2, .inl (cy 0, 41, .inl (upd (fun _ => 0) 0 0))), (a3, .inl (cy 0, 41, .inl (upd (fun _ => 0) 0 0)))]) [0, 1, 2, 3] rfl
  have hD9 := hD.sub (ws' := [(a0, .inr (8, [.ref a1, .int 0, .int 2, .int 0])), (a1, .inr (6, [.ref a4, .int 0, .ref a2, .ref a3, .ref a5, .ref a6, .int 1, .ref a7])), (a2, .inl (cy 0, 41, .inl (upd (fun _ => 0) 0 0))), (a3, .inl (cy 0, 41, .inl (upd (fun _ => 0) 0 0)))]) [0, 1, 2, 3] (by decide) rfl
  exact W.aret (v := .null) hx hb hr (Or.inl ⟨_, rfl⟩) (Or.inl rfl) (fun t ht hW => ⟨⟨none, (), rfl, rfl, ⟨by rw [ht]; exact hP9, hD9⟩⟩, hS.F ht⟩) hS.2.2 dX6_level_105

set_option maxHeartbeats 1000000 in
set_option maxRecDepth 100000 in
theorem C_X6_choice_1 (l : Launch) (D : va_G) (cy : Nat → ClassId) (sz0 : Nat) (sa : Nat → Nat) (a0 a1 a2 a3 a4 a5 a6 a7 : Nat) (sz : Nat)  : Met l yX6_choice wsX6_choice ({ frames := 12, cells := 0, slots := 0, locals := 286 }) (PcW D cy sz0 sa [.ref a0, .int 0] [(a0, .inr (8, [.ref a1, .int 0, .int 0, .int (-1)])), (a1, .inr (6, [.ref a4, .int 0, .ref a2, .ref a3, .ref a5, .ref a6, .int 1, .ref a7])), (a2, .inl (cy 0, 41, .inl (upd (fun _ => 0) 0 0))), (a3, .inl (cy 0, 41, .inl (upd (fun _ => 0) 0 0)))] sz) (va_Qq (fun (r : Option Nat) (u : Unit) => r = none) (fun (u : Unit) (t : State) => BW D [(a0, .inr (8, [.ref a1, .int 0, .int 2, .int 0])), (a1, .inr (6, [.ref a4, .int 0, .ref a2, .ref a3, .ref a5, .ref a6, .int 1, .ref a7])), (a2, .inl (cy 0, 41, .inl (upd (fun _ => 0) 0 0))), (a3, .inl (cy 0, 41, .inl (upd (fun _ => 0) 0 0)))] (va_A [(a0, .inr (8, [.ref a1, .int 0, .int 0, .int (-1)])), (a1, .inr (6, [.ref a4, .int 0, .ref a2, .ref a3, .ref a5, .ref a6, .int 1, .ref a7])), (a2, .inl (cy 0, 41, .inl (upd (fun _ => 0) 0 0))), (a3, .inl (cy 0, 41, .inl (upd (fun _ => 0) 0 0)))] sz) t) (va_A [(a0, .inr (8, [.ref a1, .int 0, .int 0, .int (-1)])), (a1, .inr (6, [.ref a4, .int 0, .ref a2, .ref a3, .ref a5, .ref a6, .int 1, .ref a7])), (a2, .inl (cy 0, 41, .inl (upd (fun _ => 0) 0 0))), (a3, .inl (cy 0, 41, .inl (upd (fun _ => 0) 0 0)))] sz)) 0 0 (va_A [(a0, .inr (8, [.ref a1, .int 0, .int 0, .int (-1)])), (a1, .inr (6, [.ref a4, .int 0, .ref a2, .ref a3, .ref a5, .ref a6, .int 1, .ref a7])), (a2, .inl (cy 0, 41, .inl (upd (fun _ => 0) 0 0))), (a3, .inl (cy 0, 41, .inl (upd (fun _ => 0) 0 0)))] sz) := by
  refine Met.ofW (cc := cX6_choice) (maxL := 4) (ret := (some (.object "PhraseDesk$Node"))) (by decide) rfl ?_
  intro p e s m args below meth c s₁ B hml hv
  obtain ⟨rfl, hsz, hP, hD0, hE⟩ := hv
  have hx := B.exec
  have hb := B.bytes
  have hr := B.returns
  have hts := atoms_spec (ws := wsX6_choice) B.pre
  have hown : s.vm.findClass RX6 = some m.cls := findClass_of_methodNamed B.named
  have hlocks := B.notSynchronized
  subst hsz
  have hK := hE.1
  have hAm := hE.2.2.1
  have hWm := hE.2.2.2
  have hAO := hWm.2.2.2.1
  have hD := hD0.self (sz := s.heap.size)
  have hAF := frA hD0 hE.2.1
  generalize hAe : va_A [(a0, .inr (8, [.ref a1, .int 0, .int 0, .int (-1)])), (a1, .inr (6, [.ref a4, .int 0, .ref a2, .ref a3, .ref a5, .ref a6, .int 1, .ref a7])), (a2, .inl (cy 0, 41, .inl (upd (fun _ => 0) 0 0))), (a3, .inl (cy 0, 41, .inl (upd (fun _ => 0) 0 0)))] s.heap.size = A at hD hAF ⊢
  have hA : ∀ q : Nat, s.heap.size ≤ q → A q := fun q h => by rw [← hAe]; exact Or.inr h
  have hS : va_S A s.heap s.heap [] := va_S.rf
  have hl := lv_entry ([.ref a0, .int 0]) (n := 4) (Nat.le_of_ble_eq_true rfl)
  rw [lg_entry_eq]
  generalize (lg_sl ([.ref a0, .int 0]) ++ List.replicate (4 - (lg_sl ([.ref a0, .int 0])).length) Slot.unset).toArray = ls at hl ⊢
  have hl : lv_has ls 4 [(0, .ref a0), (1, .int 0)] := hl
  have hP : va_P D vwCl [(a0, .inr (8, [.ref a1, .int 0, .int 0, .int (-1)])), (a1, .inr (6, [.ref a4, .int 0, .ref a2, .ref a3, .ref a5, .ref a6, .int 1, .ref a7])), (a2, .inl (cy 0, 41, .inl (upd (fun _ => 0) 0 0))), (a3, .inl (cy 0, 41, .inl (upd (fun _ => 0) 0 0)))] s.heap := hP
  refine lv_iload_n hx hb dX6_choice_0 rfl (lv_at hl 1 rfl) ?_
  refine lv_iconst (v := 4) hx hb dX6_choice_1 (by decide +kernel) ?_
  refine lv_icmp_le (tgt := 11) hx hb dX6_choice_2 (by decide) (fun _ => ?_) (fun c1 => absurd (by decide +kernel) c1)
  refine lv_aload_n hx hb dX6_choice_11 rfl (lv_at hl 0 rfl) ?_
  refine lv_iconst (v := 0) hx hb dX6_choice_12 (by decide +kernel) ?_
  refine lv_iload_n hx hb dX6_choice_13 rfl (lv_at hl 1 rfl) ?_
  have hPc := hP.sub (ws' := [(a0, .inr (8, [.ref a1, .int 0, .int 0, .int (-1)])), (a1, .inr (6, [.ref a4, .int 0, .ref a2, .ref a3, .ref a5, .ref a6, .int 1, .ref a7])), (a2, .inl (cy 0, 41, .inl (upd (fun _ => 0) 0 0))), (a3, .inl (cy 0, 41, .inl (upd (fun _ => 0) 0 0)))]) [0, 1, 2, 3] rfl
  have hDc := hD.sub (ws' := [(a0, .inr (8, [.ref a1, .int 0, .int 0, .int (-1)])), (a1, .inr (6, [.ref a4, .int 0, .ref a2, .ref a3, .ref a5, .ref a6, .int 1, .ref a7])), (a2, .inl (cy 0, 41, .inl (upd (fun _ => 0) 0 0))), (a3, .inl (cy 0, 41, .inl (upd (fun _ => 0) 0 0)))]) [0, 1, 2, 3] (by decide) rfl
  have hFc := va_free (wc := [(a0, .inr (8, [.ref a1, .int 0, .int 0, .int (-1)])), (a1, .inr (6, [.ref a4, .int 0, .ref a2, .ref a3, .ref a5, .ref a6, .int 1, .ref a7])), (a2, .inl (cy 0, 41, .inl (upd (fun _ => 0) 0 0))), (a3, .inl (cy 0, 41, .inl (upd (fun _ => 0) 0 0)))]) hD hS hA [0, 1, 2, 3] rfl
  refine va_callq (va_runV (As := [.int 0, .int 0]) (rest := []) ⟨hx, hb, hml, hown, hts⟩ (C_X6_level_6 l D cy sz0 sa a0 a1 a2 a3 a4 a5 a6 a7 s.heap.size) (cwV 2 hts gX6_choice_X6_level rfl rfl rfl (by decide +kernel) ⟨Nat.le_of_ble_eq_true rfl, Nat.le_of_ble_eq_true rfl⟩) ⟨PcW.blind, va_recv hK hPc (ci := 8) (q0 := 0) rfl rfl, PcW.mk hE hS hAF hPc hDc⟩ rfl rfl hl.1 rfl (lv_room (Nat.le_of_ble_eq_true rfl)) dX6_choice_14 ⟨Nat.le_of_ble_eq_true rfl, Nat.le_of_ble_eq_true rfl⟩) hS (fun q _ h => hFc q h) hFc (fun r_2 u t H1 locs ht hvm hw hB hz1 hk1 hS => ?_)
  obtain ⟨hP1, hD1⟩ := hB
  rw [ht] at hP1
  have hP1 : va_P D vwCl [(a0, .inr (8, [.ref a1, .int 0, .int 2, .int 0])), (a1, .inr (6, [.ref a4, .int 0, .ref a2, .ref a3, .ref a5, .ref a6, .int 1, .ref a7])), (a2, .inl (cy 0, 41, .inl (upd (fun _ => 0) 0 0))), (a3, .inl (cy 0, 41, .inl (upd (fun _ => 0) 0 0)))] H1 := hP1
  obtain ⟨hP, hD⟩ := va_join (wr := []) (w1 := [(a0, .inr (8, [.ref a1, .int 0, .int 2, .int 0])), (a1, .inr (6, [.ref a4, .int 0, .ref a2, .ref a3, .ref a5, .ref a6, .int 1, .ref a7])), (a2, .inl (cy 0, 41, .inl (upd (fun _ => 0) 0 0))), (a3, .inl (cy 0, 41, .inl (upd (fun _ => 0) 0 0)))]) hP hD [0, 1, 2, 3] [] rfl rfl (by decide) (by decide) hk1 hFc hP1 hD1
  clear hP1 hD1 hPc hDc hFc hk1 hz1
  generalize H1 = H at hP hS ⊢
  have hP : va_P D vwCl [(a0, .inr (8, [.ref a1, .int 0, .int 2, .int 0])), (a1, .inr (6, [.ref a4, .int 0, .ref a2, .ref a3, .ref a5, .ref a6, .int 1, .ref a7])), (a2, .inl (cy 0, 41, .inl (upd (fun _ => 0) 0 0))), (a3, .inl (cy 0, 41, .inl (upd (fun _ => 0) 0 0)))] H := hP
  have hD : va_D A [(a0, .inr (8, [.ref a1, .int 0, .int 2, .int 0])), (a1, .inr (6, [.ref a4, .int 0, .ref a2, .ref a3, .ref a5, .ref a6, .int 1, .ref a7])), (a2, .inl (cy 0, 41, .inl (upd (fun _ => 0) 0 0))), (a3, .inl (cy 0, 41, .inl (upd (fun _ => 0) 0 0)))] := hD
  refine W.widen (k := 0) (n := 0) (Nat.le_of_ble_eq_true rfl) (Nat.le_of_ble_eq_true rfl) ?_
  obtain rfl : r_2 = none := hw
  refine W.eq (g2 := F0 m 17 ls [.null]) rfl ?_
  refine lv_astore_nN (lv' := [(2, .null), (0, .ref a0), (1, .int 0)]) hx hb dX6_choice_17 rfl hl (by decide) rfl (fun ls hl => ?_)
  refine lv_aload_nN hx hb dX6_choice_18 rfl (lv_at hl 0 rfl) ?_
  refine lv_ifnonnullN hx hb dX6_choice_19 ?_
  refine lv_null hx hb dX6_choice_22 ?_
  refine W.widen (k := 0) (n := 0) (Nat.le_of_ble_eq_true rfl) (Nat.le_of_ble_eq_true rfl) ?_
  have hP9 := hP.sub (ws' := [(a0, .inr (8, [.ref a1, .int 0, .int 2, .int 0])), (a1, .inr (6, [.ref a4, .int 0, .ref a2, .ref a3, .ref a5, .ref a6, .int 1, .ref a7])), (a2, .inl (cy 0, 41, .inl (upd (fun _ => 0) 0 0))), (a3, .inl (cy 0, 41, .inl (upd (fun _ => 0) 0 0)))]) [0, 1, 2, 3] rfl
  have hD9 := hD.sub (ws' := [(a0, .inr (8, [.ref a1, .int 0, .int 2, .int 0])), (a1, .inr (6, [.ref a4, .int 0, .ref a2, .ref a3, .ref a5, .ref a6, .int 1, .ref a7])), (a2, .inl (cy 0, 41, .inl (upd (fun _ => 0) 0 0))), (a3, .inl (cy 0, 41, .inl (upd (fun _ => 0) 0 0)))]) [0, 1, 2, 3] (by decide) rfl
  exact W.aret (v := .null) hx hb hr (Or.inl ⟨_, rfl⟩) (Or.inl rfl) (fun t ht hW => ⟨⟨none, (), rfl, rfl, ⟨by rw [ht]; exact hP9, hD9⟩⟩, hS.F ht⟩) hS.2.2 dX6_choice_23

set_option maxHeartbeats 1000000 in
set_option maxRecDepth 100000 in
theorem C_X6_phrase_1 (l : Launch) (D : va_G) (cy : Nat → ClassId) (sz0 : Nat) (sa : Nat → Nat) (a0 a1 a2 a3 a4 a5 a6 a7 : Nat) (sz : Nat)  : Met l yX6_phrase wsX6_phrase ({ frames := 13, cells := 0, slots := 0, locals := 309 }) (PcW D cy sz0 sa [.ref a0] [(a0, .inr (8, [.ref a1, .int 0, .int 0, .int (-1)])), (a1, .inr (6, [.ref a4, .int 0, .ref a2, .ref a3, .ref a5, .ref a6, .int 1, .ref a7])), (a2, .inl (cy 0, 41, .inl (upd (fun _ => 0) 0 0))), (a3, .inl (cy 0, 41, .inl (upd (fun _ => 0) 0 0)))] sz) (va_Qq (fun (r : Option Nat) (u : Unit) => r = none) (fun (u : Unit) (t : State) => BW D [(a0, .inr (8, [.ref a1, .int 0, .int 2, .int 0])), (a1, .inr (6, [.ref a4, .int 0, .ref a2, .ref a3, .ref a5, .ref a6, .int 1, .ref a7])), (a2, .inl (cy 0, 41, .inl (upd (fun _ => 0) 0 0))), (a3, .inl (cy 0, 41, .inl (upd (fun _ => 0) 0 0)))] (va_A [(a0, .inr (8, [.ref a1, .int 0, .int 0, .int (-1)])), (a1, .inr (6, [.ref a4, .int 0, .ref a2, .ref a3, .ref a5, .ref a6, .int 1, .ref a7])), (a2, .inl (cy 0, 41, .inl (upd (fun _ => 0) 0 0))), (a3, .inl (cy 0, 41, .inl (upd (fun _ => 0) 0 0)))] sz) t) (va_A [(a0, .inr (8, [.ref a1, .int 0, .int 0, .int (-1)])), (a1, .inr (6, [.ref a4, .int 0, .ref a2, .ref a3, .ref a5, .ref a6, .int 1, .ref a7])), (a2, .inl (cy 0, 41, .inl (upd (fun _ => 0) 0 0))), (a3, .inl (cy 0, 41, .inl (upd (fun _ => 0) 0 0)))] sz)) 0 0 (va_A [(a0, .inr (8, [.ref a1, .int 0, .int 0, .int (-1)])), (a1, .inr (6, [.ref a4, .int 0, .ref a2, .ref a3, .ref a5, .ref a6, .int 1, .ref a7])), (a2, .inl (cy 0, 41, .inl (upd (fun _ => 0) 0 0))), (a3, .inl (cy 0, 41, .inl (upd (fun _ => 0) 0 0)))] sz) := by
  refine Met.ofW (cc := cX6_phrase) (maxL := 4) (ret := (some (.object "PhraseDesk$Node"))) (by decide) rfl ?_
  intro p e s m args below meth c s₁ B hml hv
  obtain ⟨rfl, hsz, hP, hD0, hE⟩ := hv
  have hx := B.exec
  have hb := B.bytes
  have hr := B.returns
  have hts := atoms_spec (ws := wsX6_phrase) B.pre
  have hown : s.vm.findClass RX6 = some m.cls := findClass_of_methodNamed B.named
  have hlocks := B.notSynchronized
  subst hsz
  have hK := hE.1
  have hAm := hE.2.2.1
  have hWm := hE.2.2.2
  have hAO := hWm.2.2.2.1
  have hD := hD0.self (sz := s.heap.size)
  have hAF := frA hD0 hE.2.1
  generalize hAe : va_A [(a0, .inr (8, [.ref a1, .int 0, .int 0, .int (-1)])), (a1, .inr (6, [.ref a4, .int 0, .ref a2, .ref a3, .ref a5, .ref a6, .int 1, .ref a7])), (a2, .inl (cy 0, 41, .inl (upd (fun _ => 0) 0 0))), (a3, .inl (cy 0, 41, .inl (upd (fun _ => 0) 0 0)))] s.heap.size = A at hD hAF ⊢
  have hA : ∀ q : Nat, s.heap.size ≤ q → A q := fun q h => by rw [← hAe]; exact Or.inr h
  have hS : va_S A s.heap s.heap [] := va_S.rf
  have hl := lv_entry ([.ref a0]) (n := 4) (Nat.le_of_ble_eq_true rfl)
  rw [lg_entry_eq]
  generalize (lg_sl ([.ref a0]) ++ List.replicate (4 - (lg_sl ([.ref a0])).length) Slot.unset).toArray = ls at hl ⊢
  have hl : lv_has ls 4 [(0, .ref a0)] := hl
  have hP : va_P D vwCl [(a0, .inr (8, [.ref a1, .int 0, .int 0, .int (-1)])), (a1, .inr (6, [.ref a4, .int 0, .ref a2, .ref a3, .ref a5, .ref a6, .int 1, .ref a7])), (a2, .inl (cy 0, 41, .inl (upd (fun _ => 0) 0 0))), (a3, .inl (cy 0, 41, .inl (upd (fun _ => 0) 0 0)))] s.heap := hP
  refine lv_aload_n hx hb dX6_phrase_0 rfl (lv_at hl 0 rfl) ?_
  refine lv_iconst (v := 0) hx hb dX6_phrase_1 (by decide +kernel) ?_
  have hPc := hP.sub (ws' := [(a0, .inr (8, [.ref a1, .int 0, .int 0, .int (-1)])), (a1, .inr (6, [.ref a4, .int 0, .ref a2, .ref a3, .ref a5, .ref a6, .int 1, .ref a7])), (a2, .inl (cy 0, 41, .inl (upd (fun _ => 0) 0 0))), (a3, .inl (cy 0, 41, .inl (upd (fun _ => 0) 0 0)))]) [0, 1, 2, 3] rfl
  have hDc := hD.sub (ws' := [(a0, .inr (8, [.ref a1, .int 0, .int 0, .int (-1)])), (a1, .inr (6, [.ref a4, .int 0, .ref a2, .ref a3, .ref a5, .ref a6, .int 1, .ref a7])), (a2, .inl (cy 0, 41, .inl (upd (fun _ => 0) 0 0))), (a3, .inl (cy 0, 41, .inl (upd (fun _ => 0) 0 0)))]) [0, 1, 2, 3] (by decide) rfl
  have hFc := va_free (wc := [(a0, .inr (8, [.ref a1, .int 0, .int 0, .int (-1)])), (a1, .inr (6, [.ref a4, .int 0, .ref a2, .ref a3, .ref a5, .ref a6, .int 1, .ref a7])), (a2, .inl (cy 0, 41, .inl (upd (fun _ => 0) 0 0))), (a3, .inl (cy 0, 41, .inl (upd (fun _ => 0) 0 0)))]) hD hS hA [0, 1, 2, 3] rfl
  refine va_callq (va_runV (As := [.int 0]) (rest := []) ⟨hx, hb, hml, hown, hts⟩ (C_X6_choice_1 l D cy sz0 sa a0 a1 a2 a3 a4 a5 a6 a7 s.heap.size) (cwV 1 hts gX6_phrase_X6_choice rfl rfl rfl (by decide +kernel) ⟨Nat.le_of_ble_eq_true rfl, Nat.le_of_ble_eq_true rfl⟩) ⟨PcW.blind, va_recv hK hPc (ci := 8) (q0 := 0) rfl rfl, PcW.mk hE hS hAF hPc hDc⟩ rfl rfl hl.1 rfl (lv_room (Nat.le_of_ble_eq_true rfl)) dX6_phrase_2 ⟨Nat.le_of_ble_eq_true rfl, Nat.le_of_ble_eq_true rfl⟩) hS (fun q _ h => hFc q h) hFc (fun r_1 u t H1 locs ht hvm hw hB hz1 hk1 hS => ?_)
  obtain ⟨hP1, hD1⟩ := hB
  rw [ht] at hP1
  have hP1 : va_P D vwCl [(a0, .inr (8, [.ref a1, .int 0, .int 2, .int 0])), (a1, .inr (6, [.ref a4, .int 0, .ref a2, .ref a3, .ref a5, .ref a6, .int 1, .ref a7])), (a2, .inl (cy 0, 41, .inl (upd (fun _ => 0) 0 0))), (a3, .inl (cy 0, 41, .inl (upd (fun _ => 0) 0 0)))] H1 := hP1
  obtain ⟨hP, hD⟩ := va_join (wr := []) (w1 := [(a0, .inr (8, [.ref a1, .int 0, .int 2, .int 0])), (a1, .inr (6, [.ref a4, .int 0, .ref a2, .ref a3, .ref a5, .ref a6, .int 1, .ref a7])), (a2, .inl (cy 0, 41, .inl (upd (fun _ => 0) 0 0))), (a3, .inl (cy 0, 41, .inl (upd (fun _ => 0) 0 0)))]) hP hD [0, 1, 2, 3] [] rfl rfl (by decide) (by decide) hk1 hFc hP1 hD1
  clear hP1 hD1 hPc hDc hFc hk1 hz1
  generalize H1 = H at hP hS ⊢
  have hP : va_P D vwCl [(a0, .inr (8, [.ref a1, .int 0, .int 2, .int 0])), (a1, .inr (6, [.ref a4, .int 0, .ref a2, .ref a3, .ref a5, .ref a6, .int 1, .ref a7])), (a2, .inl (cy 0, 41, .inl (upd (fun _ => 0) 0 0))), (a3, .inl (cy 0, 41, .inl (upd (fun _ => 0) 0 0)))] H := hP
  have hD : va_D A [(a0, .inr (8, [.ref a1, .int 0, .int 2, .int 0])), (a1, .inr (6, [.ref a4, .int 0, .ref a2, .ref a3, .ref a5, .ref a6, .int 1, .ref a7])), (a2, .inl (cy 0, 41, .inl (upd (fun _ => 0) 0 0))), (a3, .inl (cy 0, 41, .inl (upd (fun _ => 0) 0 0)))] := hD
  refine W.widen (k := 0) (n := 0) (Nat.le_of_ble_eq_true rfl) (Nat.le_of_ble_eq_true rfl) ?_
  obtain rfl : r_1 = none := hw
  refine W.eq (g2 := F0 m 5 ls [.null]) rfl ?_
  refine lv_astore_nN (lv' := [(1, .null), (0, .ref a0)]) hx hb dX6_phrase_5 rfl hl (by decide) rfl (fun ls hl => ?_)
  refine lv_aload_nN hx hb dX6_phrase_6 rfl (lv_at hl 0 rfl) ?_
  refine lv_astore_nN (lv' := [(2, .null), (1, .null), (0, .ref a0)]) hx hb dX6_phrase_7 rfl hl (by decide) rfl (fun ls hl => ?_)
  refine lv_aload_nN hx hb dX6_phrase_8 rfl (lv_at hl 1 rfl) ?_
  refine lv_ifnullN (tgt := 61) hx hb dX6_phrase_9 (by decide) ?_
  refine lv_aload_nN hx hb dX6_phrase_61 rfl (lv_at hl 0 rfl) ?_
  refine lv_ifnullN (tgt := 80) hx hb dX6_phrase_62 (by decide) ?_
  refine lv_aload_nN hx hb dX6_phrase_80 rfl (lv_at hl 0 rfl) ?_
  refine W.widen (k := 0) (n := 0) (Nat.le_of_ble_eq_true rfl) (Nat.le_of_ble_eq_true rfl) ?_
  have hP9 := hP.sub (ws' := [(a0, .inr (8, [.ref a1, .int 0, .int 2, .int 0])), (a1, .inr (6, [.ref a4, .int 0, .ref a2, .ref a3, .ref a5, .ref a6, .int 1, .ref a7])), (a2, .inl (cy 0, 41, .inl (upd (fun _ => 0) 0 0))), (a3, .inl (cy 0, 41, .inl (upd (fun _ => 0) 0 0)))]) [0, 1, 2, 3] rfl
  have hD9 := hD.sub (ws' := [(a0, .inr (8, [.ref a1, .int 0, .int 2, .int 0])), (a1, .inr (6, [.ref a4, .int 0, .ref a2, .ref a3, .ref a5, .ref a6, .int 1, .ref a7])), (a2, .inl (cy 0, 41, .inl (upd (fun _ => 0) 0 0))), (a3, .inl (cy 0, 41, .inl (upd (fun _ => 0) 0 0)))]) [0, 1, 2, 3] (by decide) rfl
  exact W.aret (v := .null) hx hb hr (Or.inl ⟨_, rfl⟩) (Or.inl rfl) (fun t ht hW => ⟨⟨none, (), rfl, rfl, ⟨by rw [ht]; exact hP9, hD9⟩⟩, hS.F ht⟩) hS.2.2 dX6_phrase_81

set_option maxHeartbeats 1000000 in
set_option maxRecDepth 100000 in
theorem C_X6_read_1 (l : Launch) (D : va_G) (cy : Nat → ClassId) (sz0 : Nat) (sa : Nat → Nat) (a0 a1 a2 a3 a4 a5 a6 a7 : Nat) (sz : Nat)  : Met l yX6_read wsX6_read ({ frames := 14, cells := 0, slots := 0, locals := 332 }) (PcW D cy sz0 sa [.ref a0] [(a0, .inr (8, [.ref a1, .int 0, .int 0, .int 0])), (a1, .inr (6, [.ref a6, .int 0, .ref a2, .ref a3, .ref a4, .ref a5, .int 0, .ref a7])), (a2, .inl (cy 0, 41, .inl (fun _ => 0))), (a3, .inl (cy 0, 41, .inl (fun _ => 0))), (a4, .inl (cy 0, 41, .inl (fun _ => 0))), (a5, .inl (cy 6, 41, .inr (.inr (.inr (.inr (fun _ => none))))))] sz) (va_Qq (fun (r : Option Nat) (u : Unit) => r = none) (fun (u : Unit) (t : State) => BW D [(a0, .inr (8, [.ref a1, .int 0, .int 2, .int 0])), (a1, .inr (6, [.ref a6, .int 0, .ref a2, .ref a3, .ref a4, .ref a5, .int 1, .ref a7])), (a2, .inl (cy 0, 41, .inl (upd (fun _ => 0) 0 0))), (a3, .inl (cy 0, 41, .inl (upd (fun _ => 0) 0 0))), (a4, .inl (cy 0, 41, .inl (upd (fun _ => 0) 0 0))), (a5, .inl (cy 6, 41, .inr (.inr (.inr (.inr (va_up (fun _ => none) 0 none))))))] (va_A [(a0, .inr (8, [.ref a1, .int 0, .int 0, .int 0])), (a1, .inr (6, [.ref a6, .int 0, .ref a2, .ref a3, .ref a4, .ref a5, .int 0, .ref a7])), (a2, .inl (cy 0, 41, .inl (fun _ => 0))), (a3, .inl (cy 0, 41, .inl (fun _ => 0))), (a4, .inl (cy 0, 41, .inl (fun _ => 0))), (a5, .inl (cy 6, 41, .inr (.inr (.inr (.inr (fun _ => none))))))] sz) t) (va_A [(a0, .inr (8, [.ref a1, .int 0, .int 0, .int 0])), (a1, .inr (6, [.ref a6, .int 0, .ref a2, .ref a3, .ref a4, .ref a5, .int 0, .ref a7])), (a2, .inl (cy 0, 41, .inl (fun _ => 0))), (a3, .inl (cy 0, 41, .inl (fun _ => 0))), (a4, .inl (cy 0, 41, .inl (fun _ => 0))), (a5, .inl (cy 6, 41, .inr (.inr (.inr (.inr (fun _ => none))))))] sz)) 0 0 (va_A [(a0, .inr (8, [.ref a1, .int 0, .int 0, .int 0])), (a1, .inr (6, [.ref a6, .int 0, .ref a2, .ref a3, .ref a4, .ref a5, .int 0, .ref a7])), (a2, .inl (cy 0, 41, .inl (fun _ => 0))), (a3, .inl (cy 0, 41, .inl (fun _ => 0))), (a4, .inl (cy 0, 41, .inl (fun _ => 0))), (a5, .inl (cy 6, 41, .inr (.inr (.inr (.inr (fun _ => none))))))] sz) := by
  refine Met.ofW (cc := cX6_read) (maxL := 2) (ret := (some (.object "PhraseDesk$Node"))) (by decide) rfl ?_
  intro p e s m args below meth c s₁ B hml hv
  obtain ⟨rfl, hsz, hP, hD0, hE⟩ := hv
  have hx := B.exec
  have hb := B.bytes
  have hr := B.returns
  have hts := atoms_spec (ws := wsX6_read) B.pre
  have hown : s.vm.findClass RX6 = some m.cls := findClass_of_methodNamed B.named
  have hlocks := B.notSynchronized
  subst hsz
  have hK := hE.1
  have hAm := hE.2.2.1
  have hWm := hE.2.2.2
  have hAO := hWm.2.2.2.1
  have hD := hD0.self (sz := s.heap.size)
  have hAF := frA hD0 hE.2.1
  generalize hAe : va_A [(a0, .inr (8, [.ref a1, .int 0, .int 0, .int 0])), (a1, .inr (6, [.ref a6, .int 0, .ref a2, .ref a3, .ref a4, .ref a5, .int 0, .ref a7])), (a2, .inl (cy 0, 41, .inl (fun _ => 0))), (a3, .inl (cy 0, 41, .inl (fun _ => 0))), (a4, .inl (cy 0, 41, .inl (fun _ => 0))), (a5, .inl (cy 6, 41, .inr (.inr (.inr (.inr (fun _ => none))))))] s.heap.size = A at hD hAF ⊢
  have hA : ∀ q : Nat, s.heap.size ≤ q → A q := fun q h => by rw [← hAe]; exact Or.inr h
  have hS : va_S A s.heap s.heap [] := va_S.rf
  have hl := lv_entry ([.ref a0]) (n := 2) (Nat.le_of_ble_eq_true rfl)
  rw [lg_entry_eq]
  generalize (lg_sl ([.ref a0]) ++ List.replicate (2 - (lg_sl ([.ref a0])).length) Slot.unset).toArray = ls at hl ⊢
  have hl : lv_has ls 2 [(0, .ref a0)] := hl
  have hP : va_P D vwCl [(a0, .inr (8, [.ref a1, .int 0, .int 0, .int 0])), (a1, .inr (6, [.ref a6, .int 0, .ref a2, .ref a3, .ref a4, .ref a5, .int 0, .ref a7])), (a2, .inl (cy 0, 41, .inl (fun _ => 0))), (a3, .inl (cy 0, 41, .inl (fun _ => 0))), (a4, .inl (cy 0, 41, .inl (fun _ => 0))), (a5, .inl (cy 6, 41, .inr (.inr (.inr (.inr (fun _ => none))))))] s.heap := hP
  refine lv_aload_n hx hb dX6_read_0 rfl (lv_at hl 0 rfl) ?_
  refine lv_iconst (v := 0) hx hb dX6_read_1 (by decide +kernel) ?_
  refine va_put (D := D) (ci := 8) (v := .int 0) (ty := .int) (C := RX6) (T := TX6) (N := 4) hx hb hts (fun _ h => List.mem_cons_of_mem _ (List.mem_append_left _ (List.mem_append_left _ (List.mem_append_left _ (List.mem_append_left _ (List.mem_append_left _ (List.mem_append_right _ h))))))) tyX6 tyX6_ok nmX6 hown hK hP hD hS 0 rfl rfl 1 (by decide) (hts (.fieldLink RX6 18 "PhraseDesk$Parser" "at" "I") (List.mem_of_getElem? (i := 1) rfl)) (fun _ h9 => h9) rfl (by decide +kernel) rfl rfl (Nat.le_of_ble_eq_true rfl) dX6_read_2 (fun H locs hP hD hS => ?_)
  have hP : va_P D vwCl [(a0, .inr (8, [.ref a1, .int 0, .int 0, .int 0])), (a1, .inr (6, [.ref a6, .int 0, .ref a2, .ref a3, .ref a4, .ref a5, .int 0, .ref a7])), (a2, .inl (cy 0, 41, .inl (fun _ => 0))), (a3, .inl (cy 0, 41, .inl (fun _ => 0))), (a4, .inl (cy 0, 41, .inl (fun _ => 0))), (a5, .inl (cy 6, 41, .inr (.inr (.inr (.inr (fun _ => none))))))] H := hP
  have hD : va_D A [(a0, .inr (8, [.ref a1, .int 0, .int 0, .int 0])), (a1, .inr (6, [.ref a6, .int 0, .ref a2, .ref a3, .ref a4, .ref a5, .int 0, .ref a7])), (a2, .inl (cy 0, 41, .inl (fun _ => 0))), (a3, .inl (cy 0, 41, .inl (fun _ => 0))), (a4, .inl (cy 0, 41, .inl (fun _ => 0))), (a5, .inl (cy 6, 41, .inr (.inr (.inr (.inr (fun _ => none))))))] := hD
  refine lv_aload_n hx hb dX6_read_5 rfl (lv_at hl 0 rfl) ?_
  refine lv_iconst (v := 0) hx hb dX6_read_6 (by decide +kernel) ?_
  refine va_put (D := D) (ci := 8) (v := .int 0) (ty := .int) (C := RX6) (T := TX6) (N := 4) hx hb hts (fun _ h => List.mem_cons_of_mem _ (List.mem_append_left _ (List.mem_append_left _ (List.mem_append_left _ (List.mem_append_left _ (List.mem_append_left _ (List.mem_append_right _ h))))))) tyX6 tyX6_ok nmX6 hown hK hP hD hS 0 rfl rfl 2 (by decide) (hts (.fieldLink RX6 22 "PhraseDesk$Parser" "error" "I") (List.mem_of_getElem? (i := 2) rfl)) (fun _ h9 => h9) rfl (by decide +kernel) rfl rfl (Nat.le_of_ble_eq_true rfl) dX6_read_7 (fun H locs hP hD hS => ?_)
  have hP : va_P D vwCl [(a0, .inr (8, [.ref a1, .int 0, .int 0, .int 0])), (a1, .inr (6, [.ref a6, .int 0, .ref a2, .ref a3, .ref a4, .ref a5, .int 0, .ref a7])), (a2, .inl (cy 0, 41, .inl (fun _ => 0))), (a3, .inl (cy 0, 41, .inl (fun _ => 0))), (a4, .inl (cy 0, 41, .inl (fun _ => 0))), (a5, .inl (cy 6, 41, .inr (.inr (.inr (.inr (fun _ => none))))))] H := hP
  have hD : va_D A [(a0, .inr (8, [.ref a1, .int 0, .int 0, .int 0])), (a1, .inr (6, [.ref a6, .int 0, .ref a2, .ref a3, .ref a4, .ref a5, .int 0, .ref a7])), (a2, .inl (cy 0, 41, .inl (fun _ => 0))), (a3, .inl (cy 0, 41, .inl (fun _ => 0))), (a4, .inl (cy 0, 41, .inl (fun _ => 0))), (a5, .inl (cy 6, 41, .inr (.inr (.inr (.inr (fun _ => none))))))] := hD
  refine lv_aload_n hx hb dX6_read_10 rfl (lv_at hl 0 rfl) ?_
  refine lv_aload_n hx hb dX6_read_11 rfl (lv_at hl 0 rfl) ?_
  refine va_get (D := D) (ci := 8) (v := .ref a1) (C := RX6) (T := TX6) (N := 4) hx hb hts (fun _ h => List.mem_cons_of_mem _ (List.mem_append_left _ (List.mem_append_left _ (List.mem_append_left _ (List.mem_append_left _ (List.mem_append_left _ (List.mem_append_right _ h))))))) hown hK hP 0 rfl rfl 0 (by decide) (hts (.fieldLink RX6 12 "PhraseDesk$Parser" "lexer" "LPhraseDesk$Lexer;") (List.mem_of_getElem? (i := 3) rfl)) (fun _ h9 => h9) rfl dX6_read_12 ?_
  have hPc := hP.sub (ws' := [(a1, .inr (6, [.ref a6, .int 0, .ref a2, .ref a3, .ref a4, .ref a5, .int 0, .ref a7])), (a2, .inl (cy 0, 41, .inl (fun _ => 0))), (a3, .inl (cy 0, 41, .inl (fun _ => 0))), (a4, .inl (cy 0, 41, .inl (fun _ => 0))), (a5, .inl (cy 6, 41, .inr (.inr (.inr (.inr (fun _ => none))))))]) [1, 2, 3, 4, 5] rfl
  have hDc := hD.sub (ws' := [(a1, .inr (6, [.ref a6, .int 0, .ref a2, .ref a3, .ref a4, .ref a5, .int 0, .ref a7])), (a2, .inl (cy 0, 41, .inl (fun _ => 0))), (a3, .inl (cy 0, 41, .inl (fun _ => 0))), (a4, .inl (cy 0, 41, .inl (fun _ => 0))), (a5, .inl (cy 6, 41, .inr (.inr (.inr (.inr (fun _ => none))))))]) [1, 2, 3, 4, 5] (by decide) rfl
  have hFc := va_free (wc := [(a1, .inr (6, [.ref a6, .int 0, .ref a2, .ref a3, .ref a4, .ref a5, .int 0, .ref a7])), (a2, .inl (cy 0, 41, .inl (fun _ => 0))), (a3, .inl (cy 0, 41, .inl (fun _ => 0))), (a4, .inl (cy 0, 41, .inl (fun _ => 0))), (a5, .inl (cy 6, 41, .inr (.inr (.inr (.inr (fun _ => none))))))]) hD hS hA [1, 2, 3, 4, 5] rfl
  refine va_calli (va_runV (As := []) (rest := [.ref a0]) ⟨hx, hb, hml, hown, hts⟩ (C_X4_cut_1 l D cy sz0 sa a1 a2 a3 a4 a5 a6 a7 H.size) (cwV 0 hts gX6_read_X4_cut rfl rfl rfl (by decide +kernel) ⟨Nat.le_of_ble_eq_true rfl, Nat.le_of_ble_eq_true rfl⟩) ⟨PcW.blind, va_recv hK hPc (ci := 6) (q0 := 0) rfl rfl, PcW.mk hE hS hAF hPc hDc⟩ rfl rfl hl.1 rfl (lv_room (Nat.le_of_ble_eq_true rfl)) dX6_read_15 ⟨Nat.le_of_ble_eq_true rfl, Nat.le_of_ble_eq_true rfl⟩) hS (fun q _ h => hFc q h) hFc (fun r_1 u t H1 locs ht hvm hw hB hz1 hk1 hS => ?_)
  obtain ⟨hP1, hD1⟩ := hB
  rw [ht] at hP1
  have hP1 : va_P D vwCl [(a1, .inr (6, [.ref a6, .int 0, .ref a2, .ref a3, .ref a4, .ref a5, .int 1, .ref a7])), (a2, .inl (cy 0, 41, .inl (upd (fun _ => 0) 0 0))), (a3, .inl (cy 0, 41, .inl (upd (fun _ => 0) 0 0))), (a4, .inl (cy 0, 41, .inl (upd (fun _ => 0) 0 0))), (a5, .inl (cy 6, 41, .inr (.inr (.inr (.inr (va_up (fun _ => none) 0 none))))))] H1 := hP1
  obtain ⟨hP, hD⟩ := va_join (wr := [(a0, .inr (8, [.ref a1, .int 0, .int 0, .int 0]))]) (w1 := [(a1, .inr (6, [.ref a6, .int 0, .ref a2, .ref a3, .ref a4, .ref a5, .int 1, .ref a7])), (a2, .inl (cy 0, 41, .inl (upd (fun _ => 0) 0 0))), (a3, .inl (cy 0, 41, .inl (upd (fun _ => 0) 0 0))), (a4, .inl (cy 0, 41, .inl (upd (fun _ => 0) 0 0))), (a5, .inl (cy 6, 41, .inr (.inr (.inr (.inr (va_up (fun _ => none) 0 none))))))]) hP hD [1, 2, 3, 4, 5] [0] rfl rfl (by decide) (by decide) hk1 hFc hP1 hD1
  clear hP1 hD1 hPc hDc hFc hk1 hz1
  generalize H1 = H at hP hS ⊢
  have hP : va_P D vwCl [(a0, .inr (8, [.ref a1, .int 0, .int 0, .int 0])), (a1, .inr (6, [.ref a6, .int 0, .ref a2, .ref a3, .ref a4, .ref a5, .int 1, .ref a7])), (a2, .inl (cy 0, 41, .inl (upd (fun _ => 0) 0 0))), (a3, .inl (cy 0, 41, .inl (upd (fun _ => 0) 0 0))), (a4, .inl (cy 0, 41, .inl (upd (fun _ => 0) 0 0))), (a5, .inl (cy 6, 41, .inr (.inr (.inr (.inr (va_up (fun _ => none) 0 none))))))] H := hP
  have hD : va_D A [(a0, .inr (8, [.ref a1, .int 0, .int 0, .int 0])), (a1, .inr (6, [.ref a6, .int 0, .ref a2, .ref a3, .ref a4, .ref a5, .int 1, .ref a7])), (a2, .inl (cy 0, 41, .inl (upd (fun _ => 0) 0 0))), (a3, .inl (cy 0, 41, .inl (upd (fun _ => 0) 0 0))), (a4, .inl (cy 0, 41, .inl (upd (fun _ => 0) 0 0))), (a5, .inl (cy 6, 41, .inr (.inr (.inr (.inr (va_up (fun _ => none) 0 none))))))] := hD
  refine W.widen (k := 0) (n := 0) (Nat.le_of_ble_eq_true rfl) (Nat.le_of_ble_eq_true rfl) ?_
  obtain rfl : r_1 = (-1) := hw
  refine va_put (D := D) (ci := 8) (v := .int (-1)) (ty := .int) (C := RX6) (T := TX6) (N := 4) hx hb hts (fun _ h => List.mem_cons_of_mem _ (List.mem_append_left _ (List.mem_append_left _ (List.mem_append_left _ (List.mem_append_left _ (List.mem_append_left _ (List.mem_append_right _ h))))))) tyX6 tyX6_ok nmX6 hown hK hP hD hS 0 rfl rfl 3 (by decide) (hts (.fieldLink RX6 29 "PhraseDesk$Parser" "place" "I") (List.mem_of_getElem? (i := 4) rfl)) (fun _ h9 => h9) rfl (by decide +kernel) rfl rfl (Nat.le_of_ble_eq_true rfl) dX6_read_18 (fun H locs hP hD hS => ?_)
  have hP : va_P D vwCl [(a0, .inr (8, [.ref a1, .int 0, .int 0, .int (-1)])), (a1, .inr (6, [.ref a6, .int 0, .ref a2, .ref a3, .ref a4, .ref a5, .int 1, .ref a7])), (a2, .inl (cy 0, 41, .inl (upd (fun _ => 0) 0 0))), (a3, .inl (cy 0, 41, .inl (upd (fun _ => 0) 0 0))), (a4, .inl (cy 0, 41, .inl (upd (fun _ => 0) 0 0))), (a5, .inl (cy 6, 41, .inr (.inr (.inr (.inr (va_up (fun _ => none) 0 none))))))] H := hP
  have hD : va_D A [(a0, .inr (8, [.ref a1, .int 0, .int 0, .int (-1)])), (a1, .inr (6, [.ref a6, .int 0, .ref a2, .ref a3, .ref a4, .ref a5, .int 1, .ref a7])), (a2, .inl (cy 0, 41, .inl (upd (fun _ => 0) 0 0))), (a3, .inl (cy 0, 41, .inl (upd (fun _ => 0) 0 0))), (a4, .inl (cy 0, 41, .inl (upd (fun _ => 0) 0 0))), (a5, .inl (cy 6, 41, .inr (.inr (.inr (.inr (va_up (fun _ => none) 0 none))))))] := hD
  refine lv_null hx hb dX6_read_21 ?_
  refine lv_astore_nN (lv' := [(1, .null), (0, .ref a0)]) hx hb dX6_read_22 rfl hl (by decide) rfl (fun ls hl => ?_)
  refine lv_aload_n hx hb dX6_read_23 rfl (lv_at hl 1 rfl) ?_
  refine va_get (D := D) (ci := 8) (v := .int (-1)) (C := RX6) (T := TX6) (N := 4) hx hb hts (fun _ h => List.mem_cons_of_mem _ (List.mem_append_left _ (List.mem_append_left _ (List.mem_append_left _ (List.mem_append_left _ (List.mem_append_left _ (List.mem_append_right _ h))))))) hown hK hP 0 rfl rfl 3 (by decide) (hts (.fieldLink RX6 29 "PhraseDesk$Parser" "place" "I") (List.mem_of_getElem? (i := 4) rfl)) (fun _ h9 => h9) rfl dX6_read_24 ?_
  refine lv_iconst (v := (-1)) hx hb dX6_read_27 (by decide +kernel) ?_
  refine lv_icmp_ne (tgt := 39) hx hb dX6_read_28 (by decide) (fun c2 => absurd (by decide +kernel) c2) (fun _ => ?_)
  refine lv_aload_n hx hb dX6_read_31 rfl (lv_at hl 1 rfl) ?_
  have hPc := hP.sub (ws' := [(a0, .inr (8, [.ref a1, .int 0, .int 0, .int (-1)])), (a1, .inr (6, [.ref a6, .int 0, .ref a2, .ref a3, .ref a4, .ref a5, .int 1, .ref a7])), (a2, .inl (cy 0, 41, .inl (upd (fun _ => 0) 0 0))), (a3, .inl (cy 0, 41, .inl (upd (fun _ => 0) 0 0)))]) [0, 1, 2, 3] rfl
  have hDc := hD.sub (ws' := [(a0, .inr (8, [.ref a1, .int 0, .int 0, .int (-1)])), (a1, .inr (6, [.ref a6, .int 0, .ref a2, .ref a3, .ref a4, .ref a5, .int 1, .ref a7])), (a2, .inl (cy 0, 41, .inl (upd (fun _ => 0) 0 0))), (a3, .inl (cy 0, 41, .inl (upd (fun _ => 0) 0 0)))]) [0, 1, 2, 3] (by decide) rfl
  have hFc := va_free (wc := [(a0, .inr (8, [.ref a1, .int 0, .int 0, .int (-1)])), (a1, .inr (6, [.ref a6, .int 0, .ref a2, .ref a3, .ref a4, .ref a5, .int 1, .ref a7])), (a2, .inl (cy 0, 41, .inl (upd (fun _ => 0) 0 0))), (a3, .inl (cy 0, 41, .inl (upd (fun _ => 0) 0 0)))]) hD hS hA [0, 1, 2, 3] rfl
  refine va_callq (va_runV (As := []) (rest := []) ⟨hx, hb, hml, hown, hts⟩ (C_X6_phrase_1 l D cy sz0 sa a0 a1 a2 a3 a6 a4 a5 a7 H.size) (cwV 0 hts gX6_read_X6_phrase rfl rfl rfl (by decide +kernel) ⟨Nat.le_of_ble_eq_true rfl, Nat.le_of_ble_eq_true rfl⟩) ⟨PcW.blind, va_recv hK hPc (ci := 8) (q0 := 0) rfl rfl, PcW.mk hE hS hAF hPc hDc⟩ rfl rfl hl.1 rfl (lv_room (Nat.le_of_ble_eq_true rfl)) dX6_read_32 ⟨Nat.le_of_ble_eq_true rfl, Nat.le_of_ble_eq_true rfl⟩) hS (fun q _ h => hFc q h) hFc (fun r_3 u t H1 locs ht hvm hw hB hz1 hk1 hS => ?_)
  obtain ⟨hP1, hD1⟩ := hB
  rw [ht] at hP1
  have hP1 : va_P D vwCl [(a0, .inr (8, [.ref a1, .int 0, .int 2, .int 0])), (a1, .inr (6, [.ref a6, .int 0, .ref a2, .ref a3, .ref a4, .ref a5, .int 1, .ref a7])), (a2, .inl (cy 0, 41, .inl (upd (fun _ => 0) 0 0))), (a3, .inl (cy 0, 41, .inl (upd (fun _ => 0) 0 0)))] H1 := hP1
  obtain ⟨hP, hD⟩ := va_join (wr := [(a4, .inl (cy 0, 41, .inl (upd (fun _ => 0) 0 0))), (a5, .inl (cy 6, 41, .inr (.inr (.inr (.inr (va_up (fun _ => none) 0 none))))))]) (w1 := [(a0, .inr (8, [.ref a1, .int 0, .int 2, .int 0])), (a1, .inr (6, [.ref a6, .int 0, .ref a2, .ref a3, .ref a4, .ref a5, .int 1, .ref a7])), (a2, .inl (cy 0, 41, .inl (upd (fun _ => 0) 0 0))), (a3, .inl (cy 0, 41, .inl (upd (fun _ => 0) 0 0)))]) hP hD [0, 1, 2, 3] [4, 5] rfl rfl (by decide) (by decide) hk1 hFc hP1 hD1
  clear hP1 hD1 hPc hDc hFc hk1 hz1
  generalize H1 = H at hP hS ⊢
  have hP : va_P D vwCl [(a4, .inl (cy 0, 41, .inl (upd (fun _ => 0) 0 0))), (a5, .inl (cy 6, 41, .inr (.inr (.inr (.inr (va_up (fun _ => none) 0 none)))))), (a0, .inr (8, [.ref a1, .int 0, .int 2, .int 0])), (a1, .inr (6, [.ref a6, .int 0, .ref a2, .ref a3, .ref a4, .ref a5, .int 1, .ref a7])), (a2, .inl (cy 0, 41, .inl (upd (fun _ => 0) 0 0))), (a3, .inl (cy 0, 41, .inl (upd (fun _ => 0) 0 0)))] H := hP
  have hD : va_D A [(a4, .inl (cy 0, 41, .inl (upd (fun _ => 0) 0 0))), (a5, .inl (cy 6, 41, .inr (.inr (.inr (.inr (va_up (fun _ => none) 0 none)))))), (a0, .inr (8, [.ref a1, .int 0, .int 2, .int 0])), (a1, .inr (6, [.ref a6, .int 0, .ref a2, .ref a3, .ref a4, .ref a5, .int 1, .ref a7])), (a2, .inl (cy 0, 41, .inl (upd (fun _ => 0) 0 0))), (a3, .inl (cy 0, 41, .inl (upd (fun _ => 0) 0 0)))] := hD
  refine W.widen (k := 0) (n := 0) (Nat.le_of_ble_eq_true rfl) (Nat.le_of_ble_eq_true rfl) ?_
  obtain rfl : r_3 = none := hw
  refine W.eq (g2 := F0 m 35 ls [.null]) rfl ?_
  refine lv_astore_nN (lv' := [(1, .null), (0, .ref a0)]) hx hb dX6_read_35 rfl hl (by decide) rfl (fun ls hl => ?_)
  refine lv_goto (tgt := 44) hx hb dX6_read_36 (by decide) ?_
  refine lv_aload_n hx hb dX6_read_44 rfl (lv_at hl 1 rfl) ?_
  refine va_get (D := D) (ci := 8) (v := .ref a1) (C := RX6) (T := TX6) (N := 4) hx hb hts (fun _ h => List.mem_cons_of_mem _ (List.mem_append_left _ (List.mem_append_left _ (List.mem_append_left _ (List.mem_append_left _ (List.mem_append_left _ (List.mem_append_right _ h))))))) hown hK hP 2 rfl rfl 0 (by decide) (hts (.fieldLink RX6 12 "PhraseDesk$Parser" "lexer" "LPhraseDesk$Lexer;") (List.mem_of_getElem? (i := 3) rfl)) (fun _ h9 => h9) rfl dX6_read_45 ?_
  refine lv_iconst (v := 0) hx hb dX6_read_48 (by decide +kernel) ?_
  refine va_put (D := D) (ci := 6) (v := .int 0) (ty := .int) (C := RX4) (T := TX4) (N := 8) hx hb hts (fun _ h => List.mem_cons_of_mem _ (List.mem_append_left _ (List.mem_append_left _ (List.mem_append_left _ (List.mem_append_left _ (List.mem_append_right _ h)))))) tyX4 tyX4_ok nmX4 hown hK hP hD hS 3 rfl rfl 1 (by decide) (hts (.fieldLink RX6 36 "PhraseDesk$Lexer" "length" "I") (List.mem_of_getElem? (i := 5) rfl)) (fun _ h9 => h9) rfl (by decide +kernel) rfl rfl (Nat.le_of_ble_eq_true rfl) dX6_read_49 (fun H locs hP hD hS => ?_)
  have hP : va_P D vwCl [(a4, .inl (cy 0, 41, .inl (upd (fun _ => 0) 0 0))), (a5, .inl (cy 6, 41, .inr (.inr (.inr (.inr (va_up (fun _ => none) 0 none)))))), (a0, .inr (8, [.ref a1, .int 0, .int 2, .int 0])), (a1, .inr (6, [.ref a6, .int 0, .ref a2, .ref a3, .ref a4, .ref a5, .int 1, .ref a7])), (a2, .inl (cy 0, 41, .inl (upd (fun _ => 0) 0 0))), (a3, .inl (cy 0, 41, .inl (upd (fun _ => 0) 0 0)))] H := hP
  have hD : va_D A [(a4, .inl (cy 0, 41, .inl (upd (fun _ => 0) 0 0))), (a5, .inl (cy 6, 41, .inr (.inr (.inr (.inr (va_up (fun _ => none) 0 none)))))), (a0, .inr (8, [.ref a1, .int 0, .int 2, .int 0])), (a1, .inr (6, [.ref a6, .int 0, .ref a2, .ref a3, .ref a4, .ref a5, .int 1, .ref a7])), (a2, .inl (cy 0, 41, .inl (upd (fun _ => 0) 0 0))), (a3, .inl (cy 0, 41, .inl (upd (fun _ => 0) 0 0)))] := hD
  refine lv_aload_nN hx hb dX6_read_52 rfl (lv_at hl 0 rfl) ?_
  refine W.widen (k := 0) (n := 0) (Nat.le_of_ble_eq_true rfl) (Nat.le_of_ble_eq_true rfl) ?_
  have hP9 := hP.sub (ws' := [(a0, .inr (8, [.ref a1, .int 0, .int 2, .int 0])), (a1, .inr (6, [.ref a6, .int 0, .ref a2, .ref a3, .ref a4, .ref a5, .int 1, .ref a7])), (a2, .inl (cy 0, 41, .inl (upd (fun _ => 0) 0 0))), (a3, .inl (cy 0, 41, .inl (upd (fun _ => 0) 0 0))), (a4, .inl (cy 0, 41, .inl (upd (fun _ => 0) 0 0))), (a5, .inl (cy 6, 41, .inr (.inr (.inr (.inr (va_up (fun _ => none) 0 none))))))]) [2, 3, 4, 5, 0, 1] rfl
  have hD9 := hD.sub (ws' := [(a0, .inr (8, [.ref a1, .int 0, .int 2, .int 0])), (a1, .inr (6, [.ref a6, .int 0, .ref a2, .ref a3, .ref a4, .ref a5, .int 1, .ref a7])), (a2, .inl (cy 0, 41, .inl (upd (fun _ => 0) 0 0))), (a3, .inl (cy 0, 41, .inl (upd (fun _ => 0) 0 0))), (a4, .inl (cy 0, 41, .inl (upd (fun _ => 0) 0 0))), (a5, .inl (cy 6, 41, .inr (.inr (.inr (.inr (va_up (fun _ => none) 0 none))))))]) [2, 3, 4, 5, 0, 1] (by decide) rfl
  exact W.aret (v := .null) hx hb hr (Or.inl ⟨_, rfl⟩) (Or.inl rfl) (fun t ht hW => ⟨⟨none, (), rfl, rfl, ⟨by rw [ht]; exact hP9, hD9⟩⟩, hS.F ht⟩) hS.2.2 dX6_read_53

set_option maxHeartbeats 1000000 in
set_option maxRecDepth 100000 in
theorem C_X11_parse_1 (l : Launch) (D : va_G) (cy : Nat → ClassId) (sz0 : Nat) (sa : Nat → Nat) (a0 a1 a2 a3 a4 a5 a6 a7 a8 a9 a10 a11 a12 a13 : Nat) (sz : Nat)  : Met l yX11_parse wsX11_parse ({ frames := 15, cells := 0, slots := 0, locals := 353 }) (PcW D cy sz0 sa [.ref a0] [(a0, .inr (13, [.ref a2, .ref a8, .ref a1, .int 0, .ref a9, .int 0, .ref a10, .int 0, .ref a11])), (a1, .inl (cy 7, 40, .inr (.inr (.inr (.inr (fun _ => none)))))), (a2, .inr (8, [.ref a3, .int 0, .int 0, .int 0])), (a3, .inr (6, [.ref a12, .int 0, .ref a4, .ref a5, .ref a6, .ref a7, .int 0, .ref a13])), (a4, .inl (cy 0, 41, .inl (fun _ => 0))), (a5, .inl (cy 0, 41, .inl (fun _ => 0))), (a6, .inl (cy 0, 41, .inl (fun _ => 0))), (a7, .inl (cy 6, 41, .inr (.inr (.inr (.inr (fun _ => none))))))] sz) (va_Qi (fun (r : Int32) (u : Unit) => r = (-2000)) (fun (_ : Unit) (_ : State) => True) (va_A [(a0, .inr (13, [.ref a2, .ref a8, .ref a1, .int 0, .ref a9, .int 0, .ref a10, .int 0, .ref a11])), (a1, .inl (cy 7, 40, .inr (.inr (.inr (.inr (fun _ => none)))))), (a2, .inr (8, [.ref a3, .int 0, .int 0, .int 0])), (a3, .inr (6, [.ref a12, .int 0, .ref a4, .ref a5, .ref a6, .ref a7, .int 0, .ref a13])), (a4, .inl (cy 0, 41, .inl (fun _ => 0))), (a5, .inl (cy 0, 41, .inl (fun _ => 0))), (a6, .inl (cy 0, 41, .inl (fun _ => 0))), (a7, .inl (cy 6, 41, .inr (.inr (.inr (.inr (fun _ => none))))))] sz)) 0 0 (va_A [(a0, .inr (13, [.ref a2, .ref a8, .ref a1, .int 0, .ref a9, .int 0, .ref a10, .int 0, .ref a11])), (a1, .inl (cy 7, 40, .inr (.inr (.inr (.inr (fun _ => none)))))), (a2, .inr (8, [.ref a3, .int 0, .int 0, .int 0])), (a3, .inr (6, [.ref a12, .int 0, .ref a4, .ref a5, .ref a6, .ref a7, .int 0, .ref a13])), (a4, .inl (cy 0, 41, .inl (fun _ => 0))), (a5, .inl (cy 0, 41, .inl (fun _ => 0))), (a6, .inl (cy 0, 41, .inl (fun _ => 0))), (a7, .inl (cy 6, 41, .inr (.inr (.inr (.inr (fun _ => none))))))] sz) := by
  refine Met.ofW (cc := cX11_parse) (maxL := 2) (ret := (some .int)) (by decide) rfl ?_
  intro p e s m args below meth c s₁ B hml hv
  obtain ⟨rfl, hsz, hP, hD0, hE⟩ := hv
  have hx := B.exec
  have hb := B.bytes
  have hr := B.returns
  have hts := atoms_spec (ws := wsX11_parse) B.pre
  have hown : s.vm.findClass RX11 = some m.cls := findClass_of_methodNamed B.named
  have hlocks := B.notSynchronized
  subst hsz
  have hK := hE.1
  have hAm := hE.2.2.1
  have hWm := hE.2.2.2
  have hAO := hWm.2.2.2.1
  have hD := hD0.self (sz := s.heap.size)
  have hAF := frA hD0 hE.2.1
  generalize hAe : va_A [(a0, .inr (13, [.ref a2, .ref a8, .ref a1, .int 0, .ref a9, .int 0, .ref a10, .int 0, .ref a11])), (a1, .inl (cy 7, 40, .inr (.inr (.inr (.inr (fun _ => none)))))), (a2, .inr (8, [.ref a3, .int 0, .int 0, .int 0])), (a3, .inr (6, [.ref a12, .int 0, .ref a4, .ref a5, .ref a6, .ref a7, .int 0, .ref a13])), (a4, .inl (cy 0, 41, .inl (fun _ => 0))), (a5, .inl (cy 0, 41, .inl (fun _ => 0))), (a6, .inl (cy 0, 41, .inl (fun _ => 0))), (a7, .inl (cy 6, 41, .inr (.inr (.inr (.inr (fun _ => none))))))] s.heap.size = A at hD hAF ⊢
  have hA : ∀ q : Nat, s.heap.size ≤ q → A q := fun q h => by rw [← hAe]; exact Or.inr h
  have hS : va_S A s.heap s.heap [] := va_S.rf
  have hl := lv_entry ([.ref a0]) (n := 2) (Nat.le_of_ble_eq_true rfl)
  rw [lg_entry_eq]
  generalize (lg_sl ([.ref a0]) ++ List.replicate (2 - (lg_sl ([.ref a0])).length) Slot.unset).toArray = ls at hl ⊢
  have hl : lv_has ls 2 [(0, .ref a0)] := hl
  have hP : va_P D vwCl [(a0, .inr (13, [.ref a2, .ref a8, .ref a1, .int 0, .ref a9, .int 0, .ref a10, .int 0, .ref a11])), (a1, .inl (cy 7, 40, .inr (.inr (.inr (.inr (fun _ => none)))))), (a2, .inr (8, [.ref a3, .int 0, .int 0, .int 0])), (a3, .inr (6, [.ref a12, .int 0, .ref a4, .ref a5, .ref a6, .ref a7, .int 0, .ref a13])), (a4, .inl (cy 0, 41, .inl (fun _ => 0))), (a5, .inl (cy 0, 41, .inl (fun _ => 0))), (a6, .inl (cy 0, 41, .inl (fun _ => 0))), (a7, .inl (cy 6, 41, .inr (.inr (.inr (.inr (fun _ => none))))))] s.heap := hP
  refine lv_aload_n hx hb dX11_parse_0 rfl (lv_at hl 0 rfl) ?_
  refine va_get (D := D) (ci := 13) (v := .int 0) (C := RX11) (T := TX11) (N := 9) hx hb hts (fun _ h => List.mem_cons_of_mem _ (List.mem_append_left _ (List.mem_append_left _ (List.mem_append_left _ (List.mem_append_left _ (List.mem_append_left _ (List.mem_append_left _ (List.mem_append_left _ (List.mem_append_right _ h))))))))) hown hK hP 0 rfl rfl 3 (by decide) (hts (.fieldLink RX11 75 "PhraseDesk" "programCount" "I") (List.mem_of_getElem? (i := 3) rfl)) (fun _ h9 => h9) rfl dX11_parse_1 ?_
  refine lv_aload_n hx hb dX11_parse_4 rfl (lv_at hl 0 rfl) ?_
  refine va_get (D := D) (ci := 13) (v := .ref a1) (C := RX11) (T := TX11) (N := 9) hx hb hts (fun _ h => List.mem_cons_of_mem _ (List.mem_append_left _ (List.mem_append_left _ (List.mem_append_left _ (List.mem_append_left _ (List.mem_append_left _ (List.mem_append_left _ (List.mem_append_left _ (List.mem_append_right _ h))))))))) hown hK hP 0 rfl rfl 2 (by decide) (hts (.fieldLink RX11 25 "PhraseDesk" "programs" "[LPhraseDesk$Node;") (List.mem_of_getElem? (i := 4) rfl)) (fun _ h9 => h9) rfl dX11_parse_5 ?_
  refine va_alen (v := 40) hx hb hK hP 1 7 rfl rfl rfl dX11_parse_8 ?_
  refine lv_icmp_lt (tgt := 22) hx hb dX11_parse_9 (by decide) (fun _ => ?_) (fun c1 => absurd (by decide +kernel) c1)
  refine lv_aload_n hx hb dX11_parse_22 rfl (lv_at hl 0 rfl) ?_
  refine va_get (D := D) (ci := 13) (v := .ref a2) (C := RX11) (T := TX11) (N := 9) hx hb hts (fun _ h => List.mem_cons_of_mem _ (List.mem_append_left _ (List.mem_append_left _ (List.mem_append_left _ (List.mem_append_left _ (List.mem_append_left _ (List.mem_append_left _ (List.mem_append_left _ (List.mem_append_right _ h))))))))) hown hK hP 0 rfl rfl 0 (by decide) (hts (.fieldLink RX11 10 "PhraseDesk" "parser" "LPhraseDesk$Parser;") (List.mem_of_getElem? (i := 5) rfl)) (fun _ h9 => h9) rfl dX11_parse_23 ?_
  have hPc := hP.sub (ws' := [(a2, .inr (8, [.ref a3, .int 0, .int 0, .int 0])), (a3, .inr (6, [.ref a12, .int 0, .ref a4, .ref a5, .ref a6, .ref a7, .int 0, .ref a13])), (a4, .inl (cy 0, 41, .inl (fun _ => 0))), (a5, .inl (cy 0, 41, .inl (fun _ => 0))), (a6, .inl (cy 0, 41, .inl (fun _ => 0))), (a7, .inl (cy 6, 41, .inr (.inr (.inr (.inr (fun _ => none))))))]) [2, 3, 4, 5, 6, 7] rfl
  have hDc := hD.sub (ws' := [(a2, .inr (8, [.ref a3, .int 0, .int 0, .int 0])), (a3, .inr (6, [.ref a12, .int 0, .ref a4, .ref a5, .ref a6, .ref a7, .int 0, .ref a13])), (a4, .inl (cy 0, 41, .inl (fun _ => 0))), (a5, .inl (cy 0, 41, .inl (fun _ => 0))), (a6, .inl (cy 0, 41, .inl (fun _ => 0))), (a7, .inl (cy 6, 41, .inr (.inr (.inr (.inr (fun _ => none))))))]) [2, 3, 4, 5, 6, 7] (by decide) rfl
  have hFc := va_free (wc := [(a2, .inr (8, [.ref a3, .int 0, .int 0, .int 0])), (a3, .inr (6, [.ref a12, .int 0, .ref a4, .ref a5, .ref a6, .ref a7, .int 0, .ref a13])), (a4, .inl (cy 0, 41, .inl (fun _ => 0))), (a5, .inl (cy 0, 41, .inl (fun _ => 0))), (a6, .inl (cy 0, 41, .inl (fun _ => 0))), (a7, .inl (cy 6, 41, .inr (.inr (.inr (.inr (fun _ => none))))))]) hD hS hA [2, 3, 4, 5, 6, 7] rfl
  refine va_callq (va_runV (As := []) (rest := []) ⟨hx, hb, hml, hown, hts⟩ (C_X6_read_1 l D cy sz0 sa a2 a3 a4 a5 a6 a7 a12 a13 s.heap.size) (cwV 0 hts gX11_parse_X6_read rfl rfl rfl (by decide +kernel) ⟨Nat.le_of_ble_eq_true rfl, Nat.le_of_ble_eq_true rfl⟩) ⟨PcW.blind, va_recv hK hPc (ci := 8) (q0 := 0) rfl rfl, PcW.mk hE hS hAF hPc hDc⟩ rfl rfl hl.1 rfl (lv_room (Nat.le_of_ble_eq_true rfl)) dX11_parse_26 ⟨Nat.le_of_ble_eq_true rfl, Nat.le_of_ble_eq_true rfl⟩) hS (fun q _ h => hFc q h) hFc (fun r_2 u t H1 locs ht hvm hw hB hz1 hk1 hS => ?_)
  obtain ⟨hP1, hD1⟩ := hB
  rw [ht] at hP1
  have hP1 : va_P D vwCl [(a2, .inr (8, [.ref a3, .int 0, .int 2, .int 0])), (a3, .inr (6, [.ref a12, .int 0, .ref a4, .ref a5, .ref a6, .ref a7, .int 1, .ref a13])), (a4, .inl (cy 0, 41, .inl (upd (fun _ => 0) 0 0))), (a5, .inl (cy 0, 41, .inl (upd (fun _ => 0) 0 0))), (a6, .inl (cy 0, 41, .inl (upd (fun _ => 0) 0 0))), (a7, .inl (cy 6, 41, .inr (.inr (.inr (.inr (va_up (fun _ => none) 0 none))))))] H1 := hP1
  obtain ⟨hP, hD⟩ := va_join (wr := [(a0, .inr (13, [.ref a2, .ref a8, .ref a1, .int 0, .ref a9, .int 0, .ref a10, .int 0, .ref a11])), (a1, .inl (cy 7, 40, .inr (.inr (.inr (.inr (fun _ => none))))))]) (w1 := [(a2, .inr (8, [.ref a3, .int 0, .int 2, .int 0])), (a3, .inr (6, [.ref a12, .int 0, .ref a4, .ref a5, .ref a6, .ref a7, .int 1, .ref a13])), (a4, .inl (cy 0, 41, .inl (upd (fun _ => 0) 0 0))), (a5, .inl (cy 0, 41, .inl (upd (fun _ => 0) 0 0))), (a6, .inl (cy 0, 41, .inl (upd (fun _ => 0) 0 0))), (a7, .inl (cy 6, 41, .inr (.inr (.inr (.inr (va_up (fun _ => none) 0 none))))))]) hP hD [2, 3, 4, 5, 6, 7] [0, 1] rfl rfl (by decide) (by decide) hk1 hFc hP1 hD1
  clear hP1 hD1 hPc hDc hFc hk1 hz1
  generalize H1 = H at hP hS ⊢
  have hP : va_P D vwCl [(a0, .inr (13, [.ref a2, .ref a8, .ref a1, .int 0, .ref a9, .int 0, .ref a10, .int 0, .ref a11])), (a1, .inl (cy 7, 40, .inr (.inr (.inr (.inr (fun _ => none)))))), (a2, .inr (8, [.ref a3, .int 0, .int 2, .int 0])), (a3, .inr (6, [.ref a12, .int 0, .ref a4, .ref a5, .ref a6, .ref a7, .int 1, .ref a13])), (a4, .inl (cy 0, 41, .inl (upd (fun _ => 0) 0 0))), (a5, .inl (cy 0, 41, .inl (upd (fun _ => 0) 0 0))), (a6, .inl (cy 0, 41, .inl (upd (fun _ => 0) 0 0))), (a7, .inl (cy 6, 41, .inr (.inr (.inr (.inr (va_up (fun _ => none) 0 none))))))] H := hP
  have hD : va_D A [(a0, .inr (13, [.ref a2, .ref a8, .ref a1, .int 0, .ref a9, .int 0, .ref a10, .int 0, .ref a11])), (a1, .inl (cy 7, 40, .inr (.inr (.inr (.inr (fun _ => none)))))), (a2, .inr (8, [.ref a3, .int 0, .int 2, .int 0])), (a3, .inr (6, [.ref a12, .int 0, .ref a4, .ref a5, .ref a6, .ref a7, .int 1, .ref a13])), (a4, .inl (cy 0, 41, .inl (upd (fun _ => 0) 0 0))), (a5, .inl (cy 0, 41, .inl (upd (fun _ => 0) 0 0))), (a6, .inl (cy 0, 41, .inl (upd (fun _ => 0) 0 0))), (a7, .inl (cy 6, 41, .inr (.inr (.inr (.inr (va_up (fun _ => none) 0 none))))))] := hD
  refine W.widen (k := 0) (n := 0) (Nat.le_of_ble_eq_true rfl) (Nat.le_of_ble_eq_true rfl) ?_
  obtain rfl : r_2 = none := hw
  refine W.eq (g2 := F0 m 29 ls [.null]) rfl ?_
  refine lv_astore_nN (lv' := [(1, .null), (0, .ref a0)]) hx hb dX11_parse_29 rfl hl (by decide) rfl (fun ls hl => ?_)
  refine lv_aload_nN hx hb dX11_parse_30 rfl (lv_at hl 0 rfl) ?_
  refine lv_ifnonnullN hx hb dX11_parse_31 ?_
  refine lv_sipush (v := (-1000)) hx hb dX11_parse_34 (by decide +kernel) ?_
  refine lv_aload_n hx hb dX11_parse_37 rfl (lv_at hl 1 rfl) ?_
  refine va_get (D := D) (ci := 13) (v := .ref a2) (C := RX11) (T := TX11) (N := 9) hx hb hts (fun _ h => List.mem_cons_of_mem _ (List.mem_append_left _ (List.mem_append_left _ (List.mem_append_left _ (List.mem_append_left _ (List.mem_append_left _ (List.mem_append_left _ (List.mem_append_left _ (List.mem_append_right _ h))))))))) hown hK hP 0 rfl rfl 0 (by decide) (hts (.fieldLink RX11 10 "PhraseDesk" "parser" "LPhraseDesk$Parser;") (List.mem_of_getElem? (i := 5) rfl)) (fun _ h9 => h9) rfl dX11_parse_38 ?_
  refine va_get (D := D) (ci := 8) (v := .int 2) (C := RX6) (T := TX6) (N := 4) hx hb hts (fun _ h => List.mem_cons_of_mem _ (List.mem_append_left _ (List.mem_append_left _ (List.mem_append_left _ (List.mem_append_left _ (List.mem_append_left _ (List.mem_append_left _ (List.mem_append_right _ h)))))))) hown hK hP 2 rfl rfl 2 (by decide) (hts (.fieldLink RX11 84 "PhraseDesk$Parser" "error" "I") (List.mem_of_getElem? (i := 6) rfl)) (fun _ h9 => h9) rfl dX11_parse_41 ?_
  refine lv_imul hx hb dX11_parse_44 ?_
  refine lv_topi (fun x3 ex3 => ?_)
  obtain rfl : x3 = (-2000) := ex3.trans (by decide +kernel)
  refine lv_aload_n hx hb dX11_parse_45 rfl (lv_at hl 1 rfl) ?_
  refine va_get (D := D) (ci := 13) (v := .ref a2) (C := RX11) (T := TX11) (N := 9) hx hb hts (fun _ h => List.mem_cons_of_mem _ (List.mem_append_left _ (List.mem_append_left _ (List.mem_append_left _ (List.mem_append_left _ (List.mem_append_left _ (List.mem_append_left _ (List.mem_append_left _ (List.mem_append_right _ h))))))))) hown hK hP 0 rfl rfl 0 (by decide) (hts (.fieldLink RX11 10 "PhraseDesk" "parser" "LPhraseDesk$Parser;") (List.mem_of_getElem? (i := 5) rfl)) (fun _ h9 => h9) rfl dX11_parse_46 ?_
  refine va_get (D := D) (ci := 8) (v := .int 0) (C := RX6) (T := TX6) (N := 4) hx hb hts (fun _ h => List.mem_cons_of_mem _ (List.mem_append_left _ (List.mem_append_left _ (List.mem_append_left _ (List.mem_append_left _ (List.mem_append_left _ (List.mem_append_left _ (List.mem_append_right _ h)))))))) hown hK hP 2 rfl rfl 3 (by decide) (hts (.fieldLink RX11 87 "PhraseDesk$Parser" "place" "I") (List.mem_of_getElem? (i := 7) rfl)) (fun _ h9 => h9) rfl dX11_parse_49 ?_
  refine lv_isub hx hb dX11_parse_52 ?_
  refine lv_topi (fun x4 ex4 => ?_)
  obtain rfl : x4 = (-2000) := ex4.trans (by decide +kernel)
  refine W.widen (k := 0) (n := 0) (Nat.le_of_ble_eq_true rfl) (Nat.le_of_ble_eq_true rfl) ?_
  exact W.iret (v := (-2000)) hx hb hr (fun t ht hW => ⟨⟨(-2000), (), rfl, rfl, trivial⟩, hS.F ht⟩) hS.2.2 dX11_parse_53
set_option maxHeartbeats 1000000 in
set_option maxRecDepth 100000 in
theorem C_L_parse_1 (l : Launch) (hfl : l.stackTraces = false) (D : va_G) (cy : Nat → ClassId) (sz0 : Nat) (sa : Nat → Nat) (a0 a1 a2 a3 a4 a5 a6 a7 a8 a9 a10 a11 a12 a13 a14 : Nat) (sz : Nat)  : Met l yL_parse wsL_parse ({ frames := 16, cells := 0, slots := 0, locals := 374 }) (PcW D cy sz0 sa [.ref a0, .ref a1] [(a0, .inr (13, [.ref a3, .ref a9, .ref a2, .int 0, .ref a10, .int 0, .ref a11, .int 0, .ref a12])), (a2, .inl (cy 7, 40, .inr (.inr (.inr (.inr (fun _ => none)))))), (a3, .inr (8, [.ref a4, .int 0, .int 0, .int 0])), (a4, .inr (6, [.ref a13, .int 0, .ref a5, .ref a6, .ref a7, .ref a8, .int 0, .ref a14])), (a5, .inl (cy 0, 41, .inl (fun _ => 0))), (a6, .inl (cy 0, 41, .inl (fun _ => 0))), (a7, .inl (cy 0, 41, .inl (fun _ => 0))), (a8, .inl (cy 6, 41, .inr (.inr (.inr (.inr (fun _ => none)))))), (a1, .inl (cy 1, 1, .inr (.inl (fun _ => 0))))] sz) (va_Qi (fun (r : Int32) (u : Int64) => r = 0 ∧ u = (-2000)) (fun (u : Int64) (t : State) => ∃ f : Nat → Int64, BW D [(a1, .inl (cy 1, 1, .inr (.inl f)))] (va_A [(a0, .inr (13, [.ref a3, .ref a9, .ref a2, .int 0, .ref a10, .int 0, .ref a11, .int 0, .ref a12])), (a2, .inl (cy 7, 40, .inr (.inr (.inr (.inr (fun _ => none)))))), (a3, .inr (8, [.ref a4, .int 0, .int 0, .int 0])), (a4, .inr (6, [.ref a13, .int 0, .ref a5, .ref a6, .ref a7, .ref a8, .int 0, .ref a14])), (a5, .inl (cy 0, 41, .inl (fun _ => 0))), (a6, .inl (cy 0, 41, .inl (fun _ => 0))), (a7, .inl (cy 0, 41, .inl (fun _ => 0))), (a8, .inl (cy 6, 41, .inr (.inr (.inr (.inr (fun _ => none)))))), (a1, .inl (cy 1, 1, .inr (.inl (fun _ => 0))))] sz) t ∧ f 0 = u) (va_A [(a0, .inr (13, [.ref a3, .ref a9, .ref a2, .int 0, .ref a10, .int 0, .ref a11, .int 0, .ref a12])), (a2, .inl (cy 7, 40, .inr (.inr (.inr (.inr (fun _ => none)))))), (a3, .inr (8, [.ref a4, .int 0, .int 0, .int 0])), (a4, .inr (6, [.ref a13, .int 0, .ref a5, .ref a6, .ref a7, .ref a8, .int 0, .ref a14])), (a5, .inl (cy 0, 41, .inl (fun _ => 0))), (a6, .inl (cy 0, 41, .inl (fun _ => 0))), (a7, .inl (cy 0, 41, .inl (fun _ => 0))), (a8, .inl (cy 6, 41, .inr (.inr (.inr (.inr (fun _ => none)))))), (a1, .inl (cy 1, 1, .inr (.inl (fun _ => 0))))] sz)) 0 0 (va_A [(a0, .inr (13, [.ref a3, .ref a9, .ref a2, .int 0, .ref a10, .int 0, .ref a11, .int 0, .ref a12])), (a2, .inl (cy 7, 40, .inr (.inr (.inr (.inr (fun _ => none)))))), (a3, .inr (8, [.ref a4, .int 0, .int 0, .int 0])), (a4, .inr (6, [.ref a13, .int 0, .ref a5, .ref a6, .ref a7, .ref a8, .int 0, .ref a14])), (a5, .inl (cy 0, 41, .inl (fun _ => 0))), (a6, .inl (cy 0, 41, .inl (fun _ => 0))), (a7, .inl (cy 0, 41, .inl (fun _ => 0))), (a8, .inl (cy 6, 41, .inr (.inr (.inr (.inr (fun _ => none)))))), (a1, .inl (cy 1, 1, .inr (.inl (fun _ => 0))))] sz) := by
  refine va_MetW (cc := cL_parse) (maxL := 3) (ret := (some .int)) (hh := [(0, 8, 11, 15)]) (by decide) rfl ?_
  intro p e s m args below meth c s₁ B hml hv
  obtain ⟨rfl, hsz, hP, hD0, hE⟩ := hv
  have hx := B.exec
  have hb := B.bytes
  have hr := B.returns
  have hts := atoms_spec (ws := wsL_parse) B.pre
  have hown : s.vm.findClass RL = some m.cls := findClass_of_methodNamed B.named
  have hlocks := B.notSynchronized
  subst hsz
  have hK := hE.1
  have hAm := hE.2.2.1
  have hWm := hE.2.2.2
  have hAO := hWm.2.2.2.1
  have hD := hD0.self (sz := s.heap.size)
  have hAF := frA hD0 hE.2.1
  generalize hAe : va_A [(a0, .inr (13, [.ref a3, .ref a9, .ref a2, .int 0, .ref a10, .int 0, .ref a11, .int 0, .ref a12])), (a2, .inl (cy 7, 40, .inr (.inr (.inr (.inr (fun _ => none)))))), (a3, .inr (8, [.ref a4, .int 0, .int 0, .int 0])), (a4, .inr (6, [.ref a13, .int 0, .ref a5, .ref a6, .ref a7, .ref a8, .int 0, .ref a14])), (a5, .inl (cy 0, 41, .inl (fun _ => 0))), (a6, .inl (cy 0, 41, .inl (fun _ => 0))), (a7, .inl (cy 0, 41, .inl (fun _ => 0))), (a8, .inl (cy 6, 41, .inr (.inr (.inr (.inr (fun _ => none)))))), (a1, .inl (cy 1, 1, .inr (.inl (fun _ => 0))))] s.heap.size = A at hD hAF ⊢
  have hA : ∀ q : Nat, s.heap.size ≤ q → A q := fun q h => by rw [← hAe]; exact Or.inr h
  have hS : va_S A s.heap s.heap [] := va_S.rf
  have hl := lv_entry ([.ref a0, .ref a1]) (n := 3) (Nat.le_of_ble_eq_true rfl)
  rw [lg_entry_eq]
  generalize (lg_sl ([.ref a0, .ref a1]) ++ List.replicate (3 - (lg_sl ([.ref a0, .ref a1])).length) Slot.unset).toArray = ls at hl ⊢
  have hl : lv_has ls 3 [(0, .ref a0), (1, .ref a1)] := hl
  have hP : va_P D vwCl [(a0, .inr (13, [.ref a3, .ref a9, .ref a2, .int 0, .ref a10, .int 0, .ref a11, .int 0, .ref a12])), (a2, .inl (cy 7, 40, .inr (.inr (.inr (.inr (fun _ => none)))))), (a3, .inr (8, [.ref a4, .int 0, .int 0, .int 0])), (a4, .inr (6, [.ref a13, .int 0, .ref a5, .ref a6, .ref a7, .ref a8, .int 0, .ref a14])), (a5, .inl (cy 0, 41, .inl (fun _ => 0))), (a6, .inl (cy 0, 41, .inl (fun _ => 0))), (a7, .inl (cy 0, 41, .inl (fun _ => 0))), (a8, .inl (cy 6, 41, .inr (.inr (.inr (.inr (fun _ => none)))))), (a1, .inl (cy 1, 1, .inr (.inl (fun _ => 0))))] s.heap := hP
  refine lv_aload_n hx hb dL_parse_0 rfl (lv_at hl 1 rfl) ?_
  refine lv_iconst (v := 0) hx hb dL_parse_1 (by decide +kernel) ?_
  refine lv_aload_n hx hb dL_parse_2 rfl (lv_at hl 0 rfl) ?_
  have hPc := hP.sub (ws' := [(a0, .inr (13, [.ref a3, .ref a9, .ref a2, .int 0, .ref a10, .int 0, .ref a11, .int 0, .ref a12])), (a2, .inl (cy 7, 40, .inr (.inr (.inr (.inr (fun _ => none)))))), (a3, .inr (8, [.ref a4, .int 0, .int 0, .int 0])), (a4, .inr (6, [.ref a13, .int 0, .ref a5, .ref a6, .ref a7, .ref a8, .int 0, .ref a14])), (a5, .inl (cy 0, 41, .inl (fun _ => 0))), (a6, .inl (cy 0, 41, .inl (fun _ => 0))), (a7, .inl (cy 0, 41, .inl (fun _ => 0))), (a8, .inl (cy 6, 41, .inr (.inr (.inr (.inr (fun _ => none))))))]) [0, 1, 2, 3, 4, 5, 6, 7] rfl
  have hDc := hD.sub (ws' := [(a0, .inr (13, [.ref a3, .ref a9, .ref a2, .int 0, .ref a10, .int 0, .ref a11, .int 0, .ref a12])), (a2, .inl (cy 7, 40, .inr (.inr (.inr (.inr (fun _ => none)))))), (a3, .inr (8, [.ref a4, .int 0, .int 0, .int 0])), (a4, .inr (6, [.ref a13, .int 0, .ref a5, .ref a6, .ref a7, .ref a8, .int 0, .ref a14])), (a5, .inl (cy 0, 41, .inl (fun _ => 0))), (a6, .inl (cy 0, 41, .inl (fun _ => 0))), (a7, .inl (cy 0, 41, .inl (fun _ => 0))), (a8, .inl (cy 6, 41, .inr (.inr (.inr (.inr (fun _ => none))))))]) [0, 1, 2, 3, 4, 5, 6, 7] (by decide) rfl
  have hFc := va_free (wc := [(a0, .inr (13, [.ref a3, .ref a9, .ref a2, .int 0, .ref a10, .int 0, .ref a11, .int 0, .ref a12])), (a2, .inl (cy 7, 40, .inr (.inr (.inr (.inr (fun _ => none)))))), (a3, .inr (8, [.ref a4, .int 0, .int 0, .int 0])), (a4, .inr (6, [.ref a13, .int 0, .ref a5, .ref a6, .ref a7, .ref a8, .int 0, .ref a14])), (a5, .inl (cy 0, 41, .inl (fun _ => 0))), (a6, .inl (cy 0, 41, .inl (fun _ => 0))), (a7, .inl (cy 0, 41, .inl (fun _ => 0))), (a8, .inl (cy 6, 41, .inr (.inr (.inr (.inr (fun _ => none))))))]) hD hS hA [0, 1, 2, 3, 4, 5, 6, 7] rfl
  refine va_calli (va_runV (As := []) (rest := [.int 0, .ref a1]) ⟨hx, hb, hml, hown, hts⟩ (C_X11_parse_1 l D cy sz0 sa a0 a2 a3 a4 a5 a6 a7 a8 a9 a10 a11 a12 a13 a14 s.heap.size) (cwV 0 hts gL_parse_X11_parse rfl rfl rfl (by decide +kernel) ⟨Nat.le_of_ble_eq_true rfl, Nat.le_of_ble_eq_true rfl⟩) ⟨PcW.blind, va_recv hK hPc (ci := 13) (q0 := 0) rfl rfl, PcW.mk hE hS hAF hPc hDc⟩ rfl rfl hl.1 rfl (lv_room (Nat.le_of_ble_eq_true rfl)) dL_parse_3 ⟨Nat.le_of_ble_eq_true rfl, Nat.le_of_ble_eq_true rfl⟩) hS (fun q _ h => hFc q h) hFc (fun r_1 u t H1 locs ht hvm hw hB hz1 hk1 hS => ?_)
  obtain ⟨hP, hD⟩ := va_join (wr := [(a1, .inl (cy 1, 1, .inr (.inl (fun _ => 0))))]) (w1 := []) hP hD [0, 1, 2, 3, 4, 5, 6, 7] [8] rfl rfl (by decide) (by decide) hk1 hFc nilP nilD
  clear hPc hDc hFc hk1 hz1
  generalize H1 = H at hP hS ⊢
  have hP : va_P D vwCl [(a1, .inl (cy 1, 1, .inr (.inl (fun _ => 0))))] H := hP
  have hD : va_D A [(a1, .inl (cy 1, 1, .inr (.inl (fun _ => 0))))] := hD
  refine W.widen (k := 0) (n := 0) (Nat.le_of_ble_eq_true rfl) (Nat.le_of_ble_eq_true rfl) ?_
  have hr := hw
  obtain rfl : r_1 = (-2000) := hr
  refine lv_i2l (v := (-2000)) hx hb dL_parse_6 (by decide +kernel) ?_
  refine va_last hx hb hK hP hD hS 0 1 rfl rfl (by unfold vp_in; decide +kernel) dL_parse_7 (fun H locs hP hD hS => ?_)
  have hP : va_P D vwCl [(a1, .inl (cy 1, 1, .inr (.inl (vp_updL (fun _ => 0) 0 (-2000)))))] H := hP
  have hD : va_D A [(a1, .inl (cy 1, 1, .inr (.inl (vp_updL (fun _ => 0) 0 (-2000)))))] := hD
  refine lv_goto (tgt := 14) hx hb dL_parse_8 (by decide) ?_
  refine lv_iconst (v := 0) hx hb dL_parse_14 (by decide +kernel) ?_
  refine W.widen (k := 0) (n := 0) (Nat.le_of_ble_eq_true rfl) (Nat.le_of_ble_eq_true rfl) ?_
  have hP9 := hP.sub (ws' := [(a1, .inl (cy 1, 1, .inr (.inl (vp_updL (fun _ => 0) 0 (-2000)))))]) [0] rfl
  have hD9 := hD.sub (ws' := [(a1, .inl (cy 1, 1, .inr (.inl (vp_updL (fun _ => 0) 0 (-2000)))))]) [0] (by decide) rfl
  exact W.iret (v := 0) hx hb hr (fun t ht hW => ⟨⟨0, (-2000), rfl, ⟨rfl, rfl⟩, ⟨(vp_updL (fun _ => 0) 0 (-2000)), ⟨by rw [ht]; exact hP9, hD9⟩, by decide +kernel⟩⟩, hS.F ht⟩) hS.2.2 dL_parse_15
set_option maxHeartbeats 1000000 in
set_option maxRecDepth 100000 in
theorem C_X11_familyAt_1 (l : Launch) (D : va_G) (cy : Nat → ClassId) (sz0 : Nat) (sa : Nat → Nat) (a0 a1 a2 a3 a4 a5 a6 : Nat) (sz : Nat) (k0 : Int32) : Met l yX11_familyAt wsX11_familyAt ({ frames := 0, cells := 0, slots := 0, locals := 0 }) (PcW D cy sz0 sa [.ref a0, .int k0] [(a0, .inr (13, [.ref a1, .ref a2, .ref a3, .int 0, .ref a4, .int 0, .ref a5, .int 0, .ref a6]))] sz) (va_Qq (fun (r : Option Nat) (u : Unit) => r = none) (fun (u : Unit) (t : State) => BW D [(a0, .inr (13, [.ref a1, .ref a2, .ref a3, .int 0, .ref a4, .int 0, .ref a5, .int 0, .ref a6]))] (va_A [(a0, .inr (13, [.ref a1, .ref a2, .ref a3, .int 0, .ref a4, .int 0, .ref a5, .int 0, .ref a6]))] sz) t) (va_A [(a0, .inr (13, [.ref a1, .ref a2, .ref a3, .int 0, .ref a4, .int 0, .ref a5, .int 0, .ref a6]))] sz)) 0 0 (va_A [(a0, .inr (13, [.ref a1, .ref a2, .ref a3, .int 0, .ref a4, .int 0, .ref a5, .int 0, .ref a6]))] sz) := by
  refine Met.ofW (cc := cX11_familyAt) (maxL := 2) (ret := (some (.object "PhraseDesk$Family"))) (by decide) rfl ?_
  intro p e s m args below meth c s₁ B hml hv
  obtain ⟨rfl, hsz, hP, hD0, hE⟩ := hv
  have hx := B.exec
  have hb := B.bytes
  have hr := B.returns
  have hts := atoms_spec (ws := wsX11_familyAt) B.pre
  have hown : s.vm.findClass RX11 = some m.cls := findClass_of_methodNamed B.named
  have hlocks := B.notSynchronized
  subst hsz
  have hK := hE.1
  have hAm := hE.2.2.1
  have hWm := hE.2.2.2
  have hAO := hWm.2.2.2.1
  have hD := hD0.self (sz := s.heap.size)
  have hAF := frA hD0 hE.2.1
  generalize hAe : va_A [(a0, .inr (13, [.ref a1, .ref a2, .ref a3, .int 0, .ref a4, .int 0, .ref a5, .int 0, .ref a6]))] s.heap.size = A at hD hAF ⊢
  have hA : ∀ q : Nat, s.heap.size ≤ q → A q := fun q h => by rw [← hAe]; exact Or.inr h
  have hS : va_S A s.heap s.heap [] := va_S.rf
  have hl := lv_entry ([.ref a0, .int k0]) (n := 2) (Nat.le_of_ble_eq_true rfl)
  rw [lg_entry_eq]
  generalize (lg_sl ([.ref a0, .int k0]) ++ List.replicate (2 - (lg_sl ([.ref a0, .int k0])).length) Slot.unset).toArray = ls at hl ⊢
  have hl : lv_has ls 2 [(0, .ref a0), (1, .int k0)] := hl
  have hP : va_P D vwCl [(a0, .inr (13, [.ref a1, .ref a2, .ref a3, .int 0, .ref a4, .int 0, .ref a5, .int 0, .ref a6]))] s.heap := hP
  have z0 : (0 : Int32).toInt = 0 := by decide +kernel
  refine lv_iload_n hx hb dX11_familyAt_0 rfl (lv_at hl 1 rfl) ?_
  refine lv_if_lt (tgt := 30) hx hb dX11_familyAt_1 (by decide) (fun c1 => ?_) (fun c1 => ?_)
  · have c1 := z_lt c1
    refine lv_null hx hb dX11_familyAt_30 ?_
    refine W.widen (k := 0) (n := 0) (Nat.le_of_ble_eq_true rfl) (Nat.le_of_ble_eq_true rfl) ?_
    have hP9 := hP.sub (ws' := [(a0, .inr (13, [.ref a1, .ref a2, .ref a3, .int 0, .ref a4, .int 0, .ref a5, .int 0, .ref a6]))]) [0] rfl
    have hD9 := hD.sub (ws' := [(a0, .inr (13, [.ref a1, .ref a2, .ref a3, .int 0, .ref a4, .int 0, .ref a5, .int 0, .ref a6]))]) [0] (by decide) rfl
    exact W.aret (v := .null) hx hb hr (Or.inl ⟨_, rfl⟩) (Or.inl rfl) (fun t ht hW => ⟨⟨none, (), rfl, rfl, ⟨by rw [ht]; exact hP9, hD9⟩⟩, hS.F ht⟩) hS.2.2 dX11_familyAt_31
  · have c1 := z_nlt c1
    refine lv_iload_n hx hb dX11_familyAt_4 rfl (lv_at hl 1 rfl) ?_
    refine lv_aload_n hx hb dX11_familyAt_5 rfl (lv_at hl 0 rfl) ?_
    refine va_get (D := D) (ci := 13) (v := .int 0) (C := RX11) (T := TX11) (N := 9) hx hb hts (fun _ h => List.mem_cons_of_mem _ (List.mem_append_right _ h)) hown hK hP 0 rfl rfl 5 (by decide) (hts (.fieldLink RX11 96 "PhraseDesk" "familyCount" "I") (List.mem_of_getElem? (i := 1) rfl)) (fun _ h9 => h9) rfl dX11_familyAt_6 ?_
    refine lv_icmp_ge (tgt := 30) hx hb dX11_familyAt_9 (by decide) (fun c2 => ?_) (fun c2 => ?_)
    · have c2 := z_le c2
      refine lv_null hx hb dX11_familyAt_30 ?_
      refine W.widen (k := 0) (n := 0) (Nat.le_of_ble_eq_true rfl) (Nat.le_of_ble_eq_true rfl) ?_
      have hP9 := hP.sub (ws' := [(a0, .inr (13, [.ref a1, .ref a2, .ref a3, .int 0, .ref a4, .int 0, .ref a5, .int 0, .ref a6]))]) [0] rfl
      have hD9 := hD.sub (ws' := [(a0, .inr (13, [.ref a1, .ref a2, .ref a3, .int 0, .ref a4, .int 0, .ref a5, .int 0, .ref a6]))]) [0] (by decide) rfl
      exact W.aret (v := .null) hx hb hr (Or.inl ⟨_, rfl⟩) (Or.inl rfl) (fun t ht hW => ⟨⟨none, (), rfl, rfl, ⟨by rw [ht]; exact hP9, hD9⟩⟩, hS.F ht⟩) hS.2.2 dX11_familyAt_31
    · have c2 := z_nle c2
      exfalso
      omega

set_option maxHeartbeats 1000000 in
set_option maxRecDepth 100000 in
theorem C_X1_init_1 (l : Launch) (D : va_G) (cy : Nat → ClassId) (sz0 : Nat) (sa : Nat → Nat) (a0 : Nat) (sz : Nat)  : Met l yX1_init wsX1_init ({ frames := 1, cells := 2, slots := 12, locals := 20 }) (PcW D cy sz0 sa [.ref a0, .int 0, .null] [(a0, .inr (3, [.int 0, .int 0, .null, .null, .int 0, .null, .int 0]))] sz) (va_Qv (fun (u : Unit) => True) (fun (u : Unit) (t : State) => ∃ (n0 n1 : Nat), BW D [(a0, .inr (3, [.int 0, .int 8, .null, .ref n0, .int 0, .ref n1, .int 0])), (n0, .inl (cy 10, 6, .inr (.inr (.inr (.inr (fun _ => none)))))), (n1, .inl (cy 9, 6, .inr (.inr (.inr (.inr (fun _ => none))))))] (va_A [(a0, .inr (3, [.int 0, .int 0, .null, .null, .int 0, .null, .int 0]))] sz) t) (va_A [(a0, .inr (3, [.int 0, .int 0, .null, .null, .int 0, .null, .int 0]))] sz)) 2 12 (va_A [(a0, .inr (3, [.int 0, .int 0, .null, .null, .int 0, .null, .int 0]))] sz) := by
  refine Met.ofW (cc := cX1_init) (maxL := 3) (ret := none) (by decide) rfl ?_
  intro p e s m args below meth c s₁ B hml hv
  obtain ⟨rfl, hsz, hP, hD0, hE⟩ := hv
  have hx := B.exec
  have hb := B.bytes
  have hr := B.returns
  have hts := atoms_spec (ws := wsX1_init) B.pre
  have hown : s.vm.findClass RX1 = some m.cls := findClass_of_methodNamed B.named
  have hlocks := B.notSynchronized
  have hin : meth.name = "<init>" := (name_of_methodNamed B.named B.method).1
  subst hsz
  have hK := hE.1
  have hAm := hE.2.2.1
  have hWm := hE.2.2.2
  have hAO := hWm.2.2.2.1
  have hD := hD0.self (sz := s.heap.size)
  have hAF := frA hD0 hE.2.1
  generalize hAe : va_A [(a0, .inr (3, [.int 0, .int 0, .null, .null, .int 0, .null, .int 0]))] s.heap.size = A at hD hAF ⊢
  have hA : ∀ q : Nat, s.heap.size ≤ q → A q := fun q h => by rw [← hAe]; exact Or.inr h
  have hS : va_S A s.heap s.heap [] := va_S.rf
  have hl := lv_entry ([.ref a0, .int 0, .null]) (n := 3) (Nat.le_of_ble_eq_true rfl)
  rw [lg_entry_eq]
  generalize (lg_sl ([.ref a0, .int 0, .null]) ++ List.replicate (3 - (lg_sl ([.ref a0, .int 0, .null])).length) Slot.unset).toArray = ls at hl ⊢
  have hl : lv_has ls 3 [(0, .ref a0), (1, .int 0), (2, .null)] := hl
  have hP : va_P D vwCl [(a0, .inr (3, [.int 0, .int 0, .null, .null, .int 0, .null, .int 0]))] s.heap := hP
  refine lv_aload_n hx hb dX1_init_0 rfl (lv_at hl 0 rfl) ?_
  refine W.objInit hx hb hown (hts (.methodLink RX1 3 objectInit) (List.mem_of_getElem? (i := 1) rfl)) (hts (.instanceMethod objectInit) (List.mem_of_getElem? (i := 2) rfl)) (hts (.code objectInit ⟨#[0xb1]⟩ 1 none) (List.mem_of_getElem? (i := 3) rfl)) rfl (by rw [hml]; exact hl.1) rfl dX1_init_1 (Nat.le_of_ble_eq_true rfl) (Nat.le_of_ble_eq_true rfl) ?_
  refine W.eq (g2 := F0 m 4 ls []) rfl ?_
  refine lv_aload_n hx hb dX1_init_4 rfl (lv_at hl 0 rfl) ?_
  refine lv_iload_n hx hb dX1_init_5 rfl (lv_at hl 1 rfl) ?_
  refine va_putF (D := D) (ci := 3) (v := .int 0) (ty := .int) (C := RX1) (T := TX1) (N := 7) hx hb hts (fun _ h => List.mem_cons_of_mem _ (List.mem_append_right _ h)) tyX1 tyX1_ok nmX1 hown hK hP hD hS 0 rfl rfl 0 (by decide) (hts (.fieldLink RX1 9 "PhraseDesk$Family" "number" "I") (List.mem_of_getElem? (i := 4) rfl)) (fun _ h9 => h9) rfl hin rfl (by decide +kernel) rfl rfl (Nat.le_of_ble_eq_true rfl) dX1_init_6 (fun H locs hP hD hS => ?_)
  have hP : va_P D vwCl [(a0, .inr (3, [.int 0, .int 0, .null, .null, .int 0, .null, .int 0]))] H := hP
  have hD : va_D A [(a0, .inr (3, [.int 0, .int 0, .null, .null, .int 0, .null, .int 0]))] := hD
  refine lv_aload_n hx hb dX1_init_9 rfl (lv_at hl 0 rfl) ?_
  refine lv_bipush (v := 8) hx hb dX1_init_10 (by decide +kernel) ?_
  refine lv_iload_n hx hb dX1_init_12 rfl (lv_at hl 1 rfl) ?_
  refine lv_iadd hx hb dX1_init_13 ?_
  refine lv_topi (fun x1 ex1 => ?_)
  obtain rfl : x1 = 8 := ex1.trans (by decide +kernel)
  refine va_putF (D := D) (ci := 3) (v := .int 8) (ty := .int) (C := RX1) (T := TX1) (N := 7) hx hb hts (fun _ h => List.mem_cons_of_mem _ (List.mem_append_right _ h)) tyX1 tyX1_ok nmX1 hown hK hP hD hS 0 rfl rfl 1 (by decide) (hts (.fieldLink RX1 15 "PhraseDesk$Family" "kind" "I") (List.mem_of_getElem? (i := 5) rfl)) (fun _ h9 => h9) rfl hin rfl (by decide +kernel) rfl rfl (Nat.le_of_ble_eq_true rfl) dX1_init_14 (fun H locs hP hD hS => ?_)
  have hP : va_P D vwCl [(a0, .inr (3, [.int 0, .int 8, .null, .null, .int 0, .null, .int 0]))] H := hP
  have hD : va_D A [(a0, .inr (3, [.int 0, .int 8, .null, .null, .int 0, .null, .int 0]))] := hD
  refine lv_aload_n hx hb dX1_init_17 rfl (lv_at hl 0 rfl) ?_
  refine lv_aload_nN hx hb dX1_init_18 rfl (lv_at hl 2 rfl) ?_
  refine va_putF (D := D) (ci := 3) (v := .null) (ty := .object "PhraseDesk$Family") (C := RX1) (T := TX1) (N := 7) hx hb hts (fun _ h => List.mem_cons_of_mem _ (List.mem_append_right _ h)) tyX1 tyX1_ok nmX1 hown hK hP hD hS 0 rfl rfl 2 (by decide) (hts (.fieldLink RX1 18 "PhraseDesk$Family" "parent" "LPhraseDesk$Family;") (List.mem_of_getElem? (i := 6) rfl)) (fun _ h9 => h9) rfl hin rfl (by decide +kernel) rfl rfl (Nat.le_of_ble_eq_true rfl) dX1_init_19 (fun H locs hP hD hS => ?_)
  have hP : va_P D vwCl [(a0, .inr (3, [.int 0, .int 8, .null, .null, .int 0, .null, .int 0]))] H := hP
  have hD : va_D A [(a0, .inr (3, [.int 0, .int 8, .null, .null, .int 0, .null, .int 0]))] := hD
  refine lv_aload_n hx hb dX1_init_22 rfl (lv_at hl 0 rfl) ?_
  refine lv_bipush (v := 6) hx hb dX1_init_23 (by decide +kernel) ?_
  refine g_newq (C := "PhraseDesk$Field") hx hb hown (hts (.classLink RX1 22 RX2) (List.mem_of_getElem? (i := 7) rfl)) hAO.2.2.2.2 hK hP hD hS hA 10 rfl (N' := 6) (by decide +kernel) (by decide +kernel) (by decide +kernel) (Nat.le_of_ble_eq_true rfl) (Nat.le_of_ble_eq_true rfl) dX1_init_25 (fun q2 H hP hD hS => ?_)
  have hP : va_P D vwCl [(a0, .inr (3, [.int 0, .int 8, .null, .null, .int 0, .null, .int 0])), (q2, .inl (cy 10, 6, .inr (.inr (.inr (.inr (fun _ => none))))))] H := hP
  have hD : va_D A [(a0, .inr (3, [.int 0, .int 8, .null, .null, .int 0, .null, .int 0])), (q2, .inl (cy 10, 6, .inr (.inr (.inr (.inr (fun _ => none))))))] := hD
  refine W.widen (k := 1) (n := 6) (Nat.le_of_ble_eq_true rfl) (Nat.le_of_ble_eq_true rfl) ?_
  refine va_putF (D := D) (ci := 3) (v := .ref q2) (ty := .array (.object "PhraseDesk$Field")) (C := RX1) (T := TX1) (N := 7) hx hb hts (fun _ h => List.mem_cons_of_mem _ (List.mem_append_right _ h)) tyX1 tyX1_ok nmX1 hown hK hP hD hS 0 rfl rfl 3 (by decide) (hts (.fieldLink RX1 24 "PhraseDesk$Family" "fields" "[LPhraseDesk$Field;") (List.mem_of_getElem? (i := 8) rfl)) (fun _ h9 => h9) rfl hin rfl (by decide +kernel) rfl rfl (Nat.le_of_ble_eq_true rfl) dX1_init_28 (fun H locs hP hD hS => ?_)
  have hP : va_P D vwCl [(a0, .inr (3, [.int 0, .int 8, .null, .ref q2, .int 0, .null, .int 0])), (q2, .inl (cy 10, 6, .inr (.inr (.inr (.inr (fun _ => none))))))] H := hP
  have hD : va_D A [(a0, .inr (3, [.int 0, .int 8, .null, .ref q2, .int 0, .null, .int 0])), (q2, .inl (cy 10, 6, .inr (.inr (.inr (.inr (fun _ => none))))))] := hD
  refine lv_aload_n hx hb dX1_init_31 rfl (lv_at hl 0 rfl) ?_
  refine lv_bipush (v := 6) hx hb dX1_init_32 (by decide +kernel) ?_
  refine g_newq (C := "PhraseDesk$Routine") hx hb hown (hts (.classLink RX1 28 RX7) (List.mem_of_getElem? (i := 9) rfl)) hAO.2.2.2.1 hK hP hD hS hA 9 rfl (N' := 6) (by decide +kernel) (by decide +kernel) (by decide +kernel) (Nat.le_of_ble_eq_true rfl) (Nat.le_of_ble_eq_true rfl) dX1_init_34 (fun q3 H hP hD hS => ?_)
  have hP : va_P D vwCl [(a0, .inr (3, [.int 0, .int 8, .null, .ref q2, .int 0, .null, .int 0])), (q2, .inl (cy 10, 6, .inr (.inr (.inr (.inr (fun _ => none)))))), (q3, .inl (cy 9, 6, .inr (.inr (.inr (.inr (fun _ => none))))))] H := hP
  have hD : va_D A [(a0, .inr (3, [.int 0, .int 8, .null, .ref q2, .int 0, .null, .int 0])), (q2, .inl (cy 10, 6, .inr (.inr (.inr (.inr (fun _ => none)))))), (q3, .inl (cy 9, 6, .inr (.inr (.inr (.inr (fun _ => none))))))] := hD
  refine W.widen (k := 2) (n := 12) (Nat.le_of_ble_eq_true rfl) (Nat.le_of_ble_eq_true rfl) ?_
  refine va_putF (D := D) (ci := 3) (v := .ref q3) (ty := .array (.object "PhraseDesk$Routine")) (C := RX1) (T := TX1) (N := 7) hx hb hts (fun _ h => List.mem_cons_of_mem _ (List.mem_append_right _ h)) tyX1 tyX1_ok nmX1 hown hK hP hD hS 0 rfl rfl 5 (by decide) (hts (.fieldLink RX1 30 "PhraseDesk$Family" "routines" "[LPhraseDesk$Routine;") (List.mem_of_getElem? (i := 10) rfl)) (fun _ h9 => h9) rfl hin rfl (by decide +kernel) rfl rfl (Nat.le_of_ble_eq_true rfl) dX1_init_37 (fun H locs hP hD hS => ?_)
  have hP : va_P D vwCl [(a0, .inr (3, [.int 0, .int 8, .null, .ref q2, .int 0, .ref q3, .int 0])), (q2, .inl (cy 10, 6, .inr (.inr (.inr (.inr (fun _ => none)))))), (q3, .inl (cy 9, 6, .inr (.inr (.inr (.inr (fun _ => none))))))] H := hP
  have hD : va_D A [(a0, .inr (3, [.int 0, .int 8, .null, .ref q2, .int 0, .ref q3, .int 0])), (q2, .inl (cy 10, 6, .inr (.inr (.inr (.inr (fun _ => none)))))), (q3, .inl (cy 9, 6, .inr (.inr (.inr (.inr (fun _ => none))))))] := hD
  refine W.widen (k := 2) (n := 12) (Nat.le_of_ble_eq_true rfl) (Nat.le_of_ble_eq_true rfl) ?_
  have hP9 := hP.sub (ws' := [(a0, .inr (3, [.int 0, .int 8, .null, .ref q2, .int 0, .ref q3, .int 0])), (q2, .inl (cy 10, 6, .inr (.inr (.inr (.inr (fun _ => none)))))), (q3, .inl (cy 9, 6, .inr (.inr (.inr (.inr (fun _ => none))))))]) [0, 1, 2] rfl
  have hD9 := hD.sub (ws' := [(a0, .inr (3, [.int 0, .int 8, .null, .ref q2, .int 0, .ref q3, .int 0])), (q2, .inl (cy 10, 6, .inr (.inr (.inr (.inr (fun _ => none)))))), (q3, .inl (cy 9, 6, .inr (.inr (.inr (.inr (fun _ => none))))))]) [0, 1, 2] (by decide) rfl
  exact W.vret hx hb hr (fun t ht hW => ⟨⟨(), rfl, trivial, ⟨q2, q3, by rw [ht]; exact hP9, hD9⟩⟩, hS.F ht⟩) hS.2.2 dX1_init_40

set_option maxHeartbeats 1000000 in
set_option maxRecDepth 100000 in
theorem C_X11_type_1 (l : Launch) (hfl : l.stackTraces = false) (D : va_G) (cy : Nat → ClassId) (sz0 : Nat) (sa : Nat → Nat) (a0 a1 a2 a3 a4 a5 a6 : Nat) (sz : Nat) (k0 : Int32) : vx_Met l yX11_type wsX11_type ({ frames := 6, cells := 3, slots := 19, locals := 82 }) (PcW D cy sz0 sa [.ref a0, .int k0] [(a0, .inr (13, [.ref a2, .ref a3, .ref a4, .int 0, .ref a1, .int 0, .ref a5, .int 0, .ref a6])), (a1, .inl (cy 8, 5, .inr (.inr (.inr (.inr (fun _ => none))))))] sz) (va_Qi (fun (r : Int32) (u : Unit) => r = 0 ∧ (k0.toInt = (-1))) (fun (_ : Unit) (_ : State) => True) (va_A [(a0, .inr (13, [.ref a2, .ref a3, .ref a4, .int 0, .ref a1, .int 0, .ref a5, .int 0, .ref a6])), (a1, .inl (cy 8, 5, .inr (.inr (.inr (.inr (fun _ => none))))))] sz)) (vx_X (fun _ : Unit => True) (fun (E : String) (_ : Unit) (_ : State) => E = tIAE ∧ ((¬ k0.toInt = (-1)))) (va_A [(a0, .inr (13, [.ref a2, .ref a3, .ref a4, .int 0, .ref a1, .int 0, .ref a5, .int 0, .ref a6])), (a1, .inl (cy 8, 5, .inr (.inr (.inr (.inr (fun _ => none))))))] sz)) 3 19 (va_A [(a0, .inr (13, [.ref a2, .ref a3, .ref a4, .int 0, .ref a1, .int 0, .ref a5, .int 0, .ref a6])), (a1, .inl (cy 8, 5, .inr (.inr (.inr (.inr (fun _ => none))))))] sz) := by
  refine vx_ofW (cc := cX11_type) (maxL := 3) (ret := (some .int)) (by decide) rfl ?_
  intro p e s m args below meth c s₁ B hml hout hv
  obtain ⟨rfl, hsz, hP, hD0, hE⟩ := hv
  have hx := B.exec
  have hb := B.bytes
  have hr := B.returns
  have hts := atoms_spec (ws := wsX11_type) B.pre
  have hown : s.vm.findClass RX11 = some m.cls := findClass_of_methodNamed B.named
  have hlocks := B.notSynchronized
  subst hsz
  have hK := hE.1
  have hAm := hE.2.2.1
  have hWm := hE.2.2.2
  have hAO := hWm.2.2.2.1
  have hD := hD0.self (sz := s.heap.size)
  have hAF := frA hD0 hE.2.1
  generalize hAe : va_A [(a0, .inr (13, [.ref a2, .ref a3, .ref a4, .int 0, .ref a1, .int 0, .ref a5, .int 0, .ref a6])), (a1, .inl (cy 8, 5, .inr (.inr (.inr (.inr (fun _ => none))))))] s.heap.size = A at hD hAF ⊢
  have hA : ∀ q : Nat, s.heap.size ≤ q → A q := fun q h => by rw [← hAe]; exact Or.inr h
  have hS : va_S A s.heap s.heap [] := va_S.rf
  have hl := lv_entry ([.ref a0, .int k0]) (n := 3) (Nat.le_of_ble_eq_true rfl)
  rw [lg_entry_eq]
  generalize (lg_sl ([.ref a0, .int k0]) ++ List.replicate (3 - (lg_sl ([.ref a0, .int k0])).length) Slot.unset).toArray = ls at hl ⊢
  have hl : lv_has ls 3 [(0, .ref a0), (1, .int k0)] := hl
  have hP : va_P D vwCl [(a0, .inr (13, [.ref a2, .ref a3, .ref a4, .int 0, .ref a1, .int 0, .ref a5, .int 0, .ref a6])), (a1, .inl (cy 8, 5, .inr (.inr (.inr (.inr (fun _ => none))))))] s.heap := hP
  have zm1 : ((-1) : Int32).toInt = -1 := by decide +kernel
  refine lv_aload_n hx hb dX11_type_0 rfl (lv_at hl 0 rfl) ?_
  refine lv_iload_n hx hb dX11_type_1 rfl (lv_at hl 1 rfl) ?_
  have hPc := hP.sub (ws' := [(a0, .inr (13, [.ref a2, .ref a3, .ref a4, .int 0, .ref a1, .int 0, .ref a5, .int 0, .ref a6]))]) [0] rfl
  have hDc := hD.sub (ws' := [(a0, .inr (13, [.ref a2, .ref a3, .ref a4, .int 0, .ref a1, .int 0, .ref a5, .int 0, .ref a6]))]) [0] (by decide) rfl
  have hFc := va_free (wc := [(a0, .inr (13, [.ref a2, .ref a3, .ref a4, .int 0, .ref a1, .int 0, .ref a5, .int 0, .ref a6]))]) hD hS hA [0] rfl
  refine va_callq (va_runV (As := [.int k0]) (rest := []) ⟨hx, hb, hml, hown, hts⟩ (C_X11_familyAt_1 l D cy sz0 sa a0 a2 a3 a4 a1 a5 a6 s.heap.size k0) (cwV 1 hts gX11_type_X11_familyAt rfl rfl rfl (by decide +kernel) ⟨Nat.le_of_ble_eq_true rfl, Nat.le_of_ble_eq_true rfl⟩) ⟨PcW.blind, va_recv hK hPc (ci := 13) (q0 := 0) rfl rfl, PcW.mk hE hS hAF hPc hDc⟩ rfl rfl hl.1 rfl (lv_room (Nat.le_of_ble_eq_true rfl)) dX11_type_2 ⟨Nat.le_of_ble_eq_true rfl, Nat.le_of_ble_eq_true rfl⟩) hS (fun q _ h => hFc q h) hFc (fun r_1 u t H1 locs ht hvm hw hB hz1 hk1 hS => ?_)
  obtain ⟨hP1, hD1⟩ := hB
  rw [ht] at hP1
  have hP1 : va_P D vwCl [(a0, .inr (13, [.ref a2, .ref a3, .ref a4, .int 0, .ref a1, .int 0, .ref a5, .int 0, .ref a6]))] H1 := hP1
  obtain ⟨hP, hD⟩ := va_join (wr := [(a1, .inl (cy 8, 5, .inr (.inr (.inr (.inr (fun _ => none))))))]) (w1 := [(a0, .inr (13, [.ref a2, .ref a3, .ref a4, .int 0, .ref a1, .int 0, .ref a5, .int 0, .ref a6]))]) hP hD [0] [1] rfl rfl (by decide) (by decide) hk1 hFc hP1 hD1
  clear hP1 hD1 hPc hDc hFc hk1 hz1
  generalize H1 = H at hP hS ⊢
  have hP : va_P D vwCl [(a1, .inl (cy 8, 5, .inr (.inr (.inr (.inr (fun _ => none)))))), (a0, .inr (13, [.ref a2, .ref a3, .ref a4, .int 0, .ref a1, .int 0, .ref a5, .int 0, .ref a6]))] H := hP
  have hD : va_D A [(a1, .inl (cy 8, 5, .inr (.inr (.inr (.inr (fun _ => none)))))), (a0, .inr (13, [.ref a2, .ref a3, .ref a4, .int 0, .ref a1, .int 0, .ref a5, .int 0, .ref a6]))] := hD
  refine W.widen (k := 0) (n := 0) (Nat.le_of_ble_eq_true rfl) (Nat.le_of_ble_eq_true rfl) ?_
  obtain rfl : r_1 = none := hw
  refine W.eq (g2 := F0 m 5 ls [.null]) rfl ?_
  refine lv_astore_nN (lv' := [(2, .null), (0, .ref a0), (1, .int k0)]) hx hb dX11_type_5 rfl hl (by decide) rfl (fun ls hl => ?_)
  refine lv_aload_nN hx hb dX11_type_6 rfl (lv_at hl 0 rfl) ?_
  refine lv_ifnonnullN hx hb dX11_type_7 ?_
  refine lv_iload_n hx hb dX11_type_10 rfl (lv_at hl 2 rfl) ?_
  refine lv_iconst (v := (-1)) hx hb dX11_type_11 (by decide +kernel) ?_
  refine lv_icmp_eq (tgt := 25) hx hb dX11_type_12 (by decide) (fun c2 => ?_) (fun c2 => ?_)
  · have c2 := z_eq c2
    refine lv_aload_n hx hb dX11_type_25 rfl (lv_at hl 1 rfl) ?_
    refine va_get (D := D) (ci := 13) (v := .int 0) (C := RX11) (T := TX11) (N := 9) hx hb hts (fun _ h => List.mem_cons_of_mem _ (List.mem_append_left _ (List.mem_append_left _ (List.mem_append_left _ (List.mem_append_right _ h))))) hown hK hP 1 rfl rfl 5 (by decide) (hts (.fieldLink RX11 96 "PhraseDesk" "familyCount" "I") (List.mem_of_getElem? (i := 5) rfl)) (fun _ h9 => h9) rfl dX11_type_26 ?_
    refine lv_aload_n hx hb dX11_type_29 rfl (lv_at hl 1 rfl) ?_
    refine va_get (D := D) (ci := 13) (v := .ref a1) (C := RX11) (T := TX11) (N := 9) hx hb hts (fun _ h => List.mem_cons_of_mem _ (List.mem_append_left _ (List.mem_append_left _ (List.mem_append_left _ (List.mem_append_right _ h))))) hown hK hP 1 rfl rfl 4 (by decide) (hts (.fieldLink RX11 31 "PhraseDesk" "families" "[LPhraseDesk$Family;") (List.mem_of_getElem? (i := 6) rfl)) (fun _ h9 => h9) rfl dX11_type_30 ?_
    refine va_alen (v := 5) hx hb hK hP 0 8 rfl rfl rfl dX11_type_33 ?_
    refine lv_icmp_lt (tgt := 47) hx hb dX11_type_34 (by decide) (fun _ => ?_) (fun c3 => absurd (by decide +kernel) c3)
    refine lv_aload_n hx hb dX11_type_47 rfl (lv_at hl 1 rfl) ?_
    refine va_get (D := D) (ci := 13) (v := .ref a1) (C := RX11) (T := TX11) (N := 9) hx hb hts (fun _ h => List.mem_cons_of_mem _ (List.mem_append_left _ (List.mem_append_left _ (List.mem_append_left _ (List.mem_append_right _ h))))) hown hK hP 1 rfl rfl 4 (by decide) (hts (.fieldLink RX11 31 "PhraseDesk" "families" "[LPhraseDesk$Family;") (List.mem_of_getElem? (i := 6) rfl)) (fun _ h9 => h9) rfl dX11_type_48 ?_
    refine lv_aload_n hx hb dX11_type_51 rfl (lv_at hl 1 rfl) ?_
    refine va_get (D := D) (ci := 13) (v := .int 0) (C := RX11) (T := TX11) (N := 9) hx hb hts (fun _ h => List.mem_cons_of_mem _ (List.mem_append_left _ (List.mem_append_left _ (List.mem_append_left _ (List.mem_append_right _ h))))) hown hK hP 1 rfl rfl 5 (by decide) (hts (.fieldLink RX11 96 "PhraseDesk" "familyCount" "I") (List.mem_of_getElem? (i := 5) rfl)) (fun _ h9 => h9) rfl dX11_type_52 ?_
    refine va_new (ci := 3) (fs := [.int 0, .int 0, .null, .null, .int 0, .null, .int 0]) (C := RX1) (T := TX1) (N := 7) hx hb hts (fun _ h => List.mem_cons_of_mem _ (List.mem_append_left _ (List.mem_append_left _ (List.mem_append_right _ h)))) tyX1 tyX1_ok hown (hts (.classLink RX11 29 RX1) (List.mem_of_getElem? (i := 7) rfl)) (hts (.instantiable RX1 7) (List.mem_of_getElem? (i := 8) rfl)) (hts (.initialized RX1) (List.mem_of_getElem? (i := 9) rfl)) hK hP hD hS hA rfl (fun j hj => by rcases (show j = 0 ∨ j = 1 ∨ j = 2 ∨ j = 3 ∨ j = 4 ∨ j = 5 ∨ j = 6 by omega) with rfl | rfl | rfl | rfl | rfl | rfl | rfl <;> rfl) (Nat.le_of_ble_eq_true rfl) (Nat.le_of_ble_eq_true rfl) dX11_type_55 (fun q4 H hP hD hS => ?_)
    have hP : va_P D vwCl [(a1, .inl (cy 8, 5, .inr (.inr (.inr (.inr (fun _ => none)))))), (a0, .inr (13, [.ref a2, .ref a3, .ref a4, .int 0, .ref a1, .int 0, .ref a5, .int 0, .ref a6])), (q4, .inr (3, [.int 0, .int 0, .null, .null, .int 0, .null, .int 0]))] H := hP
    have hD : va_D A [(a1, .inl (cy 8, 5, .inr (.inr (.inr (.inr (fun _ => none)))))), (a0, .inr (13, [.ref a2, .ref a3, .ref a4, .int 0, .ref a1, .int 0, .ref a5, .int 0, .ref a6])), (q4, .inr (3, [.int 0, .int 0, .null, .null, .int 0, .null, .int 0]))] := hD
    refine W.widen (k := 1) (n := 7) (Nat.le_of_ble_eq_true rfl) (Nat.le_of_ble_eq_true rfl) ?_
    refine lv_dup hx hb dX11_type_58 rfl ?_
    refine lv_aload_n hx hb dX11_type_59 rfl (lv_at hl 1 rfl) ?_
    refine va_get (D := D) (ci := 13) (v := .int 0) (C := RX11) (T := TX11) (N := 9) hx hb hts (fun _ h => List.mem_cons_of_mem _ (List.mem_append_left _ (List.mem_append_left _ (List.mem_append_left _ (List.mem_append_right _ h))))) hown hK hP 1 rfl rfl 5 (by decide) (hts (.fieldLink RX11 96 "PhraseDesk" "familyCount" "I") (List.mem_of_getElem? (i := 5) rfl)) (fun _ h9 => h9) rfl dX11_type_60 ?_
    refine lv_aload_nN hx hb dX11_type_63 rfl (lv_at hl 0 rfl) ?_
    have hPc := hP.sub (ws' := [(q4, .inr (3, [.int 0, .int 0, .null, .null, .int 0, .null, .int 0]))]) [2] rfl
    have hDc := hD.sub (ws' := [(q4, .inr (3, [.int 0, .int 0, .null, .null, .int 0, .null, .int 0]))]) [2] (by decide) rfl
    have hFc := va_free (wc := [(q4, .inr (3, [.int 0, .int 0, .null, .null, .int 0, .null, .int 0]))]) hD hS hA [2] rfl
    refine va_callv (va_runI (As := [.int 0, .null]) (rest := [.ref q4, .int 0, .ref a1]) ⟨hx, hb, hml, hown, hts⟩ (C_X1_init_1 l D cy sz0 sa q4 H.size) (cwI 2 hts gX11_type_X1_init rfl rfl rfl (hts (.initialized RX1) (List.mem_of_getElem? (i := 9) rfl)) (hts (.methodLink RX11 101 yX1_init) (List.mem_of_getElem? (i := 15) rfl)) (hts (.instanceMethod yX1_init) (List.mem_of_getElem? (i := 16) rfl)) rfl (by decide +kernel) ⟨Nat.le_of_ble_eq_true rfl, Nat.le_of_ble_eq_true rfl⟩) ⟨PcW.blind, PcW.mk hE hS hAF hPc hDc⟩ rfl rfl hl.1 rfl (lv_room (Nat.le_of_ble_eq_true rfl)) dX11_type_64 ⟨Nat.le_of_ble_eq_true rfl, Nat.le_of_ble_eq_true rfl⟩) hS (fun q _ h => hFc q h) hFc (fun u t H1 locs ht hvm hw hB hz1 hk1 hS => ?_)
    obtain ⟨q5, q6, hP1, hD1⟩ := hB
    rw [ht] at hP1
    have hP1 : va_P D vwCl [(q4, .inr (3, [.int 0, .int 8, .null, .ref q5, .int 0, .ref q6, .int 0])), (q5, .inl (cy 10, 6, .inr (.inr (.inr (.inr (fun _ => none)))))), (q6, .inl (cy 9, 6, .inr (.inr (.inr (.inr (fun _ => none))))))] H1 := hP1
    obtain ⟨hP, hD⟩ := va_join (wr := [(a1, .inl (cy 8, 5, .inr (.inr (.inr (.inr (fun _ => none)))))), (a0, .inr (13, [.ref a2, .ref a3, .ref a4, .int 0, .ref a1, .int 0, .ref a5, .int 0, .ref a6]))]) (w1 := [(q4, .inr (3, [.int 0, .int 8, .null, .ref q5, .int 0, .ref q6, .int 0])), (q5, .inl (cy 10, 6, .inr (.inr (.inr (.inr (fun _ => none)))))), (q6, .inl (cy 9, 6, .inr (.inr (.inr (.inr (fun _ => none))))))]) hP hD [2] [0, 1] rfl rfl (by decide) (by decide) hk1 hFc hP1 hD1
    clear hP1 hD1 hPc hDc hFc hk1 hz1
    generalize H1 = H at hP hS ⊢
    have hP : va_P D vwCl [(a1, .inl (cy 8, 5, .inr (.inr (.inr (.inr (fun _ => none)))))), (a0, .inr (13, [.ref a2, .ref a3, .ref a4, .int 0, .ref a1, .int 0, .ref a5, .int 0, .ref a6])), (q4, .inr (3, [.int 0, .int 8, .null, .ref q5, .int 0, .ref q6, .int 0])), (q5, .inl (cy 10, 6, .inr (.inr (.inr (.inr (fun _ => none)))))), (q6, .inl (cy 9, 6, .inr (.inr (.inr (.inr (fun _ => none))))))] H := hP
    have hD : va_D A [(a1, .inl (cy 8, 5, .inr (.inr (.inr (.inr (fun _ => none)))))), (a0, .inr (13, [.ref a2, .ref a3, .ref a4, .int 0, .ref a1, .int 0, .ref a5, .int 0, .ref a6])), (q4, .inr (3, [.int 0, .int 8, .null, .ref q5, .int 0, .ref q6, .int 0])), (q5, .inl (cy 10, 6, .inr (.inr (.inr (.inr (fun _ => none)))))), (q6, .inl (cy 9, 6, .inr (.inr (.inr (.inr (fun _ => none))))))] := hD
    refine W.widen (k := 3) (n := 19) (Nat.le_of_ble_eq_true rfl) (Nat.le_of_ble_eq_true rfl) ?_
    refine va_astq (r := (RX1, TX1, 7)) hx hb hK hP hD hS 0 8 2 3 rfl rfl rfl rfl (by unfold vp_in; decide +kernel) dX11_type_67 (fun H locs hP hD hS => ?_)
    have hP : va_P D vwCl [(a1, .inl (cy 8, 5, .inr (.inr (.inr (.inr (va_up (fun _ => none) 0 (some q4))))))), (a0, .inr (13, [.ref a2, .ref a3, .ref a4, .int 0, .ref a1, .int 0, .ref a5, .int 0, .ref a6])), (q4, .inr (3, [.int 0, .int 8, .null, .ref q5, .int 0, .ref q6, .int 0])), (q5, .inl (cy 10, 6, .inr (.inr (.inr (.inr (fun _ => none)))))), (q6, .inl (cy 9, 6, .inr (.inr (.inr (.inr (fun _ => none))))))] H := hP
    have hD : va_D A [(a1, .inl (cy 8, 5, .inr (.inr (.inr (.inr (va_up (fun _ => none) 0 (some q4))))))), (a0, .inr (13, [.ref a2, .ref a3, .ref a4, .int 0, .ref a1, .int 0, .ref a5, .int 0, .ref a6])), (q4, .inr (3, [.int 0, .int 8, .null, .ref q5, .int 0, .ref q6, .int 0])), (q5, .inl (cy 10, 6, .inr (.inr (.inr (.inr (fun _ => none)))))), (q6, .inl (cy 9, 6, .inr (.inr (.inr (.inr (fun _ => none))))))] := hD
    refine lv_aload_n hx hb dX11_type_68 rfl (lv_at hl 1 rfl) ?_
    refine lv_dup hx hb dX11_type_69 rfl ?_
    refine va_get (D := D) (ci := 13) (v := .int 0) (C := RX11) (T := TX11) (N := 9) hx hb hts (fun _ h => List.mem_cons_of_mem _ (List.mem_append_left _ (List.mem_append_left _ (List.mem_append_left _ (List.mem_append_right _ h))))) hown hK hP 1 rfl rfl 5 (by decide) (hts (.fieldLink RX11 96 "PhraseDesk" "familyCount" "I") (List.mem_of_getElem? (i := 5) rfl)) (fun _ h9 => h9) rfl dX11_type_70 ?_
    refine lv_iconst (v := 1) hx hb dX11_type_73 (by decide +kernel) ?_
    refine lv_iadd hx hb dX11_type_74 ?_
    refine lv_topi (fun x8 ex8 => ?_)
    obtain rfl : x8 = 1 := ex8.trans (by decide +kernel)
    refine va_put (D := D) (ci := 13) (v := .int 1) (ty := .int) (C := RX11) (T := TX11) (N := 9) hx hb hts (fun _ h => List.mem_cons_of_mem _ (List.mem_append_left _ (List.mem_append_left _ (List.mem_append_left _ (List.mem_append_right _ h))))) tyX11 tyX11_ok nmX11 hown hK hP hD hS 1 rfl rfl 5 (by decide) (hts (.fieldLink RX11 96 "PhraseDesk" "familyCount" "I") (List.mem_of_getElem? (i := 5) rfl)) (fun _ h9 => h9) rfl (by decide +kernel) rfl rfl (Nat.le_of_ble_eq_true rfl) dX11_type_75 (fun H locs hP hD hS => ?_)
    have hP : va_P D vwCl [(a1, .inl (cy 8, 5, .inr (.inr (.inr (.inr (va_up (fun _ => none) 0 (some q4))))))), (a0, .inr (13, [.ref a2, .ref a3, .ref a4, .int 0, .ref a1, .int 1, .ref a5, .int 0, .ref a6])), (q4, .inr (3, [.int 0, .int 8, .null, .ref q5, .int 0, .ref q6, .int 0])), (q5, .inl (cy 10, 6, .inr (.inr (.inr (.inr (fun _ => none)))))), (q6, .inl (cy 9, 6, .inr (.inr (.inr (.inr (fun _ => none))))))] H := hP
    have hD : va_D A [(a1, .inl (cy 8, 5, .inr (.inr (.inr (.inr (va_up (fun _ => none) 0 (some q4))))))), (a0, .inr (13, [.ref a2, .ref a3, .ref a4, .int 0, .ref a1, .int 1, .ref a5, .int 0, .ref a6])), (q4, .inr (3, [.int 0, .int 8, .null, .ref q5, .int 0, .ref q6, .int 0])), (q5, .inl (cy 10, 6, .inr (.inr (.inr (.inr (fun _ => none)))))), (q6, .inl (cy 9, 6, .inr (.inr (.inr (.inr (fun _ => none))))))] := hD
    refine lv_aload_n hx hb dX11_type_78 rfl (lv_at hl 1 rfl) ?_
    refine va_get (D := D) (ci := 13) (v := .int 1) (C := RX11) (T := TX11) (N := 9) hx hb hts (fun _ h => List.mem_cons_of_mem _ (List.mem_append_left _ (List.mem_append_left _ (List.mem_append_left _ (List.mem_append_right _ h))))) hown hK hP 1 rfl rfl 5 (by decide) (hts (.fieldLink RX11 96 "PhraseDesk" "familyCount" "I") (List.mem_of_getElem? (i := 5) rfl)) (fun _ h9 => h9) rfl dX11_type_79 ?_
    refine lv_iconst (v := 1) hx hb dX11_type_82 (by decide +kernel) ?_
    refine lv_isub hx hb dX11_type_83 ?_
    refine lv_topi (fun x9 ex9 => ?_)
    obtain rfl : x9 = 0 := ex9.trans (by decide +kernel)
    refine vx_ret ?_
    refine W.widen (k := 3) (n := 19) (Nat.le_of_ble_eq_true rfl) (Nat.le_of_ble_eq_true rfl) ?_
    exact W.iret (v := 0) hx hb hr (fun t ht hW => ⟨⟨0, (), rfl, ⟨rfl, by omega⟩, trivial⟩, hS.F ht⟩) hS.2.2 dX11_type_84
  · have c2 := z_ne c2
    exact g_iae hx hb hfl hts hE hAF hown (List.mem_of_getElem? (i := 1) rfl) (List.mem_of_getElem? (i := 2) rfl) (is := 94) (text := "the parent is no class") (by decide +kernel) (fun _ h => List.mem_cons_of_mem _ (List.mem_append_left _ (List.mem_append_right _ h))) hS (by rw [hml]; exact hl.1) dX11_type_15 dX11_type_18 dX11_type_19 dX11_type_21 dX11_type_24 hout (by decide) (by decide) (Nat.le_of_ble_eq_true rfl) (Nat.le_of_ble_eq_true rfl) hlocks (fun t h1 h2 h3 => ⟨(), trivial, ⟨rfl, by omega⟩, Nat.le_trans hS.1 h2, fun q h4 h5 => (h3 q (Nat.lt_of_lt_of_le h4 hS.1)).trans (hS.2.1 q h4 h5)⟩) hS.2.2 (Nat.le_of_ble_eq_true rfl) (Nat.le_of_ble_eq_true rfl)
set_option maxHeartbeats 1000000 in
set_option maxRecDepth 100000 in
theorem C_L_type_1 (l : Launch) (hfl : l.stackTraces = false) (D : va_G) (cy : Nat → ClassId) (sz0 : Nat) (sa : Nat → Nat) (a0 a1 a2 a3 a4 a5 a6 a7 : Nat) (sz : Nat) (k0 : Int32) : Met l yL_type wsL_type ({ frames := 7, cells := 3, slots := 19, locals := 104 }) (PcW D cy sz0 sa [.ref a0, .int k0, .ref a1] [(a0, .inr (13, [.ref a3, .ref a4, .ref a5, .int 0, .ref a2, .int 0, .ref a6, .int 0, .ref a7])), (a2, .inl (cy 8, 5, .inr (.inr (.inr (.inr (fun _ => none)))))), (a1, .inl (cy 1, 1, .inr (.inl (fun _ => 0))))] sz) (va_Qi (fun (r : Int32) (u : Int64) => (r = 1 ∧ u = 0 ∧ (((¬ k0.toInt = (-1))))) ∨ (r = 0 ∧ u = 0 ∧ ((k0.toInt = (-1))))) (fun (u : Int64) (t : State) => ∃ f : Nat → Int64, BW D [(a1, .inl (cy 1, 1, .inr (.inl f)))] (va_A [(a0, .inr (13, [.ref a3, .ref a4, .ref a5, .int 0, .ref a2, .int 0, .ref a6, .int 0, .ref a7])), (a2, .inl (cy 8, 5, .inr (.inr (.inr (.inr (fun _ => none)))))), (a1, .inl (cy 1, 1, .inr (.inl (fun _ => 0))))] sz) t ∧ f 0 = u) (va_A [(a0, .inr (13, [.ref a3, .ref a4, .ref a5, .int 0, .ref a2, .int 0, .ref a6, .int 0, .ref a7])), (a2, .inl (cy 8, 5, .inr (.inr (.inr (.inr (fun _ => none)))))), (a1, .inl (cy 1, 1, .inr (.inl (fun _ => 0))))] sz)) 3 19 (va_A [(a0, .inr (13, [.ref a3, .ref a4, .ref a5, .int 0, .ref a2, .int 0, .ref a6, .int 0, .ref a7])), (a2, .inl (cy 8, 5, .inr (.inr (.inr (.inr (fun _ => none)))))), (a1, .inl (cy 1, 1, .inr (.inl (fun _ => 0))))] sz) := by
  refine va_MetW (cc := cL_type) (maxL := 4) (ret := (some .int)) (hh := [(0, 9, 12, 13), (0, 9, 15, 15)]) (by decide) rfl ?_
  intro p e s m args below meth c s₁ B hml hv
  obtain ⟨rfl, hsz, hP, hD0, hE⟩ := hv
  have hx := B.exec
  have hb := B.bytes
  have hr := B.returns
  have hts := atoms_spec (ws := wsL_type) B.pre
  have hown : s.vm.findClass RL = some m.cls := findClass_of_methodNamed B.named
  have hlocks := B.notSynchronized
  subst hsz
  have hK := hE.1
  have hAm := hE.2.2.1
  have hWm := hE.2.2.2
  have hAO := hWm.2.2.2.1
  have hD := hD0.self (sz := s.heap.size)
  have hAF := frA hD0 hE.2.1
  generalize hAe : va_A [(a0, .inr (13, [.ref a3, .ref a4, .ref a5, .int 0, .ref a2, .int 0, .ref a6, .int 0, .ref a7])), (a2, .inl (cy 8, 5, .inr (.inr (.inr (.inr (fun _ => none)))))), (a1, .inl (cy 1, 1, .inr (.inl (fun _ => 0))))] s.heap.size = A at hD hAF ⊢
  have hA : ∀ q : Nat, s.heap.size ≤ q → A q := fun q h => by rw [← hAe]; exact Or.inr h
  have hS : va_S A s.heap s.heap [] := va_S.rf
  have hl := lv_entry ([.ref a0, .int k0, .ref a1]) (n := 4) (Nat.le_of_ble_eq_true rfl)
  rw [lg_entry_eq]
  generalize (lg_sl ([.ref a0, .int k0, .ref a1]) ++ List.replicate (4 - (lg_sl ([.ref a0, .int k0, .ref a1])).length) Slot.unset).toArray = ls at hl ⊢
  have hl : lv_has ls 4 [(0, .ref a0), (1, .int k0), (2, .ref a1)] := hl
  have hP : va_P D vwCl [(a0, .inr (13, [.ref a3, .ref a4, .ref a5, .int 0, .ref a2, .int 0, .ref a6, .int 0, .ref a7])), (a2, .inl (cy 8, 5, .inr (.inr (.inr (.inr (fun _ => none)))))), (a1, .inl (cy 1, 1, .inr (.inl (fun _ => 0))))] s.heap := hP
  have zm1 : ((-1) : Int32).toInt = -1 := by decide +kernel
  refine lv_aload_n hx hb dL_type_0 rfl (lv_at hl 2 rfl) ?_
  refine lv_iconst (v := 0) hx hb dL_type_1 (by decide +kernel) ?_
  refine lv_aload_n hx hb dL_type_2 rfl (lv_at hl 0 rfl) ?_
  refine lv_iload_n hx hb dL_type_3 rfl (lv_at hl 1 rfl) ?_
  have hPc := hP.sub (ws' := [(a0, .inr (13, [.ref a3, .ref a4, .ref a5, .int 0, .ref a2, .int 0, .ref a6, .int 0, .ref a7])), (a2, .inl (cy 8, 5, .inr (.inr (.inr (.inr (fun _ => none))))))]) [0, 1] rfl
  have hDc := hD.sub (ws' := [(a0, .inr (13, [.ref a3, .ref a4, .ref a5, .int 0, .ref a2, .int 0, .ref a6, .int 0, .ref a7])), (a2, .inl (cy 8, 5, .inr (.inr (.inr (.inr (fun _ => none))))))]) [0, 1] (by decide) rfl
  have hFc := va_free (wc := [(a0, .inr (13, [.ref a3, .ref a4, .ref a5, .int 0, .ref a2, .int 0, .ref a6, .int 0, .ref a7])), (a2, .inl (cy 8, 5, .inr (.inr (.inr (.inr (fun _ => none))))))]) hD hS hA [0, 1] rfl
  refine vx_calli (vx_runV (As := [.int k0]) (rest := [.int 0, .ref a1]) ⟨hx, hb, hml, hown, hts⟩ (C_X11_type_1 l hfl D cy sz0 sa a0 a2 a3 a4 a5 a6 a7 s.heap.size k0) (cwV 1 hts gL_type_X11_type rfl rfl rfl (by decide +kernel) ⟨Nat.le_of_ble_eq_true rfl, Nat.le_of_ble_eq_true rfl⟩) ⟨PcW.blind, va_recv hK hPc (ci := 13) (q0 := 0) rfl rfl, PcW.mk hE hS hAF hPc hDc⟩ rfl rfl hl.1 rfl (lv_room (Nat.le_of_ble_eq_true rfl)) dL_type_4 ⟨Nat.le_of_ble_eq_true rfl, Nat.le_of_ble_eq_true rfl⟩) hS (fun q _ h => hFc q h) hFc (fun q _ h => hFc q h) (fun E ce q9 u t H1 locs ht hvm hpx hbx hz1 hk1 hS hq9 hv9 hc9 => ?_) (fun r_1 u t H1 locs ht hvm hw hB hz1 hk1 hS => ?_)
  · obtain ⟨rfl, hxr_1⟩ := hbx
    obtain ⟨hP, hD⟩ := va_join (wr := [(a1, .inl (cy 1, 1, .inr (.inl (fun _ => 0))))]) (w1 := []) hP hD [0, 1] [2] rfl rfl (by decide) (by decide) hk1 hFc nilP nilD
    skip
    have hq8 := hq9
    clear hPc hDc hFc hk1 hz1
    skip
    have hP : va_P D vwCl [(a1, .inl (cy 1, 1, .inr (.inl (fun _ => 0))))] H1 := hP
    have hD : va_D A [(a1, .inl (cy 1, 1, .inr (.inl (fun _ => 0))))] := hD
    refine vx_widen (k := 3) (n := 19) (Nat.le_of_ble_eq_true rfl) (Nat.le_of_ble_eq_true rfl) ?_
    refine vx_catch hown [] _ _ ((vx_table B (hts (.codeWith yL_type cL_type 4 (some .int) [(0, 9, 12, 13), (0, 9, 15, 15)]) (List.mem_of_getElem? (i := 0) rfl))).trans rfl) (fun z hz => absurd hz List.not_mem_nil) (by decide) (by decide) (hts (.classLink RL 13 "java/lang/IllegalArgumentException") (List.mem_of_getElem? (i := 1) rfl)) (va_Nw.use rfl hWm.2.2.1.2.2.2.1) hq9 hv9 hc9 ?_
    clear hq8 hq9 ht
    generalize H1 = H at hP hS ⊢
    refine lv_astore_n (lv' := [(3, .ref q9), (0, .ref a0), (1, .int k0), (2, .ref a1)]) hx hb dL_type_12 rfl hl (by decide) rfl (fun ls hl => ?_)
    refine lv_iconst (v := 1) hx hb dL_type_13 (by decide +kernel) ?_
    refine W.widen (k := 3) (n := 19) (Nat.le_of_ble_eq_true rfl) (Nat.le_of_ble_eq_true rfl) ?_
    have hP9 := hP.sub (ws' := [(a1, .inl (cy 1, 1, .inr (.inl (fun _ => 0))))]) [0] rfl
    have hD9 := hD.sub (ws' := [(a1, .inl (cy 1, 1, .inr (.inl (fun _ => 0))))]) [0] (by decide) rfl
    exact W.iret (v := 1) hx hb hr (fun t ht hW => ⟨⟨1, 0, rfl, Or.inl ⟨rfl, rfl, by omega⟩, ⟨(fun _ => 0), ⟨by rw [ht]; exact hP9, hD9⟩, by decide +kernel⟩⟩, hS.F ht⟩) hS.2.2 dL_type_14
  · obtain ⟨hP, hD⟩ := va_join (wr := [(a1, .inl (cy 1, 1, .inr (.inl (fun _ => 0))))]) (w1 := []) hP hD [0, 1] [2] rfl rfl (by decide) (by decide) hk1 hFc nilP nilD
    clear hPc hDc hFc hk1 hz1
    generalize H1 = H at hP hS ⊢
    have hP : va_P D vwCl [(a1, .inl (cy 1, 1, .inr (.inl (fun _ => 0))))] H := hP
    have hD : va_D A [(a1, .inl (cy 1, 1, .inr (.inl (fun _ => 0))))] := hD
    refine W.widen (k := 3) (n := 19) (Nat.le_of_ble_eq_true rfl) (Nat.le_of_ble_eq_true rfl) ?_
    obtain ⟨hr, hcr_1⟩ := hw
    obtain rfl : r_1 = 0 := hr
    refine lv_i2l (v := 0) hx hb dL_type_7 (by decide +kernel) ?_
    refine va_last hx hb hK hP hD hS 0 1 rfl rfl (by unfold vp_in; decide +kernel) dL_type_8 (fun H locs hP hD hS => ?_)
    have hP : va_P D vwCl [(a1, .inl (cy 1, 1, .inr (.inl (vp_updL (fun _ => 0) 0 0))))] H := hP
    have hD : va_D A [(a1, .inl (cy 1, 1, .inr (.inl (vp_updL (fun _ => 0) 0 0))))] := hD
    refine lv_goto (tgt := 18) hx hb dL_type_9 (by decide) ?_
    refine lv_iconst (v := 0) hx hb dL_type_18 (by decide +kernel) ?_
    refine W.widen (k := 3) (n := 19) (Nat.le_of_ble_eq_true rfl) (Nat.le_of_ble_eq_true rfl) ?_
    have hP9 := hP.sub (ws' := [(a1, .inl (cy 1, 1, .inr (.inl (vp_updL (fun _ => 0) 0 0))))]) [0] rfl
    have hD9 := hD.sub (ws' := [(a1, .inl (cy 1, 1, .inr (.inl (vp_updL (fun _ => 0) 0 0))))]) [0] (by decide) rfl
    exact W.iret (v := 0) hx hb hr (fun t ht hW => ⟨⟨0, 0, rfl, Or.inr (⟨rfl, rfl, by omega⟩), ⟨(vp_updL (fun _ => 0) 0 0), ⟨by rw [ht]; exact hP9, hD9⟩, by decide +kernel⟩⟩, hS.F ht⟩) hS.2.2 dL_type_19
set_option maxHeartbeats 1000000 in
set_option maxRecDepth 100000 in
theorem C_X11_field_1 (l : Launch) (hfl : l.stackTraces = false) (D : va_G) (cy : Nat → ClassId) (sz0 : Nat) (sa : Nat → Nat) (a0 a1 a2 a3 a4 a5 a6 : Nat) (sz : Nat) (k0 : Int32) (k1 : Int32) (k2 : Int32) : vx_Met l yX11_field wsX11_field ({ frames := 6, cells := 1, slots := 6, locals := 82 }) (PcW D cy sz0 sa [.ref a0, .int k0, .int k1, .int k2] [(a0, .inr (13, [.ref a1, .ref a2, .ref a3, .int 0, .ref a4, .int 0, .ref a5, .int 0, .ref a6]))] sz) (va_Qi (fun (r : Int32) (u : Unit) => False) (fun (_ : Unit) (_ : State) => True) (va_A [(a0, .inr (13, [.ref a1, .ref a2, .ref a3, .int 0, .ref a4, .int 0, .ref a5, .int 0, .ref a6]))] sz)) (vx_X (fun _ : Unit => True) (fun (E : String) (_ : Unit) (_ : State) => E = tIAE ∧ (True)) (va_A [(a0, .inr (13, [.ref a1, .ref a2, .ref a3, .int 0, .ref a4, .int 0, .ref a5, .int 0, .ref a6]))] sz)) 1 6 (va_A [(a0, .inr (13, [.ref a1, .ref a2, .ref a3, .int 0, .ref a4, .int 0, .ref a5, .int 0, .ref a6]))] sz) := by
  refine vx_ofW (cc := cX11_field) (maxL := 5) (ret := (some .int)) (by decide) rfl ?_
  intro p e s m args below meth c s₁ B hml hout hv
  obtain ⟨rfl, hsz, hP, hD0, hE⟩ := hv
  have hx := B.exec
  have hb := B.bytes
  have hr := B.returns
  have hts := atoms_spec (ws := wsX11_field) B.pre
  have hown : s.vm.findClass RX11 = some m.cls := findClass_of_methodNamed B.named
  have hlocks := B.notSynchronized
  subst hsz
  have hK := hE.1
  have hAm := hE.2.2.1
  have hWm := hE.2.2.2
  have hAO := hWm.2.2.2.1
  have hD := hD0.self (sz := s.heap.size)
  have hAF := frA hD0 hE.2.1
  generalize hAe : va_A [(a0, .inr (13, [.ref a1, .ref a2, .ref a3, .int 0, .ref a4, .int 0, .ref a5, .int 0, .ref a6]))] s.heap.size = A at hD hAF ⊢
  have hA : ∀ q : Nat, s.heap.size ≤ q → A q := fun q h => by rw [← hAe]; exact Or.inr h
  have hS : va_S A s.heap s.heap [] := va_S.rf
  have hl := lv_entry ([.ref a0, .int k0, .int k1, .int k2]) (n := 5) (Nat.le_of_ble_eq_true rfl)
  rw [lg_entry_eq]
  generalize (lg_sl ([.ref a0, .int k0, .int k1, .int k2]) ++ List.replicate (5 - (lg_sl ([.ref a0, .int k0, .int k1, .int k2])).length) Slot.unset).toArray = ls at hl ⊢
  have hl : lv_has ls 5 [(0, .ref a0), (1, .int k0), (2, .int k1), (3, .int k2)] := hl
  have hP : va_P D vwCl [(a0, .inr (13, [.ref a1, .ref a2, .ref a3, .int 0, .ref a4, .int 0, .ref a5, .int 0, .ref a6]))] s.heap := hP
  refine lv_aload_n hx hb dX11_field_0 rfl (lv_at hl 0 rfl) ?_
  refine lv_iload_n hx hb dX11_field_1 rfl (lv_at hl 1 rfl) ?_
  have hPc := hP.sub (ws' := [(a0, .inr (13, [.ref a1, .ref a2, .ref a3, .int 0, .ref a4, .int 0, .ref a5, .int 0, .ref a6]))]) [0] rfl
  have hDc := hD.sub (ws' := [(a0, .inr (13, [.ref a1, .ref a2, .ref a3, .int 0, .ref a4, .int 0, .ref a5, .int 0, .ref a6]))]) [0] (by decide) rfl
  have hFc := va_free (wc := [(a0, .inr (13, [.ref a1, .ref a2, .ref a3, .int 0, .ref a4, .int 0, .ref a5, .int 0, .ref a6]))]) hD hS hA [0] rfl
  refine va_callq (va_runV (As := [.int k0]) (rest := []) ⟨hx, hb, hml, hown, hts⟩ (C_X11_familyAt_1 l D cy sz0 sa a0 a1 a2 a3 a4 a5 a6 s.heap.size k0) (cwV 1 hts gX11_field_X11_familyAt rfl rfl rfl (by decide +kernel) ⟨Nat.le_of_ble_eq_true rfl, Nat.le_of_ble_eq_true rfl⟩) ⟨PcW.blind, va_recv hK hPc (ci := 13) (q0 := 0) rfl rfl, PcW.mk hE hS hAF hPc hDc⟩ rfl rfl hl.1 rfl (lv_room (Nat.le_of_ble_eq_true rfl)) dX11_field_2 ⟨Nat.le_of_ble_eq_true rfl, Nat.le_of_ble_eq_true rfl⟩) hS (fun q _ h => hFc q h) hFc (fun r_1 u t H1 locs ht hvm hw hB hz1 hk1 hS => ?_)
  obtain ⟨hP1, hD1⟩ := hB
  rw [ht] at hP1
  have hP1 : va_P D vwCl [(a0, .inr (13, [.ref a1, .ref a2, .ref a3, .int 0, .ref a4, .int 0, .ref a5, .int 0, .ref a6]))] H1 := hP1
  obtain ⟨hP, hD⟩ := va_join (wr := []) (w1 := [(a0, .inr (13, [.ref a1, .ref a2, .ref a3, .int 0, .ref a4, .int 0, .ref a5, .int 0, .ref a6]))]) hP hD [0] [] rfl rfl (by decide) (by decide) hk1 hFc hP1 hD1
  clear hP1 hD1 hPc hDc hFc hk1 hz1
  generalize H1 = H at hP hS ⊢
  have hP : va_P D vwCl [(a0, .inr (13, [.ref a1, .ref a2, .ref a3, .int 0, .ref a4, .int 0, .ref a5, .int 0, .ref a6]))] H := hP
  have hD : va_D A [(a0, .inr (13, [.ref a1, .ref a2, .ref a3, .int 0, .ref a4, .int 0, .ref a5, .int 0, .ref a6]))] := hD
  refine W.widen (k := 0) (n := 0) (Nat.le_of_ble_eq_true rfl) (Nat.le_of_ble_eq_true rfl) ?_
  obtain rfl : r_1 = none := hw
  refine W.eq (g2 := F0 m 5 ls [.null]) rfl ?_
  refine lv_astoreN (lv' := [(4, .null), (0, .ref a0), (1, .int k0), (2, .int k1), (3, .int k2)]) hx hb dX11_field_5 hl (by decide) rfl (fun ls hl => ?_)
  refine lv_aloadN hx hb dX11_field_7 (lv_at hl 0 rfl) ?_
  refine lv_ifnullN (tgt := 27) hx hb dX11_field_9 (by decide) ?_
  exact g_iae hx hb hfl hts hE hAF hown (List.mem_of_getElem? (i := 1) rfl) (List.mem_of_getElem? (i := 2) rfl) (is := 111) (text := "no such class, name or type") (by decide +kernel) (fun _ h => List.mem_cons_of_mem _ (List.mem_append_left _ (List.mem_append_right _ h))) hS (by rw [hml]; exact hl.1) dX11_field_27 dX11_field_30 dX11_field_31 dX11_field_33 dX11_field_36 hout (by decide) (by decide) (Nat.le_of_ble_eq_true rfl) (Nat.le_of_ble_eq_true rfl) hlocks (fun t h1 h2 h3 => ⟨(), trivial, ⟨rfl, by simp⟩, Nat.le_trans hS.1 h2, fun q h4 h5 => (h3 q (Nat.lt_of_lt_of_le h4 hS.1)).trans (hS.2.1 q h4 h5)⟩) hS.2.2 (Nat.le_of_ble_eq_true rfl) (Nat.le_of_ble_eq_true rfl)
set_option maxHeartbeats 1000000 in
set_option maxRecDepth 100000 in
theorem C_L_field_1 (l : Launch) (hfl : l.stackTraces = false) (D : va_G) (cy : Nat → ClassId) (sz0 : Nat) (sa : Nat → Nat) (a0 a1 a2 a3 a4 a5 a6 a7 : Nat) (sz : Nat) (k0 : Int32) (k1 : Int32) (k2 : Int32) : Met l yL_field wsL_field ({ frames := 7, cells := 1, slots := 6, locals := 106 }) (PcW D cy sz0 sa [.ref a0, .int k0, .int k1, .int k2, .ref a1] [(a0, .inr (13, [.ref a2, .ref a3, .ref a4, .int 0, .ref a5, .int 0, .ref a6, .int 0, .ref a7]))] sz) (va_Qi (fun (r : Int32) (u : Unit) => r = 1) (fun (_ : Unit) (_ : State) => True) (va_A [(a0, .inr (13, [.ref a2, .ref a3, .ref a4, .int 0, .ref a5, .int 0, .ref a6, .int 0, .ref a7]))] sz)) 1 6 (va_A [(a0, .inr (13, [.ref a2, .ref a3, .ref a4, .int 0, .ref a5, .int 0, .ref a6, .int 0, .ref a7]))] sz) := by
  refine va_MetW (cc := cL_field) (maxL := 6) (ret := (some .int)) (hh := [(0, 12, 15, 13), (0, 12, 19, 15)]) (by decide) rfl ?_
  intro p e s m args below meth c s₁ B hml hv
  obtain ⟨rfl, hsz, hP, hD0, hE⟩ := hv
  have hx := B.exec
  have hb := B.bytes
  have hr := B.returns
  have hts := atoms_spec (ws := wsL_field) B.pre
  have hown : s.vm.findClass RL = some m.cls := findClass_of_methodNamed B.named
  have hlocks := B.notSynchronized
  subst hsz
  have hK := hE.1
  have hAm := hE.2.2.1
  have hWm := hE.2.2.2
  have hAO := hWm.2.2.2.1
  have hD := hD0.self (sz := s.heap.size)
  have hAF := frA hD0 hE.2.1
  generalize hAe : va_A [(a0, .inr (13, [.ref a2, .ref a3, .ref a4, .int 0, .ref a5, .int 0, .ref a6, .int 0, .ref a7]))] s.heap.size = A at hD hAF ⊢
  have hA : ∀ q : Nat, s.heap.size ≤ q → A q := fun q h => by rw [← hAe]; exact Or.inr h
  have hS : va_S A s.heap s.heap [] := va_S.rf
  have hl := lv_entry ([.ref a0, .int k0, .int k1, .int k2, .ref a1]) (n := 6) (Nat.le_of_ble_eq_true rfl)
  rw [lg_entry_eq]
  generalize (lg_sl ([.ref a0, .int k0, .int k1, .int k2, .ref a1]) ++ List.replicate (6 - (lg_sl ([.ref a0, .int k0, .int k1, .int k2, .ref a1])).length) Slot.unset).toArray = ls at hl ⊢
  have hl : lv_has ls 6 [(0, .ref a0), (1, .int k0), (2, .int k1), (3, .int k2), (4, .ref a1)] := hl
  have hP : va_P D vwCl [(a0, .inr (13, [.ref a2, .ref a3, .ref a4, .int 0, .ref a5, .int 0, .ref a6, .int 0, .ref a7]))] s.heap := hP
  refine lv_aload hx hb dL_field_0 (lv_at hl 4 rfl) ?_
  refine lv_iconst (v := 0) hx hb dL_field_2 (by decide +kernel) ?_
  refine lv_aload_n hx hb dL_field_3 rfl (lv_at hl 0 rfl) ?_
  refine lv_iload_n hx hb dL_field_4 rfl (lv_at hl 1 rfl) ?_
  refine lv_iload_n hx hb dL_field_5 rfl (lv_at hl 2 rfl) ?_
  refine lv_iload_n hx hb dL_field_6 rfl (lv_at hl 3 rfl) ?_
  have hPc := hP.sub (ws' := [(a0, .inr (13, [.ref a2, .ref a3, .ref a4, .int 0, .ref a5, .int 0, .ref a6, .int 0, .ref a7]))]) [0] rfl
  have hDc := hD.sub (ws' := [(a0, .inr (13, [.ref a2, .ref a3, .ref a4, .int 0, .ref a5, .int 0, .ref a6, .int 0, .ref a7]))]) [0] (by decide) rfl
  have hFc := va_free (wc := [(a0, .inr (13, [.ref a2, .ref a3, .ref a4, .int 0, .ref a5, .int 0, .ref a6, .int 0, .ref a7]))]) hD hS hA [0] rfl
  refine vx_calli (vx_runV (As := [.int k0, .int k1, .int k2]) (rest := [.int 0, .ref a1]) ⟨hx, hb, hml, hown, hts⟩ (C_X11_field_1 l hfl D cy sz0 sa a0 a2 a3 a4 a5 a6 a7 s.heap.size k0 k1 k2) (cwV 3 hts gL_field_X11_field rfl rfl rfl (by decide +kernel) ⟨Nat.le_of_ble_eq_true rfl, Nat.le_of_ble_eq_true rfl⟩) ⟨PcW.blind, va_recv hK hPc (ci := 13) (q0 := 0) rfl rfl, PcW.mk hE hS hAF hPc hDc⟩ rfl rfl hl.1 rfl (lv_room (Nat.le_of_ble_eq_true rfl)) dL_field_7 ⟨Nat.le_of_ble_eq_true rfl, Nat.le_of_ble_eq_true rfl⟩) hS (fun q _ h => hFc q h) hFc (fun q _ h => hFc q h) (fun E ce q9 u t H1 locs ht hvm hpx hbx hz1 hk1 hS hq9 hv9 hc9 => ?_) (fun r_1 u t H1 locs ht hvm hw hB hz1 hk1 hS => ?_)
  · obtain ⟨rfl, hxr_1⟩ := hbx
    obtain ⟨hP, hD⟩ := va_join (wr := []) (w1 := []) hP hD [0] [] rfl rfl (by decide) (by decide) hk1 hFc nilP nilD
    skip
    have hq8 := hq9
    clear hPc hDc hFc hk1 hz1
    skip
    have hP : va_P D vwCl [] H1 := hP
    have hD : va_D A [] := hD
    refine vx_widen (k := 1) (n := 6) (Nat.le_of_ble_eq_true rfl) (Nat.le_of_ble_eq_true rfl) ?_
    refine vx_catch hown [] _ _ ((vx_table B (hts (.codeWith yL_field cL_field 6 (some .int) [(0, 12, 15, 13), (0, 12, 19, 15)]) (List.mem_of_getElem? (i := 0) rfl))).trans rfl) (fun z hz => absurd hz List.not_mem_nil) (by decide) (by decide) (hts (.classLink RL 13 "java/lang/IllegalArgumentException") (List.mem_of_getElem? (i := 1) rfl)) (va_Nw.use rfl hWm.2.2.1.2.2.2.1) hq9 hv9 hc9 ?_
    clear hq8 hq9 ht
    generalize H1 = H at hP hS ⊢
    refine lv_astore (lv' := [(5, .ref q9), (0, .ref a0), (1, .int k0), (2, .int k1), (3, .int k2), (4, .ref a1)]) hx hb dL_field_15 hl (by decide) rfl (fun ls hl => ?_)
    refine lv_iconst (v := 1) hx hb dL_field_17 (by decide +kernel) ?_
    refine W.widen (k := 1) (n := 6) (Nat.le_of_ble_eq_true rfl) (Nat.le_of_ble_eq_true rfl) ?_
    exact W.iret (v := 1) hx hb hr (fun t ht hW => ⟨⟨1, (), rfl, rfl, trivial⟩, hS.F ht⟩) hS.2.2 dL_field_18
  · obtain ⟨hP, hD⟩ := va_join (wr := []) (w1 := []) hP hD [0] [] rfl rfl (by decide) (by decide) hk1 hFc nilP nilD
    clear hPc hDc hFc hk1 hz1
    generalize H1 = H at hP hS ⊢
    have hP : va_P D vwCl [] H := hP
    have hD : va_D A [] := hD
    refine W.widen (k := 1) (n := 6) (Nat.le_of_ble_eq_true rfl) (Nat.le_of_ble_eq_true rfl) ?_
    rcases hw with 
set_option maxHeartbeats 1000000 in
set_option maxRecDepth 100000 in
theorem C_X11_method_1 (l : Launch) (hfl : l.stackTraces = false) (D : va_G) (cy : Nat → ClassId) (sz0 : Nat) (sa : Nat → Nat) (a0 a1 a2 a3 a4 a5 a6 : Nat) (sz : Nat) (k0 : Int32) (k1 : Int32) (k2 : Int32) (k3 : Int32) (k4 : Int32) (k5 : Int32) : vx_Met l yX11_method wsX11_method ({ frames := 6, cells := 1, slots := 6, locals := 82 }) (PcW D cy sz0 sa [.ref a0, .int k0, .int k1, .int k2, .int k3, .int k4, .int k5] [(a0, .inr (13, [.ref a1, .ref a2, .ref a3, .int 0, .ref a4, .int 0, .ref a5, .int 0, .ref a6]))] sz) (va_Qi (fun (r : Int32) (u : Unit) => False) (fun (_ : Unit) (_ : State) => True) (va_A [(a0, .inr (13, [.ref a1, .ref a2, .ref a3, .int 0, .ref a4, .int 0, .ref a5, .int 0, .ref a6]))] sz)) (vx_X (fun _ : Unit => True) (fun (E : String) (_ : Unit) (_ : State) => E = tIAE ∧ (True)) (va_A [(a0, .inr (13, [.ref a1, .ref a2, .ref a3, .int 0, .ref a4, .int 0, .ref a5, .int 0, .ref a6]))] sz)) 1 6 (va_A [(a0, .inr (13, [.ref a1, .ref a2, .ref a3, .int 0, .ref a4, .int 0, .ref a5, .int 0, .ref a6]))] sz) := by
  refine vx_ofW (cc := cX11_method) (maxL := 8) (ret := (some .int)) (by decide) rfl ?_
  intro p e s m args below meth c s₁ B hml hout hv
  obtain ⟨rfl, hsz, hP, hD0, hE⟩ := hv
  have hx := B.exec
  have hb := B.bytes
  have hr := B.returns
  have hts := atoms_spec (ws := wsX11_method) B.pre
  have hown : s.vm.findClass RX11 = some m.cls := findClass_of_methodNamed B.named
  have hlocks := B.notSynchronized
  subst hsz
  have hK := hE.1
  have hAm := hE.2.2.1
  have hWm := hE.2.2.2
  have hAO := hWm.2.2.2.1
  have hD := hD0.self (sz := s.heap.size)
  have hAF := frA hD0 hE.2.1
  generalize hAe : va_A [(a0, .inr (13, [.ref a1, .ref a2, .ref a3, .int 0, .ref a4, .int 0, .ref a5, .int 0, .ref a6]))] s.heap.size = A at hD hAF ⊢
  have hA : ∀ q : Nat, s.heap.size ≤ q → A q := fun q h => by rw [← hAe]; exact Or.inr h
  have hS : va_S A s.heap s.heap [] := va_S.rf
  have hl := lv_entry ([.ref a0, .int k0, .int k1, .int k2, .int k3, .int k4, .int k5]) (n := 8) (Nat.le_of_ble_eq_true rfl)
  rw [lg_entry_eq]
  generalize (lg_sl ([.ref a0, .int k0, .int k1, .int k2, .int k3, .int k4, .int k5]) ++ List.replicate (8 - (lg_sl ([.ref a0, .int k0, .int k1, .int k2, .int k3, .int k4, .int k5])).length) Slot.unset).toArray = ls at hl ⊢
  have hl : lv_has ls 8 [(0, .ref a0), (1, .int k0), (2, .int k1), (3, .int k2), (4, .int k3), (5, .int k4), (6, .int k5)] := hl
  have hP : va_P D vwCl [(a0, .inr (13, [.ref a1, .ref a2, .ref a3, .int 0, .ref a4, .int 0, .ref a5, .int 0, .ref a6]))] s.heap := hP
  refine lv_aload_n hx hb dX11_method_0 rfl (lv_at hl 0 rfl) ?_
  refine lv_iload_n hx hb dX11_method_1 rfl (lv_at hl 1 rfl) ?_
  have hPc := hP.sub (ws' := [(a0, .inr (13, [.ref a1, .ref a2, .ref a3, .int 0, .ref a4, .int 0, .ref a5, .int 0, .ref a6]))]) [0] rfl
  have hDc := hD.sub (ws' := [(a0, .inr (13, [.ref a1, .ref a2, .ref a3, .int 0, .ref a4, .int 0, .ref a5, .int 0, .ref a6]))]) [0] (by decide) rfl
  have hFc := va_free (wc := [(a0, .inr (13, [.ref a1, .ref a2, .ref a3, .int 0, .ref a4, .int 0, .ref a5, .int 0, .ref a6]))]) hD hS hA [0] rfl
  refine va_callq (va_runV (As := [.int k0]) (rest := []) ⟨hx, hb, hml, hown, hts⟩ (C_X11_familyAt_1 l D cy sz0 sa a0 a1 a2 a3 a4 a5 a6 s.heap.size k0) (cwV 1 hts gX11_method_X11_familyAt rfl rfl rfl (by decide +kernel) ⟨Nat.le_of_ble_eq_true rfl, Nat.le_of_ble_eq_true rfl⟩) ⟨PcW.blind, va_recv hK hPc (ci := 13) (q0 := 0) rfl rfl, PcW.mk hE hS hAF hPc hDc⟩ rfl rfl hl.1 rfl (lv_room (Nat.le_of_ble_eq_true rfl)) dX11_method_2 ⟨Nat.le_of_ble_eq_true rfl, Nat.le_of_ble_eq_true rfl⟩) hS (fun q _ h => hFc q h) hFc (fun r_1 u t H1 locs ht hvm hw hB hz1 hk1 hS => ?_)
  obtain ⟨hP1, hD1⟩ := hB
  rw [ht] at hP1
  have hP1 : va_P D vwCl [(a0, .inr (13, [.ref a1, .ref a2, .ref a3, .int 0, .ref a4, .int 0, .ref a5, .int 0, .ref a6]))] H1 := hP1
  obtain ⟨hP, hD⟩ := va_join (wr := []) (w1 := [(a0, .inr (13, [.ref a1, .ref a2, .ref a3, .int 0, .ref a4, .int 0, .ref a5, .int 0, .ref a6]))]) hP hD [0] [] rfl rfl (by decide) (by decide) hk1 hFc hP1 hD1
  clear hP1 hD1 hPc hDc hFc hk1 hz1
  generalize H1 = H at hP hS ⊢
  have hP : va_P D vwCl [(a0, .inr (13, [.ref a1, .ref a2, .ref a3, .int 0, .ref a4, .int 0, .ref a5, .int 0, .ref a6]))] H := hP
  have hD : va_D A [(a0, .inr (13, [.ref a1, .ref a2, .ref a3, .int 0, .ref a4, .int 0, .ref a5, .int 0, .ref a6]))] := hD
  refine W.widen (k := 0) (n := 0) (Nat.le_of_ble_eq_true rfl) (Nat.le_of_ble_eq_true rfl) ?_
  obtain rfl : r_1 = none := hw
  refine W.eq (g2 := F0 m 5 ls [.null]) rfl ?_
  refine lv_astoreN (lv' := [(7, .null), (0, .ref a0), (1, .int k0), (2, .int k1), (3, .int k2), (4, .int k3), (5, .int k4), (6, .int k5)]) hx hb dX11_method_5 hl (by decide) rfl (fun ls hl => ?_)
  refine lv_aloadN hx hb dX11_method_7 (lv_at hl 0 rfl) ?_
  refine lv_ifnullN (tgt := 40) hx hb dX11_method_9 (by decide) ?_
  exact g_iae hx hb hfl hts hE hAF hown (List.mem_of_getElem? (i := 1) rfl) (List.mem_of_getElem? (i := 2) rfl) (is := 133) (text := "no such class, name, type or action") (by decide +kernel) (fun _ h => List.mem_cons_of_mem _ (List.mem_append_left _ (List.mem_append_right _ h))) hS (by rw [hml]; exact hl.1) dX11_method_40 dX11_method_43 dX11_method_44 dX11_method_46 dX11_method_49 hout (by decide) (by decide) (Nat.le_of_ble_eq_true rfl) (Nat.le_of_ble_eq_true rfl) hlocks (fun t h1 h2 h3 => ⟨(), trivial, ⟨rfl, by simp⟩, Nat.le_trans hS.1 h2, fun q h4 h5 => (h3 q (Nat.lt_of_lt_of_le h4 hS.1)).trans (hS.2.1 q h4 h5)⟩) hS.2.2 (Nat.le_of_ble_eq_true rfl) (Nat.le_of_ble_eq_true rfl)
set_option maxHeartbeats 1000000 in
set_option maxRecDepth 100000 in
theorem C_L_method_1 (l : Launch) (hfl : l.stackTraces = false) (D : va_G) (cy : Nat → ClassId) (sz0 : Nat) (sa : Nat → Nat) (a0 a1 a2 a3 a4 a5 a6 a7 : Nat) (sz : Nat) (k0 : Int32) (k1 : Int32) (k2 : Int32) (k3 : Int32) (k4 : Int32) (k5 : Int32) : Met l yL_method wsL_method ({ frames := 7, cells := 1, slots := 6, locals := 109 }) (PcW D cy sz0 sa [.ref a0, .int k0, .int k1, .int k2, .int k3, .int k4, .int k5, .ref a1] [(a0, .inr (13, [.ref a2, .ref a3, .ref a4, .int 0, .ref a5, .int 0, .ref a6, .int 0, .ref a7]))] sz) (va_Qi (fun (r : Int32) (u : Unit) => r = 1) (fun (_ : Unit) (_ : State) => True) (va_A [(a0, .inr (13, [.ref a2, .ref a3, .ref a4, .int 0, .ref a5, .int 0, .ref a6, .int 0, .ref a7]))] sz)) 1 6 (va_A [(a0, .inr (13, [.ref a2, .ref a3, .ref a4, .int 0, .ref a5, .int 0, .ref a6, .int 0, .ref a7]))] sz) := by
  refine va_MetW (cc := cL_method) (maxL := 9) (ret := (some .int)) (hh := [(0, 18, 21, 13), (0, 18, 25, 15)]) (by decide) rfl ?_
  intro p e s m args below meth c s₁ B hml hv
  obtain ⟨rfl, hsz, hP, hD0, hE⟩ := hv
  have hx := B.exec
  have hb := B.bytes
  have hr := B.returns
  have hts := atoms_spec (ws := wsL_method) B.pre
  have hown : s.vm.findClass RL = some m.cls := findClass_of_methodNamed B.named
  have hlocks := B.notSynchronized
  subst hsz
  have hK := hE.1
  have hAm := hE.2.2.1
  have hWm := hE.2.2.2
  have hAO := hWm.2.2.2.1
  have hD := hD0.self (sz := s.heap.size)
  have hAF := frA hD0 hE.2.1
  generalize hAe : va_A [(a0, .inr (13, [.ref a2, .ref a3, .ref a4, .int 0, .ref a5, .int 0, .ref a6, .int 0, .ref a7]))] s.heap.size = A at hD hAF ⊢
  have hA : ∀ q : Nat, s.heap.size ≤ q → A q := fun q h => by rw [← hAe]; exact Or.inr h
  have hS : va_S A s.heap s.heap [] := va_S.rf
  have hl := lv_entry ([.ref a0, .int k0, .int k1, .int k2, .int k3, .int k4, .int k5, .ref a1]) (n := 9) (Nat.le_of_ble_eq_true rfl)
  rw [lg_entry_eq]
  generalize (lg_sl ([.ref a0, .int k0, .int k1, .int k2, .int k3, .int k4, .int k5, .ref a1]) ++ List.replicate (9 - (lg_sl ([.ref a0, .int k0, .int k1, .int k2, .int k3, .int k4, .int k5, .ref a1])).length) Slot.unset).toArray = ls at hl ⊢
  have hl : lv_has ls 9 [(0, .ref a0), (1, .int k0), (2, .int k1), (3, .int k2), (4, .int k3), (5, .int k4), (6, .int k5), (7, .ref a1)] := hl
  have hP : va_P D vwCl [(a0, .inr (13, [.ref a2, .ref a3, .ref a4, .int 0, .ref a5, .int 0, .ref a6, .int 0, .ref a7]))] s.heap := hP
  refine lv_aload hx hb dL_method_0 (lv_at hl 7 rfl) ?_
  refine lv_iconst (v := 0) hx hb dL_method_2 (by decide +kernel) ?_
  refine lv_aload_n hx hb dL_method_3 rfl (lv_at hl 0 rfl) ?_
  refine lv_iload_n hx hb dL_method_4 rfl (lv_at hl 1 rfl) ?_
  refine lv_iload_n hx hb dL_method_5 rfl (lv_at hl 2 rfl) ?_
  refine lv_iload_n hx hb dL_method_6 rfl (lv_at hl 3 rfl) ?_
  refine lv_iload hx hb dL_method_7 (lv_at hl 4 rfl) ?_
  refine lv_iload hx hb dL_method_9 (lv_at hl 5 rfl) ?_
  refine lv_iload hx hb dL_method_11 (lv_at hl 6 rfl) ?_
  have hPc := hP.sub (ws' := [(a0, .inr (13, [.ref a2, .ref a3, .ref a4, .int 0, .ref a5, .int 0, .ref a6, .int 0, .ref a7]))]) [0] rfl
  have hDc := hD.sub (ws' := [(a0, .inr (13, [.ref a2, .ref a3, .ref a4, .int 0, .ref a5, .int 0, .ref a6, .int 0, .ref a7]))]) [0] (by decide) rfl
  have hFc := va_free (wc := [(a0, .inr (13, [.ref a2, .ref a3, .ref a4, .int 0, .ref a5, .int 0, .ref a6, .int 0, .ref a7]))]) hD hS hA [0] rfl
  refine vx_calli (vx_runV (As := [.int k0, .int k1, .int k2, .int k3, .int k4, .int k5]) (rest := [.int 0, .ref a1]) ⟨hx, hb, hml, hown, hts⟩ (C_X11_method_1 l hfl D cy sz0 sa a0 a2 a3 a4 a5 a6 a7 s.heap.size k0 k1 k2 k3 k4 k5) (cwV 6 hts gL_method_X11_method rfl rfl rfl (by decide +kernel) ⟨Nat.le_of_ble_eq_true rfl, Nat.le_of_ble_eq_true rfl⟩) ⟨PcW.blind, va_recv hK hPc (ci := 13) (q0 := 0) rfl rfl, PcW.mk hE hS hAF hPc hDc⟩ rfl rfl hl.1 rfl (lv_room (Nat.le_of_ble_eq_true rfl)) dL_method_13 ⟨Nat.le_of_ble_eq_true rfl, Nat.le_of_ble_eq_true rfl⟩) hS (fun q _ h => hFc q h) hFc (fun q _ h => hFc q h) (fun E ce q9 u t H1 locs ht hvm hpx hbx hz1 hk1 hS hq9 hv9 hc9 => ?_) (fun r_1 u t H1 locs ht hvm hw hB hz1 hk1 hS => ?_)
  · obtain ⟨rfl, hxr_1⟩ := hbx
    obtain ⟨hP, hD⟩ := va_join (wr := []) (w1 := []) hP hD [0] [] rfl rfl (by decide) (by decide) hk1 hFc nilP nilD
    skip
    have hq8 := hq9
    clear hPc hDc hFc hk1 hz1
    skip
    have hP : va_P D vwCl [] H1 := hP
    have hD : va_D A [] := hD
    refine vx_widen (k := 1) (n := 6) (Nat.le_of_ble_eq_true rfl) (Nat.le_of_ble_eq_true rfl) ?_
    refine vx_catch hown [] _ _ ((vx_table B (hts (.codeWith yL_method cL_method 9 (some .int) [(0, 18, 21, 13), (0, 18, 25, 15)]) (List.mem_of_getElem? (i := 0) rfl))).trans rfl) (fun z hz => absurd hz List.not_mem_nil) (by decide) (by decide) (hts (.classLink RL 13 "java/lang/IllegalArgumentException") (List.mem_of_getElem? (i := 1) rfl)) (va_Nw.use rfl hWm.2.2.1.2.2.2.1) hq9 hv9 hc9 ?_
    clear hq8 hq9 ht
    generalize H1 = H at hP hS ⊢
    refine lv_astore (lv' := [(8, .ref q9), (0, .ref a0), (1, .int k0), (2, .int k1), (3, .int k2), (4, .int k3), (5, .int k4), (6, .int k5), (7, .ref a1)]) hx hb dL_method_21 hl (by decide) rfl (fun ls hl => ?_)
    refine lv_iconst (v := 1) hx hb dL_method_23 (by decide +kernel) ?_
    refine W.widen (k := 1) (n := 6) (Nat.le_of_ble_eq_true rfl) (Nat.le_of_ble_eq_true rfl) ?_
    exact W.iret (v := 1) hx hb hr (fun t ht hW => ⟨⟨1, (), rfl, rfl, trivial⟩, hS.F ht⟩) hS.2.2 dL_method_24
  · obtain ⟨hP, hD⟩ := va_join (wr := []) (w1 := []) hP hD [0] [] rfl rfl (by decide) (by decide) hk1 hFc nilP nilD
    clear hPc hDc hFc hk1 hz1
    generalize H1 = H at hP hS ⊢
    have hP : va_P D vwCl [] H := hP
    have hD : va_D A [] := hD
    refine W.widen (k := 1) (n := 6) (Nat.le_of_ble_eq_true rfl) (Nat.le_of_ble_eq_true rfl) ?_
    rcases hw with 
set_option maxHeartbeats 1000000 in
set_option maxRecDepth 100000 in
theorem C_X11_make_1 (l : Launch) (hfl : l.stackTraces = false) (D : va_G) (cy : Nat → ClassId) (sz0 : Nat) (sa : Nat → Nat) (a0 a1 a2 a3 a4 a5 a6 : Nat) (sz : Nat) (k0 : Int32) : vx_Met l yX11_make wsX11_make ({ frames := 6, cells := 1, slots := 6, locals := 82 }) (PcW D cy sz0 sa [.ref a0, .int k0] [(a0, .inr (13, [.ref a1, .ref a2, .ref a3, .int 0, .ref a4, .int 0, .ref a5, .int 0, .ref a6]))] sz) (va_Qi (fun (r : Int32) (u : Unit) => False) (fun (_ : Unit) (_ : State) => True) (va_A [(a0, .inr (13, [.ref a1, .ref a2, .ref a3, .int 0, .ref a4, .int 0, .ref a5, .int 0, .ref a6]))] sz)) (vx_X (fun _ : Unit => True) (fun (E : String) (_ : Unit) (_ : State) => E = tIAE ∧ (True)) (va_A [(a0, .inr (13, [.ref a1, .ref a2, .ref a3, .int 0, .ref a4, .int 0, .ref a5, .int 0, .ref a6]))] sz)) 1 6 (va_A [(a0, .inr (13, [.ref a1, .ref a2, .ref a3, .int 0, .ref a4, .int 0, .ref a5, .int 0, .ref a6]))] sz) := by
  refine vx_ofW (cc := cX11_make) (maxL := 3) (ret := (some .int)) (by decide) rfl ?_
  intro p e s m args below meth c s₁ B hml hout hv
  obtain ⟨rfl, hsz, hP, hD0, hE⟩ := hv
  have hx := B.exec
  have hb := B.bytes
  have hr := B.returns
  have hts := atoms_spec (ws := wsX11_make) B.pre
  have hown : s.vm.findClass RX11 = some m.cls := findClass_of_methodNamed B.named
  have hlocks := B.notSynchronized
  subst hsz
  have hK := hE.1
  have hAm := hE.2.2.1
  have hWm := hE.2.2.2
  have hAO := hWm.2.2.2.1
  have hD := hD0.self (sz := s.heap.size)
  have hAF := frA hD0 hE.2.1
  generalize hAe : va_A [(a0, .inr (13, [.ref a1, .ref a2, .ref a3, .int 0, .ref a4, .int 0, .ref a5, .int 0, .ref a6]))] s.heap.size = A at hD hAF ⊢
  have hA : ∀ q : Nat, s.heap.size ≤ q → A q := fun q h => by rw [← hAe]; exact Or.inr h
  have hS : va_S A s.heap s.heap [] := va_S.rf
  have hl := lv_entry ([.ref a0, .int k0]) (n := 3) (Nat.le_of_ble_eq_true rfl)
  rw [lg_entry_eq]
  generalize (lg_sl ([.ref a0, .int k0]) ++ List.replicate (3 - (lg_sl ([.ref a0, .int k0])).length) Slot.unset).toArray = ls at hl ⊢
  have hl : lv_has ls 3 [(0, .ref a0), (1, .int k0)] := hl
  have hP : va_P D vwCl [(a0, .inr (13, [.ref a1, .ref a2, .ref a3, .int 0, .ref a4, .int 0, .ref a5, .int 0, .ref a6]))] s.heap := hP
  refine lv_aload_n hx hb dX11_make_0 rfl (lv_at hl 0 rfl) ?_
  refine lv_iload_n hx hb dX11_make_1 rfl (lv_at hl 1 rfl) ?_
  have hPc := hP.sub (ws' := [(a0, .inr (13, [.ref a1, .ref a2, .ref a3, .int 0, .ref a4, .int 0, .ref a5, .int 0, .ref a6]))]) [0] rfl
  have hDc := hD.sub (ws' := [(a0, .inr (13, [.ref a1, .ref a2, .ref a3, .int 0, .ref a4, .int 0, .ref a5, .int 0, .ref a6]))]) [0] (by decide) rfl
  have hFc := va_free (wc := [(a0, .inr (13, [.ref a1, .ref a2, .ref a3, .int 0, .ref a4, .int 0, .ref a5, .int 0, .ref a6]))]) hD hS hA [0] rfl
  refine va_callq (va_runV (As := [.int k0]) (rest := []) ⟨hx, hb, hml, hown, hts⟩ (C_X11_familyAt_1 l D cy sz0 sa a0 a1 a2 a3 a4 a5 a6 s.heap.size k0) (cwV 1 hts gX11_make_X11_familyAt rfl rfl rfl (by decide +kernel) ⟨Nat.le_of_ble_eq_true rfl, Nat.le_of_ble_eq_true rfl⟩) ⟨PcW.blind, va_recv hK hPc (ci := 13) (q0 := 0) rfl rfl, PcW.mk hE hS hAF hPc hDc⟩ rfl rfl hl.1 rfl (lv_room (Nat.le_of_ble_eq_true rfl)) dX11_make_2 ⟨Nat.le_of_ble_eq_true rfl, Nat.le_of_ble_eq_true rfl⟩) hS (fun q _ h => hFc q h) hFc (fun r_1 u t H1 locs ht hvm hw hB hz1 hk1 hS => ?_)
  obtain ⟨hP1, hD1⟩ := hB
  rw [ht] at hP1
  have hP1 : va_P D vwCl [(a0, .inr (13, [.ref a1, .ref a2, .ref a3, .int 0, .ref a4, .int 0, .ref a5, .int 0, .ref a6]))] H1 := hP1
  obtain ⟨hP, hD⟩ := va_join (wr := []) (w1 := [(a0, .inr (13, [.ref a1, .ref a2, .ref a3, .int 0, .ref a4, .int 0, .ref a5, .int 0, .ref a6]))]) hP hD [0] [] rfl rfl (by decide) (by decide) hk1 hFc hP1 hD1
  clear hP1 hD1 hPc hDc hFc hk1 hz1
  generalize H1 = H at hP hS ⊢
  have hP : va_P D vwCl [(a0, .inr (13, [.ref a1, .ref a2, .ref a3, .int 0, .ref a4, .int 0, .ref a5, .int 0, .ref a6]))] H := hP
  have hD : va_D A [(a0, .inr (13, [.ref a1, .ref a2, .ref a3, .int 0, .ref a4, .int 0, .ref a5, .int 0, .ref a6]))] := hD
  refine W.widen (k := 0) (n := 0) (Nat.le_of_ble_eq_true rfl) (Nat.le_of_ble_eq_true rfl) ?_
  obtain rfl : r_1 = none := hw
  refine W.eq (g2 := F0 m 5 ls [.null]) rfl ?_
  refine lv_astore_nN (lv' := [(2, .null), (0, .ref a0), (1, .int k0)]) hx hb dX11_make_5 rfl hl (by decide) rfl (fun ls hl => ?_)
  refine lv_aload_nN hx hb dX11_make_6 rfl (lv_at hl 0 rfl) ?_
  refine lv_ifnonnullN hx hb dX11_make_7 ?_
  exact g_iae hx hb hfl hts hE hAF hown (List.mem_of_getElem? (i := 1) rfl) (List.mem_of_getElem? (i := 2) rfl) (is := 149) (text := "there is no such class") (by decide +kernel) (fun _ h => List.mem_cons_of_mem _ (List.mem_append_left _ (List.mem_append_right _ h))) hS (by rw [hml]; exact hl.1) dX11_make_10 dX11_make_13 dX11_make_14 dX11_make_16 dX11_make_19 hout (by decide) (by decide) (Nat.le_of_ble_eq_true rfl) (Nat.le_of_ble_eq_true rfl) hlocks (fun t h1 h2 h3 => ⟨(), trivial, ⟨rfl, by simp⟩, Nat.le_trans hS.1 h2, fun q h4 h5 => (h3 q (Nat.lt_of_lt_of_le h4 hS.1)).trans (hS.2.1 q h4 h5)⟩) hS.2.2 (Nat.le_of_ble_eq_true rfl) (Nat.le_of_ble_eq_true rfl)
set_option maxHeartbeats 1000000 in
set_option maxRecDepth 100000 in
theorem C_L_make_1 (l : Launch) (hfl : l.stackTraces = false) (D : va_G) (cy : Nat → ClassId) (sz0 : Nat) (sa : Nat → Nat) (a0 a1 a2 a3 a4 a5 a6 a7 : Nat) (sz : Nat) (k0 : Int32) : Met l yL_make wsL_make ({ frames := 7, cells := 1, slots := 6, locals := 104 }) (PcW D cy sz0 sa [.ref a0, .int k0, .ref a1] [(a0, .inr (13, [.ref a2, .ref a3, .ref a4, .int 0, .ref a5, .int 0, .ref a6, .int 0, .ref a7]))] sz) (va_Qi (fun (r : Int32) (u : Unit) => r = 1) (fun (_ : Unit) (_ : State) => True) (va_A [(a0, .inr (13, [.ref a2, .ref a3, .ref a4, .int 0, .ref a5, .int 0, .ref a6, .int 0, .ref a7]))] sz)) 1 6 (va_A [(a0, .inr (13, [.ref a2, .ref a3, .ref a4, .int 0, .ref a5, .int 0, .ref a6, .int 0, .ref a7]))] sz) := by
  refine va_MetW (cc := cL_make) (maxL := 4) (ret := (some .int)) (hh := [(0, 9, 12, 13), (0, 9, 15, 15)]) (by decide) rfl ?_
  intro p e s m args below meth c s₁ B hml hv
  obtain ⟨rfl, hsz, hP, hD0, hE⟩ := hv
  have hx := B.exec
  have hb := B.bytes
  have hr := B.returns
  have hts := atoms_spec (ws := wsL_make) B.pre
  have hown : s.vm.findClass RL = some m.cls := findClass_of_methodNamed B.named
  have hlocks := B.notSynchronized
  subst hsz
  have hK := hE.1
  have hAm := hE.2.2.1
  have hWm := hE.2.2.2
  have hAO := hWm.2.2.2.1
  have hD := hD0.self (sz := s.heap.size)
  have hAF := frA hD0 hE.2.1
  generalize hAe : va_A [(a0, .inr (13, [.ref a2, .ref a3, .ref a4, .int 0, .ref a5, .int 0, .ref a6, .int 0, .ref a7]))] s.heap.size = A at hD hAF ⊢
  have hA : ∀ q : Nat, s.heap.size ≤ q → A q := fun q h => by rw [← hAe]; exact Or.inr h
  have hS : va_S A s.heap s.heap [] := va_S.rf
  have hl := lv_entry ([.ref a0, .int k0, .ref a1]) (n := 4) (Nat.le_of_ble_eq_true rfl)
  rw [lg_entry_eq]
  generalize (lg_sl ([.ref a0, .int k0, .ref a1]) ++ List.replicate (4 - (lg_sl ([.ref a0, .int k0, .ref a1])).length) Slot.unset).toArray = ls at hl ⊢
  have hl : lv_has ls 4 [(0, .ref a0), (1, .int k0), (2, .ref a1)] := hl
  have hP : va_P D vwCl [(a0, .inr (13, [.ref a2, .ref a3, .ref a4, .int 0, .ref a5, .int 0, .ref a6, .int 0, .ref a7]))] s.heap := hP
  refine lv_aload_n hx hb dL_make_0 rfl (lv_at hl 2 rfl) ?_
  refine lv_iconst (v := 0) hx hb dL_make_1 (by decide +kernel) ?_
  refine lv_aload_n hx hb dL_make_2 rfl (lv_at hl 0 rfl) ?_
  refine lv_iload_n hx hb dL_make_3 rfl (lv_at hl 1 rfl) ?_
  have hPc := hP.sub (ws' := [(a0, .inr (13, [.ref a2, .ref a3, .ref a4, .int 0, .ref a5, .int 0, .ref a6, .int 0, .ref a7]))]) [0] rfl
  have hDc := hD.sub (ws' := [(a0, .inr (13, [.ref a2, .ref a3, .ref a4, .int 0, .ref a5, .int 0, .ref a6, .int 0, .ref a7]))]) [0] (by decide) rfl
  have hFc := va_free (wc := [(a0, .inr (13, [.ref a2, .ref a3, .ref a4, .int 0, .ref a5, .int 0, .ref a6, .int 0, .ref a7]))]) hD hS hA [0] rfl
  refine vx_calli (vx_runV (As := [.int k0]) (rest := [.int 0, .ref a1]) ⟨hx, hb, hml, hown, hts⟩ (C_X11_make_1 l hfl D cy sz0 sa a0 a2 a3 a4 a5 a6 a7 s.heap.size k0) (cwV 1 hts gL_make_X11_make rfl rfl rfl (by decide +kernel) ⟨Nat.le_of_ble_eq_true rfl, Nat.le_of_ble_eq_true rfl⟩) ⟨PcW.blind, va_recv hK hPc (ci := 13) (q0 := 0) rfl rfl, PcW.mk hE hS hAF hPc hDc⟩ rfl rfl hl.1 rfl (lv_room (Nat.le_of_ble_eq_true rfl)) dL_make_4 ⟨Nat.le_of_ble_eq_true rfl, Nat.le_of_ble_eq_true rfl⟩) hS (fun q _ h => hFc q h) hFc (fun q _ h => hFc q h) (fun E ce q9 u t H1 locs ht hvm hpx hbx hz1 hk1 hS hq9 hv9 hc9 => ?_) (fun r_1 u t H1 locs ht hvm hw hB hz1 hk1 hS => ?_)
  · obtain ⟨rfl, hxr_1⟩ := hbx
    obtain ⟨hP, hD⟩ := va_join (wr := []) (w1 := []) hP hD [0] [] rfl rfl (by decide) (by decide) hk1 hFc nilP nilD
    skip
    have hq8 := hq9
    clear hPc hDc hFc hk1 hz1
    skip
    have hP : va_P D vwCl [] H1 := hP
    have hD : va_D A [] := hD
    refine vx_widen (k := 1) (n := 6) (Nat.le_of_ble_eq_true rfl) (Nat.le_of_ble_eq_true rfl) ?_
    refine vx_catch hown [] _ _ ((vx_table B (hts (.codeWith yL_make cL_make 4 (some .int) [(0, 9, 12, 13), (0, 9, 15, 15)]) (List.mem_of_getElem? (i := 0) rfl))).trans rfl) (fun z hz => absurd hz List.not_mem_nil) (by decide) (by decide) (hts (.classLink RL 13 "java/lang/IllegalArgumentException") (List.mem_of_getElem? (i := 1) rfl)) (va_Nw.use rfl hWm.2.2.1.2.2.2.1) hq9 hv9 hc9 ?_
    clear hq8 hq9 ht
    generalize H1 = H at hP hS ⊢
    refine lv_astore_n (lv' := [(3, .ref q9), (0, .ref a0), (1, .int k0), (2, .ref a1)]) hx hb dL_make_12 rfl hl (by decide) rfl (fun ls hl => ?_)
    refine lv_iconst (v := 1) hx hb dL_make_13 (by decide +kernel) ?_
    refine W.widen (k := 1) (n := 6) (Nat.le_of_ble_eq_true rfl) (Nat.le_of_ble_eq_true rfl) ?_
    exact W.iret (v := 1) hx hb hr (fun t ht hW => ⟨⟨1, (), rfl, rfl, trivial⟩, hS.F ht⟩) hS.2.2 dL_make_14
  · obtain ⟨hP, hD⟩ := va_join (wr := []) (w1 := []) hP hD [0] [] rfl rfl (by decide) (by decide) hk1 hFc nilP nilD
    clear hPc hDc hFc hk1 hz1
    generalize H1 = H at hP hS ⊢
    have hP : va_P D vwCl [] H := hP
    have hD : va_D A [] := hD
    refine W.widen (k := 1) (n := 6) (Nat.le_of_ble_eq_true rfl) (Nat.le_of_ble_eq_true rfl) ?_
    rcases hw with 
