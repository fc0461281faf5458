def wq_X4_append_10 : List Cond := [.code yX4_append cX4_append 2 none, .fieldLink RX4 38 "PhraseDesk$Lexer" "length" "I", .fieldLink RX4 9 "PhraseDesk$Lexer" "letters" "[C"]
def wq_X4_append_1 : List Cond := wq_X4_append_10 ++ wsX40
set_option maxHeartbeats 4000000 in
set_option maxRecDepth 100000 in
theorem C_X4_append_1 (l : Launch) (D : va_G) (cy : Nat → ClassId) (sz0 : Nat) (sa : Nat → Nat) (a0 a1 a2 a3 a4 a5 a6 : Nat) (sz : Nat) (k0 : Int32) : Met l yX4_append wq_X4_append_1 ({ frames := 0, cells := 0, slots := 0, locals := 0 }) (PcW D cy sz0 sa [.ref a0, .int k0] [(a0, .inr (6, [.ref a1, .int 0, .ref a2, .ref a3, .ref a4, .ref a5, .int 0, .ref a6])), (a1, .inl (cy 4, 40, .inl (fun _ => 0)))] sz) (va_Qv (fun (u : Unit) => True) (fun (u : Unit) (t : State) => BW D [(a0, .inr (6, [.ref a1, .int 1, .ref a2, .ref a3, .ref a4, .ref a5, .int 0, .ref a6])), (a1, .inl (cy 4, 40, .inl (upd (fun _ => 0) 0 (vp_nar .char k0))))] (va_A [(a0, .inr (6, [.ref a1, .int 0, .ref a2, .ref a3, .ref a4, .ref a5, .int 0, .ref a6])), (a1, .inl (cy 4, 40, .inl (fun _ => 0)))] sz) t) (va_A [(a0, .inr (6, [.ref a1, .int 0, .ref a2, .ref a3, .ref a4, .ref a5, .int 0, .ref a6])), (a1, .inl (cy 4, 40, .inl (fun _ => 0)))] sz)) 0 0 (va_A [(a0, .inr (6, [.ref a1, .int 0, .ref a2, .ref a3, .ref a4, .ref a5, .int 0, .ref a6])), (a1, .inl (cy 4, 40, .inl (fun _ => 0)))] sz) := by
  refine Met.ofW (cc := cX4_append) (maxL := 2) (ret := none) (by decide) rfl ?_
  intro p e s m args below meth c s₁ B hml hv
  obtain ⟨rfl, hsz, hP, hD0, hE⟩ := hv
  have hx := B.exec
  have hb := B.bytes
  have hr := B.returns
  have hts := atoms_spec (ws := wq_X4_append_1) B.pre
  have hown : s.vm.findClass RX4 = some m.cls := findClass_of_methodNamed B.named
  have hlocks := B.notSynchronized
  subst hsz
  have hK := hE.1
  have hAm := hE.2.2.1
  have hWm := hE.2.2.2
  have hAO := hWm.2.2.2.1
  have hD := hD0.self (sz := s.heap.size)
  have hAF := frA hD0 hE.2.1
  generalize hAe : va_A [(a0, .inr (6, [.ref a1, .int 0, .ref a2, .ref a3, .ref a4, .ref a5, .int 0, .ref a6])), (a1, .inl (cy 4, 40, .inl (fun _ => 0)))] s.heap.size = A at hD hAF ⊢
  have hA : ∀ q : Nat, s.heap.size ≤ q → A q := fun q h => by rw [← hAe]; exact Or.inr h
  have hS : va_S A s.heap s.heap [] := va_S.rf
  have hl := lv_entry ([.ref a0, .int k0]) (n := 2) (Nat.le_of_ble_eq_true rfl)
  rw [lg_entry_eq]
  generalize (lg_sl ([.ref a0, .int k0]) ++ List.replicate (2 - (lg_sl ([.ref a0, .int k0])).length) Slot.unset).toArray = ls at hl ⊢
  have hl : lv_has ls 2 [(0, .ref a0), (1, .int k0)] := hl
  have hP : va_P D vwCl [(a0, .inr (6, [.ref a1, .int 0, .ref a2, .ref a3, .ref a4, .ref a5, .int 0, .ref a6])), (a1, .inl (cy 4, 40, .inl (fun _ => 0)))] s.heap := hP
  refine lv_aload_n hx hb dX4_append_0 rfl (lv_at hl 0 rfl) ?_
  refine va_get (D := D) (ci := 6) (v := .int 0) (C := RX4) (T := TX4) (N := 8) hx hb hts (fun _ h => (List.mem_append_right _ h)) hown hK hP 0 rfl rfl 1 (by decide) (hts (.fieldLink RX4 38 "PhraseDesk$Lexer" "length" "I") (List.mem_of_getElem? (i := 1) rfl)) (fun _ h9 => h9) rfl dX4_append_1 ?_
  refine lv_aload_n hx hb dX4_append_4 rfl (lv_at hl 0 rfl) ?_
  refine va_get (D := D) (ci := 6) (v := .ref a1) (C := RX4) (T := TX4) (N := 8) hx hb hts (fun _ h => (List.mem_append_right _ h)) hown hK hP 0 rfl rfl 0 (by decide) (hts (.fieldLink RX4 9 "PhraseDesk$Lexer" "letters" "[C") (List.mem_of_getElem? (i := 2) rfl)) (fun _ h9 => h9) rfl dX4_append_5 ?_
  refine va_alen (v := 40) hx hb hK hP 1 4 rfl rfl rfl dX4_append_8 ?_
  refine lv_icmp_ge (tgt := 32) hx hb dX4_append_9 (by decide) (fun c1 => absurd c1 (by decide +kernel)) (fun _ => ?_)
  refine lv_aload_n hx hb dX4_append_12 rfl (lv_at hl 0 rfl) ?_
  refine va_get (D := D) (ci := 6) (v := .ref a1) (C := RX4) (T := TX4) (N := 8) hx hb hts (fun _ h => (List.mem_append_right _ h)) hown hK hP 0 rfl rfl 0 (by decide) (hts (.fieldLink RX4 9 "PhraseDesk$Lexer" "letters" "[C") (List.mem_of_getElem? (i := 2) rfl)) (fun _ h9 => h9) rfl dX4_append_13 ?_
  refine lv_aload_n hx hb dX4_append_16 rfl (lv_at hl 0 rfl) ?_
  refine va_get (D := D) (ci := 6) (v := .int 0) (C := RX4) (T := TX4) (N := 8) hx hb hts (fun _ h => (List.mem_append_right _ h)) hown hK hP 0 rfl rfl 1 (by decide) (hts (.fieldLink RX4 38 "PhraseDesk$Lexer" "length" "I") (List.mem_of_getElem? (i := 1) rfl)) (fun _ h9 => h9) rfl dX4_append_17 ?_
  refine lv_iload_n hx hb dX4_append_20 rfl (lv_at hl 1 rfl) ?_
  refine va_cast hx hb hK hP hD hS 1 4 rfl rfl (by unfold vp_in; decide +kernel) dX4_append_21 (fun H locs hP hD hS => ?_)
  have hP : va_P D vwCl [(a0, .inr (6, [.ref a1, .int 0, .ref a2, .ref a3, .ref a4, .ref a5, .int 0, .ref a6])), (a1, .inl (cy 4, 40, .inl (upd (fun _ => 0) 0 (vp_nar .char k0))))] H := hP
  have hD : va_D A [(a0, .inr (6, [.ref a1, .int 0, .ref a2, .ref a3, .ref a4, .ref a5, .int 0, .ref a6])), (a1, .inl (cy 4, 40, .inl (upd (fun _ => 0) 0 (vp_nar .char k0))))] := hD
  refine lv_aload_n hx hb dX4_append_22 rfl (lv_at hl 0 rfl) ?_
  refine lv_dup hx hb dX4_append_23 rfl ?_
  refine va_get (D := D) (ci := 6) (v := .int 0) (C := RX4) (T := TX4) (N := 8) hx hb hts (fun _ h => (List.mem_append_right _ h)) hown hK hP 0 rfl rfl 1 (by decide) (hts (.fieldLink RX4 38 "PhraseDesk$Lexer" "length" "I") (List.mem_of_getElem? (i := 1) rfl)) (fun _ h9 => h9) rfl dX4_append_24 ?_
  refine lv_iconst (v := 1) hx hb dX4_append_27 (by decide +kernel) ?_
  refine lv_iadd hx hb dX4_append_28 ?_
  refine lv_topi (fun x2 ex2 => ?_)
  obtain rfl : x2 = 1 := ex2.trans (by decide +kernel)
  refine va_put (D := D) (ci := 6) (v := .int 1) (ty := .int) (C := RX4) (T := TX4) (N := 8) hx hb hts (fun _ h => (List.mem_append_right _ h)) tyX4 tyX4_ok nmX4 hown hK hP hD hS 0 rfl rfl 1 (by decide) (hts (.fieldLink RX4 38 "PhraseDesk$Lexer" "length" "I") (List.mem_of_getElem? (i := 1) rfl)) (fun _ h9 => h9) rfl (by decide +kernel) rfl rfl (Nat.le_of_ble_eq_true rfl) dX4_append_29 (fun H locs hP hD hS => ?_)
  have hP : va_P D vwCl [(a0, .inr (6, [.ref a1, .int 1, .ref a2, .ref a3, .ref a4, .ref a5, .int 0, .ref a6])), (a1, .inl (cy 4, 40, .inl (upd (fun _ => 0) 0 (vp_nar .char k0))))] H := hP
  have hD : va_D A [(a0, .inr (6, [.ref a1, .int 1, .ref a2, .ref a3, .ref a4, .ref a5, .int 0, .ref a6])), (a1, .inl (cy 4, 40, .inl (upd (fun _ => 0) 0 (vp_nar .char k0))))] := hD
  refine W.widen (k := 0) (n := 0) (Nat.le_of_ble_eq_true rfl) (Nat.le_of_ble_eq_true rfl) ?_
  have hP9 := hP.sub (ws' := [(a0, .inr (6, [.ref a1, .int 1, .ref a2, .ref a3, .ref a4, .ref a5, .int 0, .ref a6])), (a1, .inl (cy 4, 40, .inl (upd (fun _ => 0) 0 (vp_nar .char k0))))]) [0, 1] rfl
  have hD9 := hD.sub (ws' := [(a0, .inr (6, [.ref a1, .int 1, .ref a2, .ref a3, .ref a4, .ref a5, .int 0, .ref a6])), (a1, .inl (cy 4, 40, .inl (upd (fun _ => 0) 0 (vp_nar .char k0))))]) [0, 1] (by decide) rfl
  exact W.vret hx hb hr (fun t ht hW => ⟨⟨(), rfl, trivial, ⟨by rw [ht]; exact hP9, hD9⟩⟩, hS.F ht⟩) hS.2.2 dX4_append_32

def wq_X11_letter_10 : List Cond := [.code yX11_letter cX11_letter 2 (some .int), .classLink RX11 49 "java/lang/IllegalArgumentException", .initialized "java/lang/IllegalArgumentException", .fieldLink RX11 10 "PhraseDesk" "parser" "LPhraseDesk$Parser;", .fieldLink RX11 56 "PhraseDesk$Parser" "lexer" "LPhraseDesk$Lexer;", .fieldLink RX11 60 "PhraseDesk$Lexer" "length" "I", .methodLink RX11 71 yX4_append, .instanceMethod yX4_append, .selects RX4 yX4_append yX4_append, .initialized RX4, .code yX4_append cX4_append 2 none, .fieldLink RX4 38 "PhraseDesk$Lexer" "length" "I", .fieldLink RX4 9 "PhraseDesk$Lexer" "letters" "[C"]
def wq_X11_letter_1 : List Cond := wq_X11_letter_10 ++ wsX110 ++ wsX60 ++ wsX40 ++ (vx_atS RX11 53 tIAE tSup).filter goodWord
set_option maxHeartbeats 4000000 in
set_option maxRecDepth 100000 in
theorem C_X11_letter_1 (l : Launch) (hfl : l.stackTraces = false) (D : va_G) (cy : Nat → ClassId) (sz0 : Nat) (sa : Nat → Nat) (a0 a1 a2 a3 a4 a5 a6 a7 a8 a9 a10 a11 a12 a13 : Nat) (sz : Nat) (k0 : Int32) : vx_Met l yX11_letter wq_X11_letter_1 ({ frames := 6, cells := 1, slots := 6, locals := 82 }) (PcW D cy sz0 sa [.ref a0, .int k0] [(a0, .inr (13, [.ref a1, .ref a4, .ref a5, .int 0, .ref a6, .int 0, .ref a7, .int 0, .ref a8])), (a1, .inr (8, [.ref a2, .int 0, .int 0, .int 0])), (a2, .inr (6, [.ref a3, .int 0, .ref a9, .ref a10, .ref a11, .ref a12, .int 0, .ref a13])), (a3, .inl (cy 4, 40, .inl (fun _ => 0)))] sz) (va_Qi (fun (r : Int32) (u : Unit) => r = 1 ∧ (32 ≤ k0.toInt ∧ k0.toInt ≤ 126)) (fun (_ : Unit) (_ : State) => True) (va_A [(a0, .inr (13, [.ref a1, .ref a4, .ref a5, .int 0, .ref a6, .int 0, .ref a7, .int 0, .ref a8])), (a1, .inr (8, [.ref a2, .int 0, .int 0, .int 0])), (a2, .inr (6, [.ref a3, .int 0, .ref a9, .ref a10, .ref a11, .ref a12, .int 0, .ref a13])), (a3, .inl (cy 4, 40, .inl (fun _ => 0)))] sz)) (vx_X (fun _ : Unit => True) (fun (E : String) (_ : Unit) (_ : State) => E = tIAE ∧ ((k0.toInt < 32) ∨ (32 ≤ k0.toInt ∧ 126 < k0.toInt))) (va_A [(a0, .inr (13, [.ref a1, .ref a4, .ref a5, .int 0, .ref a6, .int 0, .ref a7, .int 0, .ref a8])), (a1, .inr (8, [.ref a2, .int 0, .int 0, .int 0])), (a2, .inr (6, [.ref a3, .int 0, .ref a9, .ref a10, .ref a11, .ref a12, .int 0, .ref a13])), (a3, .inl (cy 4, 40, .inl (fun _ => 0)))] sz)) 1 6 (va_A [(a0, .inr (13, [.ref a1, .ref a4, .ref a5, .int 0, .ref a6, .int 0, .ref a7, .int 0, .ref a8])), (a1, .inr (8, [.ref a2, .int 0, .int 0, .int 0])), (a2, .inr (6, [.ref a3, .int 0, .ref a9, .ref a10, .ref a11, .ref a12, .int 0, .ref a13])), (a3, .inl (cy 4, 40, .inl (fun _ => 0)))] sz) := by
  refine vx_ofW (cc := cX11_letter) (maxL := 2) (ret := (some .int)) (by decide) rfl ?_
  intro p e s m args below meth c s₁ B hml hout hv
  obtain ⟨rfl, hsz, hP, hD0, hE⟩ := hv
  have hx := B.exec
  have hb := B.bytes
  have hr := B.returns
  have hts := atoms_spec (ws := wq_X11_letter_1) B.pre
  have hown : s.vm.findClass RX11 = some m.cls := findClass_of_methodNamed B.named
  have hlocks := B.notSynchronized
  subst hsz
  have hK := hE.1
  have hAm := hE.2.2.1
  have hWm := hE.2.2.2
  have hAO := hWm.2.2.2.1
  have hD := hD0.self (sz := s.heap.size)
  have hAF := frA hD0 hE.2.1
  generalize hAe : va_A [(a0, .inr (13, [.ref a1, .ref a4, .ref a5, .int 0, .ref a6, .int 0, .ref a7, .int 0, .ref a8])), (a1, .inr (8, [.ref a2, .int 0, .int 0, .int 0])), (a2, .inr (6, [.ref a3, .int 0, .ref a9, .ref a10, .ref a11, .ref a12, .int 0, .ref a13])), (a3, .inl (cy 4, 40, .inl (fun _ => 0)))] s.heap.size = A at hD hAF ⊢
  have hA : ∀ q : Nat, s.heap.size ≤ q → A q := fun q h => by rw [← hAe]; exact Or.inr h
  have hS : va_S A s.heap s.heap [] := va_S.rf
  have hl := lv_entry ([.ref a0, .int k0]) (n := 2) (Nat.le_of_ble_eq_true rfl)
  rw [lg_entry_eq]
  generalize (lg_sl ([.ref a0, .int k0]) ++ List.replicate (2 - (lg_sl ([.ref a0, .int k0])).length) Slot.unset).toArray = ls at hl ⊢
  have hl : lv_has ls 2 [(0, .ref a0), (1, .int k0)] := hl
  have hP : va_P D vwCl [(a0, .inr (13, [.ref a1, .ref a4, .ref a5, .int 0, .ref a6, .int 0, .ref a7, .int 0, .ref a8])), (a1, .inr (8, [.ref a2, .int 0, .int 0, .int 0])), (a2, .inr (6, [.ref a3, .int 0, .ref a9, .ref a10, .ref a11, .ref a12, .int 0, .ref a13])), (a3, .inl (cy 4, 40, .inl (fun _ => 0)))] s.heap := hP
  have z32 : (32 : Int32).toInt = 32 := by decide +kernel
  have z126 : (126 : Int32).toInt = 126 := by decide +kernel
  refine lv_iload_n hx hb dX11_letter_0 rfl (lv_at hl 1 rfl) ?_
  refine lv_bipush (v := 32) hx hb dX11_letter_1 (by decide +kernel) ?_
  refine lv_icmp_lt (tgt := 12) hx hb dX11_letter_3 (by decide) (fun c1 => ?_) (fun c1 => ?_)
  · have c1 := z_lt c1
    exact g_iae hx hb hfl hts hE hAF hown (List.mem_of_getElem? (i := 1) rfl) (List.mem_of_getElem? (i := 2) rfl) (is := 51) (text := "no character 32 .. 126") (by decide +kernel) (fun _ h => (List.mem_append_right _ h)) hS (by rw [hml]; exact hl.1) dX11_letter_12 dX11_letter_15 dX11_letter_16 dX11_letter_18 dX11_letter_21 hout (by decide) (by decide) (Nat.le_of_ble_eq_true rfl) (Nat.le_of_ble_eq_true rfl) hlocks (fun t h1 h2 h3 => ⟨(), trivial, ⟨rfl, by omega⟩, Nat.le_trans hS.1 h2, fun q h4 h5 => (h3 q (Nat.lt_of_lt_of_le h4 hS.1)).trans (hS.2.1 q h4 h5)⟩) hS.2.2 (Nat.le_of_ble_eq_true rfl) (Nat.le_of_ble_eq_true rfl)
  · have c1 := z_nlt c1
    refine lv_iload_n hx hb dX11_letter_6 rfl (lv_at hl 1 rfl) ?_
    refine lv_bipush (v := 126) hx hb dX11_letter_7 (by decide +kernel) ?_
    refine lv_icmp_le (tgt := 22) hx hb dX11_letter_9 (by decide) (fun c2 => ?_) (fun c2 => ?_)
    · have c2 := z_le c2
      refine lv_aload_n hx hb dX11_letter_22 rfl (lv_at hl 0 rfl) ?_
      refine va_get (D := D) (ci := 13) (v := .ref a1) (C := RX11) (T := TX11) (N := 9) hx hb hts (fun _ h => (List.mem_append_left _ (List.mem_append_left _ (List.mem_append_left _ (List.mem_append_right _ h))))) hown hK hP 0 rfl rfl 0 (by decide) (hts (.fieldLink RX11 10 "PhraseDesk" "parser" "LPhraseDesk$Parser;") (List.mem_of_getElem? (i := 3) rfl)) (fun _ h9 => h9) rfl dX11_letter_23 ?_
      refine va_get (D := D) (ci := 8) (v := .ref a2) (C := RX6) (T := TX6) (N := 4) hx hb hts (fun _ h => (List.mem_append_left _ (List.mem_append_left _ (List.mem_append_right _ h)))) hown hK hP 1 rfl rfl 0 (by decide) (hts (.fieldLink RX11 56 "PhraseDesk$Parser" "lexer" "LPhraseDesk$Lexer;") (List.mem_of_getElem? (i := 4) rfl)) (fun _ h9 => h9) rfl dX11_letter_26 ?_
      refine va_get (D := D) (ci := 6) (v := .int 0) (C := RX4) (T := TX4) (N := 8) hx hb hts (fun _ h => (List.mem_append_left _ (List.mem_append_right _ h))) hown hK hP 2 rfl rfl 1 (by decide) (hts (.fieldLink RX11 60 "PhraseDesk$Lexer" "length" "I") (List.mem_of_getElem? (i := 5) rfl)) (fun _ h9 => h9) rfl dX11_letter_29 ?_
      refine lv_bipush (v := 40) hx hb dX11_letter_32 (by decide +kernel) ?_
      refine lv_icmp_lt (tgt := 47) hx hb dX11_letter_34 (by decide) (fun _ => ?_) (fun c3 => absurd (by decide +kernel) c3)
      refine lv_aload_n hx hb dX11_letter_47 rfl (lv_at hl 0 rfl) ?_
      refine va_get (D := D) (ci := 13) (v := .ref a1) (C := RX11) (T := TX11) (N := 9) hx hb hts (fun _ h => (List.mem_append_left _ (List.mem_append_left _ (List.mem_append_left _ (List.mem_append_right _ h))))) hown hK hP 0 rfl rfl 0 (by decide) (hts (.fieldLink RX11 10 "PhraseDesk" "parser" "LPhraseDesk$Parser;") (List.mem_of_getElem? (i := 3) rfl)) (fun _ h9 => h9) rfl dX11_letter_48 ?_
      refine va_get (D := D) (ci := 8) (v := .ref a2) (C := RX6) (T := TX6) (N := 4) hx hb hts (fun _ h => (List.mem_append_left _ (List.mem_append_left _ (List.mem_append_right _ h)))) hown hK hP 1 rfl rfl 0 (by decide) (hts (.fieldLink RX11 56 "PhraseDesk$Parser" "lexer" "LPhraseDesk$Lexer;") (List.mem_of_getElem? (i := 4) rfl)) (fun _ h9 => h9) rfl dX11_letter_51 ?_
      refine lv_iload_n hx hb dX11_letter_54 rfl (lv_at hl 1 rfl) ?_
      refine lv_i2c hx hb dX11_letter_55 rfl ?_
      refine lv_topi (fun x4 ex4 => ?_)
      have hPc := hP.sub (ws' := [(a2, .inr (6, [.ref a3, .int 0, .ref a9, .ref a10, .ref a11, .ref a12, .int 0, .ref a13])), (a3, .inl (cy 4, 40, .inl (fun _ => 0)))]) [2, 3] rfl
      have hDc := hD.sub (ws' := [(a2, .inr (6, [.ref a3, .int 0, .ref a9, .ref a10, .ref a11, .ref a12, .int 0, .ref a13])), (a3, .inl (cy 4, 40, .inl (fun _ => 0)))]) [2, 3] (by decide) rfl
      have hFc := va_free (wc := [(a2, .inr (6, [.ref a3, .int 0, .ref a9, .ref a10, .ref a11, .ref a12, .int 0, .ref a13])), (a3, .inl (cy 4, 40, .inl (fun _ => 0)))]) hD hS hA [2, 3] rfl
      refine va_callv (va_runV (As := [.int x4]) (rest := []) ⟨hx, hb, hml, hown, hts⟩ (C_X4_append_1 l D cy sz0 sa a2 a3 a9 a10 a11 a12 a13 s.heap.size x4) (cwV 1 hts (goodIn_app (goodIn_r _ [6, 7, 8, 9] rfl (by decide +kernel)) (goodIn_app (goodIn_r wq_X4_append_10 [10, 11, 12] rfl (by decide +kernel)) (goodIn_sub (fun _ h => (List.mem_append_left _ (List.mem_append_right _ h))) (by decide +kernel)))) rfl rfl rfl (by decide +kernel) ⟨Nat.le_of_ble_eq_true rfl, Nat.le_of_ble_eq_true rfl⟩) ⟨PcW.blind, va_recv hK hPc (ci := 6) (q0 := 0) rfl rfl, PcW.mk hE hS hAF hPc hDc⟩ rfl rfl hl.1 rfl (lv_room (Nat.le_of_ble_eq_true rfl)) dX11_letter_56 ⟨Nat.le_of_ble_eq_true rfl, Nat.le_of_ble_eq_true rfl⟩) hS (fun q _ h => hFc q h) hFc (fun u t H1 locs ht hvm hw hB hz1 hk1 hS => ?_)
      obtain ⟨hP1, hD1⟩ := hB
      rw [ht] at hP1
      have hP1 : va_P D vwCl [(a2, .inr (6, [.ref a3, .int 1, .ref a9, .ref a10, .ref a11, .ref a12, .int 0, .ref a13])), (a3, .inl (cy 4, 40, .inl (upd (fun _ => 0) 0 (vp_nar .char x4))))] H1 := hP1
      obtain ⟨hP, hD⟩ := va_join (wr := [(a0, .inr (13, [.ref a1, .ref a4, .ref a5, .int 0, .ref a6, .int 0, .ref a7, .int 0, .ref a8])), (a1, .inr (8, [.ref a2, .int 0, .int 0, .int 0]))]) (w1 := [(a2, .inr (6, [.ref a3, .int 1, .ref a9, .ref a10, .ref a11, .ref a12, .int 0, .ref a13])), (a3, .inl (cy 4, 40, .inl (upd (fun _ => 0) 0 (vp_nar .char x4))))]) hP hD [2, 3] [0, 1] rfl rfl (by decide) (by decide) hk1 hFc hP1 hD1
      clear hP1 hD1 hPc hDc hFc hk1 hz1
      generalize H1 = H at hP hS ⊢
      have hP : va_P D vwCl [(a0, .inr (13, [.ref a1, .ref a4, .ref a5, .int 0, .ref a6, .int 0, .ref a7, .int 0, .ref a8])), (a1, .inr (8, [.ref a2, .int 0, .int 0, .int 0])), (a2, .inr (6, [.ref a3, .int 1, .ref a9, .ref a10, .ref a11, .ref a12, .int 0, .ref a13])), (a3, .inl (cy 4, 40, .inl (upd (fun _ => 0) 0 (vp_nar .char x4))))] H := hP
      have hD : va_D A [(a0, .inr (13, [.ref a1, .ref a4, .ref a5, .int 0, .ref a6, .int 0, .ref a7, .int 0, .ref a8])), (a1, .inr (8, [.ref a2, .int 0, .int 0, .int 0])), (a2, .inr (6, [.ref a3, .int 1, .ref a9, .ref a10, .ref a11, .ref a12, .int 0, .ref a13])), (a3, .inl (cy 4, 40, .inl (upd (fun _ => 0) 0 (vp_nar .char x4))))] := hD
      refine W.widen (k := 0) (n := 0) (Nat.le_of_ble_eq_true rfl) (Nat.le_of_ble_eq_true rfl) ?_
      refine lv_aload_n hx hb dX11_letter_59 rfl (lv_at hl 0 rfl) ?_
      refine va_get (D := D) (ci := 13) (v := .ref a1) (C := RX11) (T := TX11) (N := 9) hx hb hts (fun _ h => (List.mem_append_left _ (List.mem_append_left _ (List.mem_append_left _ (List.mem_append_right _ h))))) hown hK hP 0 rfl rfl 0 (by decide) (hts (.fieldLink RX11 10 "PhraseDesk" "parser" "LPhraseDesk$Parser;") (List.mem_of_getElem? (i := 3) rfl)) (fun _ h9 => h9) rfl dX11_letter_60 ?_
      refine va_get (D := D) (ci := 8) (v := .ref a2) (C := RX6) (T := TX6) (N := 4) hx hb hts (fun _ h => (List.mem_append_left _ (List.mem_append_left _ (List.mem_append_right _ h)))) hown hK hP 1 rfl rfl 0 (by decide) (hts (.fieldLink RX11 56 "PhraseDesk$Parser" "lexer" "LPhraseDesk$Lexer;") (List.mem_of_getElem? (i := 4) rfl)) (fun _ h9 => h9) rfl dX11_letter_63 ?_
      refine va_get (D := D) (ci := 6) (v := .int 1) (C := RX4) (T := TX4) (N := 8) hx hb hts (fun _ h => (List.mem_append_left _ (List.mem_append_right _ h))) hown hK hP 2 rfl rfl 1 (by decide) (hts (.fieldLink RX11 60 "PhraseDesk$Lexer" "length" "I") (List.mem_of_getElem? (i := 5) rfl)) (fun _ h9 => h9) rfl dX11_letter_66 ?_
      refine vx_ret ?_
      refine W.widen (k := 1) (n := 6) (Nat.le_of_ble_eq_true rfl) (Nat.le_of_ble_eq_true rfl) ?_
      exact W.iret (v := 1) hx hb hr (fun t ht hW => ⟨⟨1, (), rfl, ⟨rfl, by omega⟩, trivial⟩, hS.F ht⟩) hS.2.2 dX11_letter_69
    · have c2 := z_nle c2
      exact g_iae hx hb hfl hts hE hAF hown (List.mem_of_getElem? (i := 1) rfl) (List.mem_of_getElem? (i := 2) rfl) (is := 51) (text := "no character 32 .. 126") (by decide +kernel) (fun _ h => (List.mem_append_right _ h)) hS (by rw [hml]; exact hl.1) dX11_letter_12 dX11_letter_15 dX11_letter_16 dX11_letter_18 dX11_letter_21 hout (by decide) (by decide) (Nat.le_of_ble_eq_true rfl) (Nat.le_of_ble_eq_true rfl) hlocks (fun t h1 h2 h3 => ⟨(), trivial, ⟨rfl, by omega⟩, Nat.le_trans hS.1 h2, fun q h4 h5 => (h3 q (Nat.lt_of_lt_of_le h4 hS.1)).trans (hS.2.1 q h4 h5)⟩) hS.2.2 (Nat.le_of_ble_eq_true rfl) (Nat.le_of_ble_eq_true rfl)

def wq_L_letter_10 : List Cond := [.codeWith yL_letter cL_letter 4 (some .int) [(0, 9, 12, 13), (0, 9, 15, 15)], .methodLink RL 7 yX11_letter, .instanceMethod yX11_letter, .selects RX11 yX11_letter yX11_letter, .initialized RX11, .code yX11_letter cX11_letter 2 (some .int), .classLink RX11 49 "java/lang/IllegalArgumentException", .initialized "java/lang/IllegalArgumentException", .fieldLink RX11 10 "PhraseDesk" "parser" "LPhraseDesk$Parser;", .fieldLink RX11 56 "PhraseDesk$Parser" "lexer" "LPhraseDesk$Lexer;", .fieldLink RX11 60 "PhraseDesk$Lexer" "length" "I", .methodLink RX11 71 yX4_append, .instanceMethod yX4_append, .selects RX4 yX4_append yX4_append, .initialized RX4, .code yX4_append cX4_append 2 none, .fieldLink RX4 38 "PhraseDesk$Lexer" "length" "I", .fieldLink RX4 9 "PhraseDesk$Lexer" "letters" "[C", .classLink RL 13 "java/lang/IllegalArgumentException"]
def wq_L_letter_1 : List Cond := wq_L_letter_10 ++ wsX110 ++ wsX60 ++ wsX40 ++ (vx_atS RX11 53 tIAE tSup).filter goodWord
set_option maxHeartbeats 4000000 in
set_option maxRecDepth 100000 in
theorem C_L_letter_1 (l : Launch) (hfl : l.stackTraces = false) (D : va_G) (cy : Nat → ClassId) (sz0 : Nat) (sa : Nat → Nat) (a0 a1 a2 a3 a4 a5 a6 a7 a8 a9 a10 a11 a12 a13 a14 : Nat) (sz : Nat) (k0 : Int32) : Met l yL_letter wq_L_letter_1 ({ frames := 7, cells := 1, slots := 6, locals := 103 }) (PcW D cy sz0 sa [.ref a0, .int k0, .ref a1] [(a0, .inr (13, [.ref a2, .ref a5, .ref a6, .int 0, .ref a7, .int 0, .ref a8, .int 0, .ref a9])), (a2, .inr (8, [.ref a3, .int 0, .int 0, .int 0])), (a3, .inr (6, [.ref a4, .int 0, .ref a10, .ref a11, .ref a12, .ref a13, .int 0, .ref a14])), (a4, .inl (cy 4, 40, .inl (fun _ => 0))), (a1, .inl (cy 1, 1, .inr (.inl (fun _ => 0))))] sz) (va_Qi (fun (r : Int32) (u : Int64) => (r = 1 ∧ u = 0 ∧ (((k0.toInt < 32) ∨ (32 ≤ k0.toInt ∧ 126 < k0.toInt)))) ∨ (r = 0 ∧ u = 1 ∧ ((32 ≤ k0.toInt ∧ k0.toInt ≤ 126)))) (fun (u : Int64) (t : State) => ∃ f : Nat → Int64, BW D [(a1, .inl (cy 1, 1, .inr (.inl f)))] (va_A [(a0, .inr (13, [.ref a2, .ref a5, .ref a6, .int 0, .ref a7, .int 0, .ref a8, .int 0, .ref a9])), (a2, .inr (8, [.ref a3, .int 0, .int 0, .int 0])), (a3, .inr (6, [.ref a4, .int 0, .ref a10, .ref a11, .ref a12, .ref a13, .int 0, .ref a14])), (a4, .inl (cy 4, 40, .inl (fun _ => 0))), (a1, .inl (cy 1, 1, .inr (.inl (fun _ => 0))))] sz) t ∧ f 0 = u) (va_A [(a0, .inr (13, [.ref a2, .ref a5, .ref a6, .int 0, .ref a7, .int 0, .ref a8, .int 0, .ref a9])), (a2, .inr (8, [.ref a3, .int 0, .int 0, .int 0])), (a3, .inr (6, [.ref a4, .int 0, .ref a10, .ref a11, .ref a12, .ref a13, .int 0, .ref a14])), (a4, .inl (cy 4, 40, .inl (fun _ => 0))), (a1, .inl (cy 1, 1, .inr (.inl (fun _ => 0))))] sz)) 1 6 (va_A [(a0, .inr (13, [.ref a2, .ref a5, .ref a6, .int 0, .ref a7, .int 0, .ref a8, .int 0, .ref a9])), (a2, .inr (8, [.ref a3, .int 0, .int 0, .int 0])), (a3, .inr (6, [.ref a4, .int 0, .ref a10, .ref a11, .ref a12, .ref a13, .int 0, .ref a14])), (a4, .inl (cy 4, 40, .inl (fun _ => 0))), (a1, .inl (cy 1, 1, .inr (.inl (fun _ => 0))))] sz) := by
  refine va_MetW (cc := cL_letter) (maxL := 4) (ret := (some .int)) (hh := [(0, 9, 12, 13), (0, 9, 15, 15)]) (by decide) rfl ?_
  intro p e s m args below meth c s₁ B hml hv
  obtain ⟨rfl, hsz, hP, hD0, hE⟩ := hv
  have hx := B.exec
  have hb := B.bytes
  have hr := B.returns
  have hts := atoms_spec (ws := wq_L_letter_1) B.pre
  have hown : s.vm.findClass RL = some m.cls := findClass_of_methodNamed B.named
  have hlocks := B.notSynchronized
  subst hsz
  have hK := hE.1
  have hAm := hE.2.2.1
  have hWm := hE.2.2.2
  have hAO := hWm.2.2.2.1
  have hD := hD0.self (sz := s.heap.size)
  have hAF := frA hD0 hE.2.1
  generalize hAe : va_A [(a0, .inr (13, [.ref a2, .ref a5, .ref a6, .int 0, .ref a7, .int 0, .ref a8, .int 0, .ref a9])), (a2, .inr (8, [.ref a3, .int 0, .int 0, .int 0])), (a3, .inr (6, [.ref a4, .int 0, .ref a10, .ref a11, .ref a12, .ref a13, .int 0, .ref a14])), (a4, .inl (cy 4, 40, .inl (fun _ => 0))), (a1, .inl (cy 1, 1, .inr (.inl (fun _ => 0))))] s.heap.size = A at hD hAF ⊢
  have hA : ∀ q : Nat, s.heap.size ≤ q → A q := fun q h => by rw [← hAe]; exact Or.inr h
  have hS : va_S A s.heap s.heap [] := va_S.rf
  have hl := lv_entry ([.ref a0, .int k0, .ref a1]) (n := 4) (Nat.le_of_ble_eq_true rfl)
  rw [lg_entry_eq]
  generalize (lg_sl ([.ref a0, .int k0, .ref a1]) ++ List.replicate (4 - (lg_sl ([.ref a0, .int k0, .ref a1])).length) Slot.unset).toArray = ls at hl ⊢
  have hl : lv_has ls 4 [(0, .ref a0), (1, .int k0), (2, .ref a1)] := hl
  have hP : va_P D vwCl [(a0, .inr (13, [.ref a2, .ref a5, .ref a6, .int 0, .ref a7, .int 0, .ref a8, .int 0, .ref a9])), (a2, .inr (8, [.ref a3, .int 0, .int 0, .int 0])), (a3, .inr (6, [.ref a4, .int 0, .ref a10, .ref a11, .ref a12, .ref a13, .int 0, .ref a14])), (a4, .inl (cy 4, 40, .inl (fun _ => 0))), (a1, .inl (cy 1, 1, .inr (.inl (fun _ => 0))))] s.heap := hP
  have z32 : (32 : Int32).toInt = 32 := by decide +kernel
  have z126 : (126 : Int32).toInt = 126 := by decide +kernel
  refine lv_aload_n hx hb dL_letter_0 rfl (lv_at hl 2 rfl) ?_
  refine lv_iconst (v := 0) hx hb dL_letter_1 (by decide +kernel) ?_
  refine lv_aload_n hx hb dL_letter_2 rfl (lv_at hl 0 rfl) ?_
  refine lv_iload_n hx hb dL_letter_3 rfl (lv_at hl 1 rfl) ?_
  have hPc := hP.sub (ws' := [(a0, .inr (13, [.ref a2, .ref a5, .ref a6, .int 0, .ref a7, .int 0, .ref a8, .int 0, .ref a9])), (a2, .inr (8, [.ref a3, .int 0, .int 0, .int 0])), (a3, .inr (6, [.ref a4, .int 0, .ref a10, .ref a11, .ref a12, .ref a13, .int 0, .ref a14])), (a4, .inl (cy 4, 40, .inl (fun _ => 0)))]) [0, 1, 2, 3] rfl
  have hDc := hD.sub (ws' := [(a0, .inr (13, [.ref a2, .ref a5, .ref a6, .int 0, .ref a7, .int 0, .ref a8, .int 0, .ref a9])), (a2, .inr (8, [.ref a3, .int 0, .int 0, .int 0])), (a3, .inr (6, [.ref a4, .int 0, .ref a10, .ref a11, .ref a12, .ref a13, .int 0, .ref a14])), (a4, .inl (cy 4, 40, .inl (fun _ => 0)))]) [0, 1, 2, 3] (by decide) rfl
  have hFc := va_free (wc := [(a0, .inr (13, [.ref a2, .ref a5, .ref a6, .int 0, .ref a7, .int 0, .ref a8, .int 0, .ref a9])), (a2, .inr (8, [.ref a3, .int 0, .int 0, .int 0])), (a3, .inr (6, [.ref a4, .int 0, .ref a10, .ref a11, .ref a12, .ref a13, .int 0, .ref a14])), (a4, .inl (cy 4, 40, .inl (fun _ => 0)))]) hD hS hA [0, 1, 2, 3] rfl
  refine vx_calli (vx_runV (As := [.int k0]) (rest := [.int 0, .ref a1]) ⟨hx, hb, hml, hown, hts⟩ (C_X11_letter_1 l hfl D cy sz0 sa a0 a2 a3 a4 a5 a6 a7 a8 a9 a10 a11 a12 a13 a14 s.heap.size k0) (cwV 1 hts (goodIn_app (goodIn_r _ [1, 2, 3, 4] rfl (by decide +kernel)) (goodIn_app (goodIn_app (goodIn_app (goodIn_app (goodIn_r wq_X11_letter_10 [5, 6, 7, 8, 9, 10, 11, 12, 13, 14, 15, 16, 17] rfl (by decide +kernel)) (goodIn_sub (fun _ h => (List.mem_append_left _ (List.mem_append_left _ (List.mem_append_left _ (List.mem_append_right _ h))))) (by decide +kernel))) (goodIn_sub (fun _ h => (List.mem_append_left _ (List.mem_append_left _ (List.mem_append_right _ h)))) (by decide +kernel))) (goodIn_sub (fun _ h => (List.mem_append_left _ (List.mem_append_right _ h))) (by decide +kernel))) (goodIn_sub (fun _ h => (List.mem_append_right _ h)) (by decide +kernel)))) rfl rfl rfl (by decide +kernel) ⟨Nat.le_of_ble_eq_true rfl, Nat.le_of_ble_eq_true rfl⟩) ⟨PcW.blind, va_recv hK hPc (ci := 13) (q0 := 0) rfl rfl, PcW.mk hE hS hAF hPc hDc⟩ rfl rfl hl.1 rfl (lv_room (Nat.le_of_ble_eq_true rfl)) dL_letter_4 ⟨Nat.le_of_ble_eq_true rfl, Nat.le_of_ble_eq_true rfl⟩) hS (fun q _ h => hFc q h) hFc (fun q _ h => hFc q h) (fun E ce q9 u t H1 locs ht hvm hpx hbx hz1 hk1 hS hq9 hv9 hc9 => ?_) (fun r_1 u t H1 locs ht hvm hw hB hz1 hk1 hS => ?_)
  · obtain ⟨rfl, hxr_1⟩ := hbx
    obtain ⟨hP, hD⟩ := va_join (wr := [(a1, .inl (cy 1, 1, .inr (.inl (fun _ => 0))))]) (w1 := []) hP hD [0, 1, 2, 3] [4] rfl rfl (by decide) (by decide) hk1 hFc nilP nilD
    skip
    have hq8 := hq9
    clear hPc hDc hFc hk1 hz1
    skip
    have hP : va_P D vwCl [(a1, .inl (cy 1, 1, .inr (.inl (fun _ => 0))))] H1 := hP
    have hD : va_D A [(a1, .inl (cy 1, 1, .inr (.inl (fun _ => 0))))] := hD
    refine vx_widen (k := 1) (n := 6) (Nat.le_of_ble_eq_true rfl) (Nat.le_of_ble_eq_true rfl) ?_
    refine vx_catch hown [] _ _ ((vx_table (x := yL_letter) B (hts (.codeWith yL_letter cL_letter 4 (some .int) [(0, 9, 12, 13), (0, 9, 15, 15)]) (List.mem_of_getElem? (i := 0) rfl))).trans rfl) (fun z hz => absurd hz List.not_mem_nil) (by decide) (by decide) (hts (.classLink RL 13 "java/lang/IllegalArgumentException") (List.mem_of_getElem? (i := 18) rfl)) (va_Nw.use rfl hWm.2.2.1.2.2.2.1) hq9 hv9 hc9 ?_
    clear hq8 hq9 ht
    generalize H1 = H at hP hS ⊢
    refine lv_astore_n (lv' := [(3, .ref q9), (0, .ref a0), (1, .int k0), (2, .ref a1)]) hx hb dL_letter_12 rfl hl (by decide) rfl (fun ls hl => ?_)
    refine lv_iconst (v := 1) hx hb dL_letter_13 (by decide +kernel) ?_
    refine W.widen (k := 1) (n := 6) (Nat.le_of_ble_eq_true rfl) (Nat.le_of_ble_eq_true rfl) ?_
    have hP9 := hP.sub (ws' := [(a1, .inl (cy 1, 1, .inr (.inl (fun _ => 0))))]) [0] rfl
    have hD9 := hD.sub (ws' := [(a1, .inl (cy 1, 1, .inr (.inl (fun _ => 0))))]) [0] (by decide) rfl
    exact W.iret (v := 1) hx hb hr (fun t ht hW => ⟨⟨1, 0, rfl, Or.inl ⟨rfl, rfl, by omega⟩, ⟨(fun _ => 0), ⟨by rw [ht]; exact hP9, hD9⟩, by decide +kernel⟩⟩, hS.F ht⟩) hS.2.2 dL_letter_14
  · obtain ⟨hP, hD⟩ := va_join (wr := [(a1, .inl (cy 1, 1, .inr (.inl (fun _ => 0))))]) (w1 := []) hP hD [0, 1, 2, 3] [4] rfl rfl (by decide) (by decide) hk1 hFc nilP nilD
    clear hPc hDc hFc hk1 hz1
    generalize H1 = H at hP hS ⊢
    have hP : va_P D vwCl [(a1, .inl (cy 1, 1, .inr (.inl (fun _ => 0))))] H := hP
    have hD : va_D A [(a1, .inl (cy 1, 1, .inr (.inl (fun _ => 0))))] := hD
    refine W.widen (k := 1) (n := 6) (Nat.le_of_ble_eq_true rfl) (Nat.le_of_ble_eq_true rfl) ?_
    obtain ⟨hr, hcr_1⟩ := hw
    obtain rfl : r_1 = 1 := hr
    refine lv_i2l (v := 1) hx hb dL_letter_7 (by decide +kernel) ?_
    refine va_last hx hb hK hP hD hS 0 1 rfl rfl (by unfold vp_in; decide +kernel) dL_letter_8 (fun H locs hP hD hS => ?_)
    have hP : va_P D vwCl [(a1, .inl (cy 1, 1, .inr (.inl (vp_updL (fun _ => 0) 0 1))))] H := hP
    have hD : va_D A [(a1, .inl (cy 1, 1, .inr (.inl (vp_updL (fun _ => 0) 0 1))))] := hD
    refine lv_goto (tgt := 18) hx hb dL_letter_9 (by decide) ?_
    refine lv_iconst (v := 0) hx hb dL_letter_18 (by decide +kernel) ?_
    refine W.widen (k := 1) (n := 6) (Nat.le_of_ble_eq_true rfl) (Nat.le_of_ble_eq_true rfl) ?_
    have hP9 := hP.sub (ws' := [(a1, .inl (cy 1, 1, .inr (.inl (vp_updL (fun _ => 0) 0 1))))]) [0] rfl
    have hD9 := hD.sub (ws' := [(a1, .inl (cy 1, 1, .inr (.inl (vp_updL (fun _ => 0) 0 1))))]) [0] (by decide) rfl
    exact W.iret (v := 0) hx hb hr (fun t ht hW => ⟨⟨0, 1, rfl, Or.inr (⟨rfl, rfl, by omega⟩), ⟨(vp_updL (fun _ => 0) 0 1), ⟨by rw [ht]; exact hP9, hD9⟩, by decide +kernel⟩⟩, hS.F ht⟩) hS.2.2 dL_letter_19
