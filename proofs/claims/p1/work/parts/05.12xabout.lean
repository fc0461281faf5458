def wq_X11_about_10 : List Cond := [.code yX11_about cX11_about 2 (some .int), .fieldLink RX11 10 "PhraseDesk" "parser" "LPhraseDesk$Parser;", .fieldLink RX11 56 "PhraseDesk$Parser" "lexer" "LPhraseDesk$Lexer;", .fieldLink RX11 60 "PhraseDesk$Lexer" "length" "I", .fieldLink RX11 75 "PhraseDesk" "programCount" "I", .fieldLink RX11 96 "PhraseDesk" "familyCount" "I", .fieldLink RX11 120 "PhraseDesk" "objectCount" "I", .fieldLink RX11 19 "PhraseDesk" "runner" "LPhraseDesk$Runner;", .fieldLink RX11 233 "PhraseDesk$Runner" "variableCount" "I"]
def wq_X11_about_1 : List Cond := wq_X11_about_10 ++ wsX110 ++ wsX60 ++ wsX40 ++ wsX80
set_option maxHeartbeats 4000000 in
set_option maxRecDepth 100000 in
theorem C_X11_about_1 (l : Launch) (D : va_G) (cy : Nat → ClassId) (sz0 : Nat) (sa : Nat → Nat) (a0 a1 a2 a3 a4 a5 a6 a7 a8 a9 a10 a11 a12 a13 a14 a15 a16 a17 a18 : Nat) (sz : Nat) (k0 : Int32) : Met l yX11_about wq_X11_about_1 ({ frames := 0, cells := 0, slots := 0, locals := 0 }) (PcW D cy sz0 sa [.ref a0, .int k0] [(a0, .inr (13, [.ref a1, .ref a3, .ref a4, .int 0, .ref a5, .int 0, .ref a6, .int 0, .ref a7])), (a1, .inr (8, [.ref a2, .int 0, .int 0, .int 0])), (a2, .inr (6, [.ref a8, .int 0, .ref a9, .ref a10, .ref a11, .ref a12, .int 0, .ref a13])), (a3, .inr (10, [.ref a14, .ref a15, .ref a16, .ref a17, .ref a18, .int 0, .ref a14, .int 0]))] sz) (va_Qi (fun (r : Int32) (u : Unit) => (r = 0 ∧ (k0.toInt = 0 ∨ (¬ k0.toInt = 0 ∧ k0.toInt = 1) ∨ (¬ k0.toInt = 0 ∧ ¬ k0.toInt = 1 ∧ k0.toInt = 2) ∨ (¬ k0.toInt = 0 ∧ ¬ k0.toInt = 1 ∧ ¬ k0.toInt = 2 ∧ k0.toInt = 3) ∨ (¬ k0.toInt = 0 ∧ ¬ k0.toInt = 1 ∧ ¬ k0.toInt = 2 ∧ ¬ k0.toInt = 3 ∧ k0.toInt = 4))) ∨ (r = (-1) ∧ (¬ k0.toInt = 0 ∧ ¬ k0.toInt = 1 ∧ ¬ k0.toInt = 2 ∧ ¬ k0.toInt = 3 ∧ ¬ k0.toInt = 4))) (fun (_ : Unit) (_ : State) => True) (va_A [(a0, .inr (13, [.ref a1, .ref a3, .ref a4, .int 0, .ref a5, .int 0, .ref a6, .int 0, .ref a7])), (a1, .inr (8, [.ref a2, .int 0, .int 0, .int 0])), (a2, .inr (6, [.ref a8, .int 0, .ref a9, .ref a10, .ref a11, .ref a12, .int 0, .ref a13])), (a3, .inr (10, [.ref a14, .ref a15, .ref a16, .ref a17, .ref a18, .int 0, .ref a14, .int 0]))] sz)) 0 0 (va_A [(a0, .inr (13, [.ref a1, .ref a3, .ref a4, .int 0, .ref a5, .int 0, .ref a6, .int 0, .ref a7])), (a1, .inr (8, [.ref a2, .int 0, .int 0, .int 0])), (a2, .inr (6, [.ref a8, .int 0, .ref a9, .ref a10, .ref a11, .ref a12, .int 0, .ref a13])), (a3, .inr (10, [.ref a14, .ref a15, .ref a16, .ref a17, .ref a18, .int 0, .ref a14, .int 0]))] sz) := by
  refine Met.ofW (cc := cX11_about) (maxL := 2) (ret := (some .int)) (by decide) rfl ?_
  intro p e s m args below meth c s₁ B hml hv
  obtain ⟨rfl, hsz, hP, hD0, hE⟩ := hv
  have hx := B.exec
  have hb := B.bytes
  have hr := B.returns
  have hts := atoms_spec (ws := wq_X11_about_1) B.pre
  have hown : s.vm.findClass RX11 = some m.cls := findClass_of_methodNamed B.named
  have hlocks := B.notSynchronized
  subst hsz
  have hK := hE.1
  have hAm := hE.2.2.1
  have hWm := hE.2.2.2
  have hAO := hWm.2.2.2.1
  have hD := hD0.self (sz := s.heap.size)
  have hAF := frA hD0 hE.2.1
  generalize hAe : va_A [(a0, .inr (13, [.ref a1, .ref a3, .ref a4, .int 0, .ref a5, .int 0, .ref a6, .int 0, .ref a7])), (a1, .inr (8, [.ref a2, .int 0, .int 0, .int 0])), (a2, .inr (6, [.ref a8, .int 0, .ref a9, .ref a10, .ref a11, .ref a12, .int 0, .ref a13])), (a3, .inr (10, [.ref a14, .ref a15, .ref a16, .ref a17, .ref a18, .int 0, .ref a14, .int 0]))] s.heap.size = A at hD hAF ⊢
  have hA : ∀ q : Nat, s.heap.size ≤ q → A q := fun q h => by rw [← hAe]; exact Or.inr h
  have hS : va_S A s.heap s.heap [] := va_S.rf
  have hl := lv_entry ([.ref a0, .int k0]) (n := 2) (Nat.le_of_ble_eq_true rfl)
  rw [lg_entry_eq]
  generalize (lg_sl ([.ref a0, .int k0]) ++ List.replicate (2 - (lg_sl ([.ref a0, .int k0])).length) Slot.unset).toArray = ls at hl ⊢
  have hl : lv_has ls 2 [(0, .ref a0), (1, .int k0)] := hl
  have hP : va_P D vwCl [(a0, .inr (13, [.ref a1, .ref a3, .ref a4, .int 0, .ref a5, .int 0, .ref a6, .int 0, .ref a7])), (a1, .inr (8, [.ref a2, .int 0, .int 0, .int 0])), (a2, .inr (6, [.ref a8, .int 0, .ref a9, .ref a10, .ref a11, .ref a12, .int 0, .ref a13])), (a3, .inr (10, [.ref a14, .ref a15, .ref a16, .ref a17, .ref a18, .int 0, .ref a14, .int 0]))] s.heap := hP
  have z0 : (0 : Int32).toInt = 0 := by decide +kernel
  have z1 : (1 : Int32).toInt = 1 := by decide +kernel
  have z2 : (2 : Int32).toInt = 2 := by decide +kernel
  have z3 : (3 : Int32).toInt = 3 := by decide +kernel
  have z4 : (4 : Int32).toInt = 4 := by decide +kernel
  refine lv_iload_n hx hb dX11_about_0 rfl (lv_at hl 1 rfl) ?_
  by_cases k1_0 : k0 = 0
  · have tk1_0 := z_eq k1_0
    refine lv_tableIn (off := 35) (tgt := 36) hx hb dX11_about_1 (by rw [k1_0]; decide +kernel) (by rw [k1_0]; decide +kernel) (by rw [k1_0]; decide +kernel) (by decide) ?_
    refine lv_aload_n hx hb dX11_about_36 rfl (lv_at hl 0 rfl) ?_
    refine va_get (D := D) (ci := 13) (v := .ref a1) (C := RX11) (T := TX11) (N := 9) hx hb hts (fun _ h => (List.mem_append_left _ (List.mem_append_left _ (List.mem_append_left _ (List.mem_append_right _ h))))) hown hK hP 0 rfl rfl 0 (by decide) (hts (.fieldLink RX11 10 "PhraseDesk" "parser" "LPhraseDesk$Parser;") (List.mem_of_getElem? (i := 1) rfl)) (fun _ h9 => h9) rfl dX11_about_37 ?_
    refine va_get (D := D) (ci := 8) (v := .ref a2) (C := RX6) (T := TX6) (N := 4) hx hb hts (fun _ h => (List.mem_append_left _ (List.mem_append_left _ (List.mem_append_right _ h)))) hown hK hP 1 rfl rfl 0 (by decide) (hts (.fieldLink RX11 56 "PhraseDesk$Parser" "lexer" "LPhraseDesk$Lexer;") (List.mem_of_getElem? (i := 2) rfl)) (fun _ h9 => h9) rfl dX11_about_40 ?_
    refine va_get (D := D) (ci := 6) (v := .int 0) (C := RX4) (T := TX4) (N := 8) hx hb hts (fun _ h => (List.mem_append_left _ (List.mem_append_right _ h))) hown hK hP 2 rfl rfl 1 (by decide) (hts (.fieldLink RX11 60 "PhraseDesk$Lexer" "length" "I") (List.mem_of_getElem? (i := 3) rfl)) (fun _ h9 => h9) rfl dX11_about_43 ?_
    refine W.widen (k := 0) (n := 0) (Nat.le_of_ble_eq_true rfl) (Nat.le_of_ble_eq_true rfl) ?_
    exact W.iret (v := 0) hx hb hr (fun t ht hW => ⟨⟨0, (), rfl, Or.inl ⟨rfl, by omega⟩, trivial⟩, hS.F ht⟩) hS.2.2 dX11_about_46
  · have k1_0 := z_ne k1_0
    by_cases k1_1 : k0 = 1
    · have tk1_1 := z_eq k1_1
      refine lv_tableIn (off := 46) (tgt := 47) hx hb dX11_about_1 (by rw [k1_1]; decide +kernel) (by rw [k1_1]; decide +kernel) (by rw [k1_1]; decide +kernel) (by decide) ?_
      refine lv_aload_n hx hb dX11_about_47 rfl (lv_at hl 0 rfl) ?_
      refine va_get (D := D) (ci := 13) (v := .int 0) (C := RX11) (T := TX11) (N := 9) hx hb hts (fun _ h => (List.mem_append_left _ (List.mem_append_left _ (List.mem_append_left _ (List.mem_append_right _ h))))) hown hK hP 0 rfl rfl 3 (by decide) (hts (.fieldLink RX11 75 "PhraseDesk" "programCount" "I") (List.mem_of_getElem? (i := 4) rfl)) (fun _ h9 => h9) rfl dX11_about_48 ?_
      refine W.widen (k := 0) (n := 0) (Nat.le_of_ble_eq_true rfl) (Nat.le_of_ble_eq_true rfl) ?_
      exact W.iret (v := 0) hx hb hr (fun t ht hW => ⟨⟨0, (), rfl, Or.inl ⟨rfl, by omega⟩, trivial⟩, hS.F ht⟩) hS.2.2 dX11_about_51
    · have k1_1 := z_ne k1_1
      by_cases k1_2 : k0 = 2
      · have tk1_2 := z_eq k1_2
        refine lv_tableIn (off := 51) (tgt := 52) hx hb dX11_about_1 (by rw [k1_2]; decide +kernel) (by rw [k1_2]; decide +kernel) (by rw [k1_2]; decide +kernel) (by decide) ?_
        refine lv_aload_n hx hb dX11_about_52 rfl (lv_at hl 0 rfl) ?_
        refine va_get (D := D) (ci := 13) (v := .int 0) (C := RX11) (T := TX11) (N := 9) hx hb hts (fun _ h => (List.mem_append_left _ (List.mem_append_left _ (List.mem_append_left _ (List.mem_append_right _ h))))) hown hK hP 0 rfl rfl 5 (by decide) (hts (.fieldLink RX11 96 "PhraseDesk" "familyCount" "I") (List.mem_of_getElem? (i := 5) rfl)) (fun _ h9 => h9) rfl dX11_about_53 ?_
        refine W.widen (k := 0) (n := 0) (Nat.le_of_ble_eq_true rfl) (Nat.le_of_ble_eq_true rfl) ?_
        exact W.iret (v := 0) hx hb hr (fun t ht hW => ⟨⟨0, (), rfl, Or.inl ⟨rfl, by omega⟩, trivial⟩, hS.F ht⟩) hS.2.2 dX11_about_56
      · have k1_2 := z_ne k1_2
        by_cases k1_3 : k0 = 3
        · have tk1_3 := z_eq k1_3
          refine lv_tableIn (off := 56) (tgt := 57) hx hb dX11_about_1 (by rw [k1_3]; decide +kernel) (by rw [k1_3]; decide +kernel) (by rw [k1_3]; decide +kernel) (by decide) ?_
          refine lv_aload_n hx hb dX11_about_57 rfl (lv_at hl 0 rfl) ?_
          refine va_get (D := D) (ci := 13) (v := .int 0) (C := RX11) (T := TX11) (N := 9) hx hb hts (fun _ h => (List.mem_append_left _ (List.mem_append_left _ (List.mem_append_left _ (List.mem_append_right _ h))))) hown hK hP 0 rfl rfl 7 (by decide) (hts (.fieldLink RX11 120 "PhraseDesk" "objectCount" "I") (List.mem_of_getElem? (i := 6) rfl)) (fun _ h9 => h9) rfl dX11_about_58 ?_
          refine W.widen (k := 0) (n := 0) (Nat.le_of_ble_eq_true rfl) (Nat.le_of_ble_eq_true rfl) ?_
          exact W.iret (v := 0) hx hb hr (fun t ht hW => ⟨⟨0, (), rfl, Or.inl ⟨rfl, by omega⟩, trivial⟩, hS.F ht⟩) hS.2.2 dX11_about_61
        · have k1_3 := z_ne k1_3
          by_cases k1_4 : k0 = 4
          · have tk1_4 := z_eq k1_4
            refine lv_tableIn (off := 61) (tgt := 62) hx hb dX11_about_1 (by rw [k1_4]; decide +kernel) (by rw [k1_4]; decide +kernel) (by rw [k1_4]; decide +kernel) (by decide) ?_
            refine lv_aload_n hx hb dX11_about_62 rfl (lv_at hl 0 rfl) ?_
            refine va_get (D := D) (ci := 13) (v := .ref a3) (C := RX11) (T := TX11) (N := 9) hx hb hts (fun _ h => (List.mem_append_left _ (List.mem_append_left _ (List.mem_append_left _ (List.mem_append_right _ h))))) hown hK hP 0 rfl rfl 1 (by decide) (hts (.fieldLink RX11 19 "PhraseDesk" "runner" "LPhraseDesk$Runner;") (List.mem_of_getElem? (i := 7) rfl)) (fun _ h9 => h9) rfl dX11_about_63 ?_
            refine va_get (D := D) (ci := 10) (v := .int 0) (C := RX8) (T := TX8) (N := 8) hx hb hts (fun _ h => (List.mem_append_right _ h)) hown hK hP 3 rfl rfl 5 (by decide) (hts (.fieldLink RX11 233 "PhraseDesk$Runner" "variableCount" "I") (List.mem_of_getElem? (i := 8) rfl)) (fun _ h9 => h9) rfl dX11_about_66 ?_
            refine W.widen (k := 0) (n := 0) (Nat.le_of_ble_eq_true rfl) (Nat.le_of_ble_eq_true rfl) ?_
            exact W.iret (v := 0) hx hb hr (fun t ht hW => ⟨⟨0, (), rfl, Or.inl ⟨rfl, by omega⟩, trivial⟩, hS.F ht⟩) hS.2.2 dX11_about_69
          · have k1_4 := z_ne k1_4
            refine lv_tableOut (tgt := 70) hx hb dX11_about_1 (by omega) (by decide) ?_
            refine lv_iconst (v := (-1)) hx hb dX11_about_70 (by decide +kernel) ?_
            refine W.widen (k := 0) (n := 0) (Nat.le_of_ble_eq_true rfl) (Nat.le_of_ble_eq_true rfl) ?_
            exact W.iret (v := (-1)) hx hb hr (fun t ht hW => ⟨⟨(-1), (), rfl, Or.inr (⟨rfl, by omega⟩), trivial⟩, hS.F ht⟩) hS.2.2 dX11_about_71
