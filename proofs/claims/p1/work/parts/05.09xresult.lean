def wq_X11_result_10 : List Cond := [.code yX11_result cX11_result 2 (some .int), .fieldLink RX11 45 "PhraseDesk" "latest" "LPhraseDesk$Value;", .fieldLink RX11 202 "PhraseDesk$Value" "kind" "I", .fieldLink RX11 205 "PhraseDesk$Value" "number" "I"]
def wq_X11_result_1 : List Cond := wq_X11_result_10 ++ wsX110 ++ wsX100
set_option maxHeartbeats 4000000 in
set_option maxRecDepth 100000 in
theorem C_X11_result_1 (l : Launch) (D : va_G) (cy : Nat → ClassId) (sz0 : Nat) (sa : Nat → Nat) (a0 a1 a2 a3 a4 a5 a6 : Nat) (sz : Nat) (k0 : Int32) : Met l yX11_result wq_X11_result_1 ({ frames := 0, cells := 0, slots := 0, locals := 0 }) (PcW D cy sz0 sa [.ref a0, .int k0] [(a0, .inr (13, [.ref a2, .ref a3, .ref a4, .int 0, .ref a5, .int 0, .ref a6, .int 0, .ref a1])), (a1, .inr (12, [.int 0, .int 0, .double FP.dconst0, .ref (sa 0), .null]))] sz) (va_Qi (fun (r : Int32) (u : Unit) => (r = 0 ∧ (k0.toInt = 0 ∨ (¬ k0.toInt = 0 ∧ k0.toInt = 1) ∨ (¬ k0.toInt = 0 ∧ ¬ k0.toInt = 1 ∧ k0.toInt = 2))) ∨ (r = (-1) ∧ (¬ k0.toInt = 0 ∧ ¬ k0.toInt = 1 ∧ ¬ k0.toInt = 2))) (fun (_ : Unit) (_ : State) => True) (va_A [(a0, .inr (13, [.ref a2, .ref a3, .ref a4, .int 0, .ref a5, .int 0, .ref a6, .int 0, .ref a1])), (a1, .inr (12, [.int 0, .int 0, .double FP.dconst0, .ref (sa 0), .null]))] sz)) 0 0 (va_A [(a0, .inr (13, [.ref a2, .ref a3, .ref a4, .int 0, .ref a5, .int 0, .ref a6, .int 0, .ref a1])), (a1, .inr (12, [.int 0, .int 0, .double FP.dconst0, .ref (sa 0), .null]))] sz) := by
  refine Met.ofW (cc := cX11_result) (maxL := 2) (ret := (some .int)) (by decide) rfl ?_
  intro p e s m args below meth c s₁ B hml hv
  obtain ⟨rfl, hsz, hP, hD0, hE⟩ := hv
  have hx := B.exec
  have hb := B.bytes
  have hr := B.returns
  have hts := atoms_spec (ws := wq_X11_result_1) B.pre
  have hown : s.vm.findClass RX11 = some m.cls := findClass_of_methodNamed B.named
  have hlocks := B.notSynchronized
  subst hsz
  have hK := hE.1
  have hAm := hE.2.2.1
  have hWm := hE.2.2.2
  have hAO := hWm.2.2.2.1
  have hD := hD0.self (sz := s.heap.size)
  have hAF := frA hD0 hE.2.1
  generalize hAe : va_A [(a0, .inr (13, [.ref a2, .ref a3, .ref a4, .int 0, .ref a5, .int 0, .ref a6, .int 0, .ref a1])), (a1, .inr (12, [.int 0, .int 0, .double FP.dconst0, .ref (sa 0), .null]))] s.heap.size = A at hD hAF ⊢
  have hA : ∀ q : Nat, s.heap.size ≤ q → A q := fun q h => by rw [← hAe]; exact Or.inr h
  have hS : va_S A s.heap s.heap [] := va_S.rf
  have hl := lv_entry ([.ref a0, .int k0]) (n := 2) (Nat.le_of_ble_eq_true rfl)
  rw [lg_entry_eq]
  generalize (lg_sl ([.ref a0, .int k0]) ++ List.replicate (2 - (lg_sl ([.ref a0, .int k0])).length) Slot.unset).toArray = ls at hl ⊢
  have hl : lv_has ls 2 [(0, .ref a0), (1, .int k0)] := hl
  have hP : va_P D vwCl [(a0, .inr (13, [.ref a2, .ref a3, .ref a4, .int 0, .ref a5, .int 0, .ref a6, .int 0, .ref a1])), (a1, .inr (12, [.int 0, .int 0, .double FP.dconst0, .ref (sa 0), .null]))] s.heap := hP
  have z0 : (0 : Int32).toInt = 0 := by decide +kernel
  have z1 : (1 : Int32).toInt = 1 := by decide +kernel
  have z2 : (2 : Int32).toInt = 2 := by decide +kernel
  refine lv_iload_n hx hb dX11_result_0 rfl (lv_at hl 1 rfl) ?_
  by_cases k1_0 : k0 = 0
  · have tk1_0 := z_eq k1_0
    refine lv_tableIn (off := 27) (tgt := 28) hx hb dX11_result_1 (by rw [k1_0]; decide +kernel) (by rw [k1_0]; decide +kernel) (by rw [k1_0]; decide +kernel) (by decide) ?_
    refine lv_aload_n hx hb dX11_result_28 rfl (lv_at hl 0 rfl) ?_
    refine va_get (D := D) (ci := 13) (v := .ref a1) (C := RX11) (T := TX11) (N := 9) hx hb hts (fun _ h => (List.mem_append_left _ (List.mem_append_right _ h))) hown hK hP 0 rfl rfl 8 (by decide) (hts (.fieldLink RX11 45 "PhraseDesk" "latest" "LPhraseDesk$Value;") (List.mem_of_getElem? (i := 1) rfl)) (fun _ h9 => h9) rfl dX11_result_29 ?_
    refine va_get (D := D) (ci := 12) (v := .int 0) (C := RX10) (T := TX10) (N := 5) hx hb hts (fun _ h => (List.mem_append_right _ h)) hown hK hP 1 rfl rfl 0 (by decide) (hts (.fieldLink RX11 202 "PhraseDesk$Value" "kind" "I") (List.mem_of_getElem? (i := 2) rfl)) (fun _ h9 => h9) rfl dX11_result_32 ?_
    refine W.widen (k := 0) (n := 0) (Nat.le_of_ble_eq_true rfl) (Nat.le_of_ble_eq_true rfl) ?_
    exact W.iret (v := 0) hx hb hr (fun t ht hW => ⟨⟨0, (), rfl, Or.inl ⟨rfl, by omega⟩, trivial⟩, hS.F ht⟩) hS.2.2 dX11_result_35
  · have k1_0 := z_ne k1_0
    by_cases k1_1 : k0 = 1
    · have tk1_1 := z_eq k1_1
      refine lv_tableIn (off := 35) (tgt := 36) hx hb dX11_result_1 (by rw [k1_1]; decide +kernel) (by rw [k1_1]; decide +kernel) (by rw [k1_1]; decide +kernel) (by decide) ?_
      refine lv_aload_n hx hb dX11_result_36 rfl (lv_at hl 0 rfl) ?_
      refine va_get (D := D) (ci := 13) (v := .ref a1) (C := RX11) (T := TX11) (N := 9) hx hb hts (fun _ h => (List.mem_append_left _ (List.mem_append_right _ h))) hown hK hP 0 rfl rfl 8 (by decide) (hts (.fieldLink RX11 45 "PhraseDesk" "latest" "LPhraseDesk$Value;") (List.mem_of_getElem? (i := 1) rfl)) (fun _ h9 => h9) rfl dX11_result_37 ?_
      refine va_get (D := D) (ci := 12) (v := .int 0) (C := RX10) (T := TX10) (N := 5) hx hb hts (fun _ h => (List.mem_append_right _ h)) hown hK hP 1 rfl rfl 1 (by decide) (hts (.fieldLink RX11 205 "PhraseDesk$Value" "number" "I") (List.mem_of_getElem? (i := 3) rfl)) (fun _ h9 => h9) rfl dX11_result_40 ?_
      refine W.widen (k := 0) (n := 0) (Nat.le_of_ble_eq_true rfl) (Nat.le_of_ble_eq_true rfl) ?_
      exact W.iret (v := 0) hx hb hr (fun t ht hW => ⟨⟨0, (), rfl, Or.inl ⟨rfl, by omega⟩, trivial⟩, hS.F ht⟩) hS.2.2 dX11_result_43
    · have k1_1 := z_ne k1_1
      by_cases k1_2 : k0 = 2
      · have tk1_2 := z_eq k1_2
        refine lv_tableIn (off := 43) (tgt := 44) hx hb dX11_result_1 (by rw [k1_2]; decide +kernel) (by rw [k1_2]; decide +kernel) (by rw [k1_2]; decide +kernel) (by decide) ?_
        refine lv_aload_n hx hb dX11_result_44 rfl (lv_at hl 0 rfl) ?_
        refine va_get (D := D) (ci := 13) (v := .ref a1) (C := RX11) (T := TX11) (N := 9) hx hb hts (fun _ h => (List.mem_append_left _ (List.mem_append_right _ h))) hown hK hP 0 rfl rfl 8 (by decide) (hts (.fieldLink RX11 45 "PhraseDesk" "latest" "LPhraseDesk$Value;") (List.mem_of_getElem? (i := 1) rfl)) (fun _ h9 => h9) rfl dX11_result_45 ?_
        refine va_get (D := D) (ci := 12) (v := .int 0) (C := RX10) (T := TX10) (N := 5) hx hb hts (fun _ h => (List.mem_append_right _ h)) hown hK hP 1 rfl rfl 0 (by decide) (hts (.fieldLink RX11 202 "PhraseDesk$Value" "kind" "I") (List.mem_of_getElem? (i := 2) rfl)) (fun _ h9 => h9) rfl dX11_result_48 ?_
        refine lv_iconst (v := 3) hx hb dX11_result_51 (by decide +kernel) ?_
        refine lv_icmp_ne (tgt := 70) hx hb dX11_result_52 (by decide) (fun _ => ?_) (fun c2 => absurd c2 (by decide +kernel))
        refine lv_iconst (v := 0) hx hb dX11_result_70 (by decide +kernel) ?_
        refine W.widen (k := 0) (n := 0) (Nat.le_of_ble_eq_true rfl) (Nat.le_of_ble_eq_true rfl) ?_
        exact W.iret (v := 0) hx hb hr (fun t ht hW => ⟨⟨0, (), rfl, Or.inl ⟨rfl, by omega⟩, trivial⟩, hS.F ht⟩) hS.2.2 dX11_result_71
      · have k1_2 := z_ne k1_2
        refine lv_tableOut (tgt := 72) hx hb dX11_result_1 (by omega) (by decide) ?_
        refine lv_iconst (v := (-1)) hx hb dX11_result_72 (by decide +kernel) ?_
        refine W.widen (k := 0) (n := 0) (Nat.le_of_ble_eq_true rfl) (Nat.le_of_ble_eq_true rfl) ?_
        exact W.iret (v := (-1)) hx hb hr (fun t ht hW => ⟨⟨(-1), (), rfl, Or.inr (⟨rfl, by omega⟩), trivial⟩, hS.F ht⟩) hS.2.2 dX11_result_73
