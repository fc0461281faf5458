def wq_X11_isName_1 : List Cond := [.code yX11_isName cX11_isName 1 (some .boolean), .constant RX11 236 (14348906)]
set_option maxHeartbeats 4000000 in
set_option maxRecDepth 100000 in
theorem C_X11_isName_1 (l : Launch) (D : va_G) (cy : Nat → ClassId) (sz0 : Nat) (sa : Nat → Nat)  (sz : Nat) (k0 : Int32) : Met l yX11_isName wq_X11_isName_1 ({ frames := 0, cells := 0, slots := 0, locals := 0 }) (PcW D cy sz0 sa [.int k0] [] sz) (va_Qi (fun (r : Int32) (u : Unit) => (r = 0 ∧ (k0.toInt < 1 ∨ (1 ≤ k0.toInt ∧ 14348906 < k0.toInt))) ∨ (r = 1 ∧ (1 ≤ k0.toInt ∧ k0.toInt ≤ 14348906))) (fun (u : Unit) (t : State) => BW D [] (va_A [] sz) t) (va_A [] sz)) 0 0 (va_A [] sz) := by
  refine Met.ofW (cc := cX11_isName) (maxL := 1) (ret := (some .boolean)) (by decide) rfl ?_
  intro p e s m args below meth c s₁ B hml hv
  obtain ⟨rfl, hsz, hP, hD0, hE⟩ := hv
  have hx := B.exec
  have hb := B.bytes
  have hr := B.returns
  have hts := atoms_spec (ws := wq_X11_isName_1) B.pre
  have hown : s.vm.findClass RX11 = some m.cls := findClass_of_methodNamed B.named
  have hlocks := B.notSynchronized
  subst hsz
  have hK := hE.1
  have hAm := hE.2.2.1
  have hWm := hE.2.2.2
  have hAO := hWm.2.2.2.1
  have hD := hD0.self (sz := s.heap.size)
  have hAF := frA hD0 hE.2.1
  generalize hAe : va_A [] s.heap.size = A at hD hAF ⊢
  have hA : ∀ q : Nat, s.heap.size ≤ q → A q := fun q h => by rw [← hAe]; exact Or.inr h
  have hS : va_S A s.heap s.heap [] := va_S.rf
  have hl := lv_entry ([.int k0]) (n := 1) (Nat.le_of_ble_eq_true rfl)
  rw [lg_entry_eq]
  generalize (lg_sl ([.int k0]) ++ List.replicate (1 - (lg_sl ([.int k0])).length) Slot.unset).toArray = ls at hl ⊢
  have hl : lv_has ls 1 [(0, .int k0)] := hl
  have hP : va_P D vwCl [] s.heap := hP
  have z1 : (1 : Int32).toInt = 1 := by decide +kernel
  have z14348906 : (14348906 : Int32).toInt = 14348906 := by decide +kernel
  refine lv_iload_n hx hb dX11_isName_0 rfl (lv_at hl 0 rfl) ?_
  refine lv_iconst (v := 1) hx hb dX11_isName_1 (by decide +kernel) ?_
  refine lv_icmp_lt (tgt := 15) hx hb dX11_isName_2 (by decide) (fun c1 => ?_) (fun c1 => ?_)
  · have c1 := z_lt c1
    refine lv_iconst (v := 0) hx hb dX11_isName_15 (by decide +kernel) ?_
    refine W.widen (k := 0) (n := 0) (Nat.le_of_ble_eq_true rfl) (Nat.le_of_ble_eq_true rfl) ?_
    have hP9 := hP.sub (ws' := []) [] rfl
    have hD9 := hD.sub (ws' := []) [] (by decide) rfl
    exact W.zret (v := 0) (ty := .boolean) hx hb hr rfl (fun t ht hW => ⟨⟨0, (), rfl, Or.inl ⟨rfl, by omega⟩, ⟨by rw [ht]; exact hP9, hD9⟩⟩, hS.F ht⟩) hS.2.2 dX11_isName_16
  · have c1 := z_nlt c1
    refine lv_iload_n hx hb dX11_isName_5 rfl (lv_at hl 0 rfl) ?_
    refine lv_ldc (v := 14348906) hx hb hown (hts (.constant RX11 236 (14348906)) (List.mem_of_getElem? (i := 1) rfl)) dX11_isName_6 ?_
    refine lv_icmp_gt (tgt := 15) hx hb dX11_isName_8 (by decide) (fun c2 => ?_) (fun c2 => ?_)
    · have c2 := z_lt c2
      refine lv_iconst (v := 0) hx hb dX11_isName_15 (by decide +kernel) ?_
      refine W.widen (k := 0) (n := 0) (Nat.le_of_ble_eq_true rfl) (Nat.le_of_ble_eq_true rfl) ?_
      have hP9 := hP.sub (ws' := []) [] rfl
      have hD9 := hD.sub (ws' := []) [] (by decide) rfl
      exact W.zret (v := 0) (ty := .boolean) hx hb hr rfl (fun t ht hW => ⟨⟨0, (), rfl, Or.inl ⟨rfl, by omega⟩, ⟨by rw [ht]; exact hP9, hD9⟩⟩, hS.F ht⟩) hS.2.2 dX11_isName_16
    · have c2 := z_nlt c2
      refine lv_iconst (v := 1) hx hb dX11_isName_11 (by decide +kernel) ?_
      refine lv_goto (tgt := 16) hx hb dX11_isName_12 (by decide) ?_
      refine W.widen (k := 0) (n := 0) (Nat.le_of_ble_eq_true rfl) (Nat.le_of_ble_eq_true rfl) ?_
      have hP9 := hP.sub (ws' := []) [] rfl
      have hD9 := hD.sub (ws' := []) [] (by decide) rfl
      exact W.zret (v := 1) (ty := .boolean) hx hb hr rfl (fun t ht hW => ⟨⟨1, (), rfl, Or.inr (⟨rfl, by omega⟩), ⟨by rw [ht]; exact hP9, hD9⟩⟩, hS.F ht⟩) hS.2.2 dX11_isName_16

def wq_X8_setVariable_10 : List Cond := [.code yX8_setVariable cX8_setVariable 4 (some .boolean), .fieldLink RX8 273 "PhraseDesk$Runner" "variableCount" "I", .fieldLink RX8 35 "PhraseDesk$Runner" "variableNames" "[I", .fieldLink RX8 39 "PhraseDesk$Runner" "variableValues" "[LPhraseDesk$Value;"]
def wq_X8_setVariable_1 : List Cond := wq_X8_setVariable_10 ++ wsX80
set_option maxHeartbeats 4000000 in
set_option maxRecDepth 100000 in
theorem C_X8_setVariable_1 (l : Launch) (D : va_G) (cy : Nat → ClassId) (sz0 : Nat) (sa : Nat → Nat) (a0 a1 a2 a3 a4 a5 a6 : Nat) (sz : Nat) (k0 : Int32) : Met l yX8_setVariable wq_X8_setVariable_1 ({ frames := 0, cells := 0, slots := 0, locals := 0 }) (PcW D cy sz0 sa [.ref a0, .int k0, .ref a1] [(a0, .inr (10, [.ref a4, .ref a5, .ref a6, .ref a2, .ref a3, .int 0, .ref a4, .int 0])), (a2, .inl (cy 0, 12, .inl (fun _ => 0))), (a3, .inl (cy 6, 12, .inr (.inr (.inr (.inr (fun _ => none)))))), (a1, .inr (12, [.int 0, .int 0, .double FP.dconst0, .ref (sa 0), .null]))] sz) (va_Qi (fun (r : Int32) (u : Unit) => r = 1) (fun (u : Unit) (t : State) => BW D [(a0, .inr (10, [.ref a4, .ref a5, .ref a6, .ref a2, .ref a3, .int 1, .ref a4, .int 0])), (a2, .inl (cy 0, 12, .inl (upd (fun _ => 0) 0 k0))), (a3, .inl (cy 6, 12, .inr (.inr (.inr (.inr (va_up (fun _ => none) 0 (some a1))))))), (a1, .inr (12, [.int 0, .int 0, .double FP.dconst0, .ref (sa 0), .null]))] (va_A [(a0, .inr (10, [.ref a4, .ref a5, .ref a6, .ref a2, .ref a3, .int 0, .ref a4, .int 0])), (a2, .inl (cy 0, 12, .inl (fun _ => 0))), (a3, .inl (cy 6, 12, .inr (.inr (.inr (.inr (fun _ => none)))))), (a1, .inr (12, [.int 0, .int 0, .double FP.dconst0, .ref (sa 0), .null]))] sz) t) (va_A [(a0, .inr (10, [.ref a4, .ref a5, .ref a6, .ref a2, .ref a3, .int 0, .ref a4, .int 0])), (a2, .inl (cy 0, 12, .inl (fun _ => 0))), (a3, .inl (cy 6, 12, .inr (.inr (.inr (.inr (fun _ => none)))))), (a1, .inr (12, [.int 0, .int 0, .double FP.dconst0, .ref (sa 0), .null]))] sz)) 0 0 (va_A [(a0, .inr (10, [.ref a4, .ref a5, .ref a6, .ref a2, .ref a3, .int 0, .ref a4, .int 0])), (a2, .inl (cy 0, 12, .inl (fun _ => 0))), (a3, .inl (cy 6, 12, .inr (.inr (.inr (.inr (fun _ => none)))))), (a1, .inr (12, [.int 0, .int 0, .double FP.dconst0, .ref (sa 0), .null]))] sz) := by
  refine Met.ofW (cc := cX8_setVariable) (maxL := 4) (ret := (some .boolean)) (by decide) rfl ?_
  intro p e s m args below meth c s₁ B hml hv
  obtain ⟨rfl, hsz, hP, hD0, hE⟩ := hv
  have hx := B.exec
  have hb := B.bytes
  have hr := B.returns
  have hts := atoms_spec (ws := wq_X8_setVariable_1) B.pre
  have hown : s.vm.findClass RX8 = some m.cls := findClass_of_methodNamed B.named
  have hlocks := B.notSynchronized
  subst hsz
  have hK := hE.1
  have hAm := hE.2.2.1
  have hWm := hE.2.2.2
  have hAO := hWm.2.2.2.1
  have hD := hD0.self (sz := s.heap.size)
  have hAF := frA hD0 hE.2.1
  generalize hAe : va_A [(a0, .inr (10, [.ref a4, .ref a5, .ref a6, .ref a2, .ref a3, .int 0, .ref a4, .int 0])), (a2, .inl (cy 0, 12, .inl (fun _ => 0))), (a3, .inl (cy 6, 12, .inr (.inr (.inr (.inr (fun _ => none)))))), (a1, .inr (12, [.int 0, .int 0, .double FP.dconst0, .ref (sa 0), .null]))] s.heap.size = A at hD hAF ⊢
  have hA : ∀ q : Nat, s.heap.size ≤ q → A q := fun q h => by rw [← hAe]; exact Or.inr h
  have hS : va_S A s.heap s.heap [] := va_S.rf
  have hl := lv_entry ([.ref a0, .int k0, .ref a1]) (n := 4) (Nat.le_of_ble_eq_true rfl)
  rw [lg_entry_eq]
  generalize (lg_sl ([.ref a0, .int k0, .ref a1]) ++ List.replicate (4 - (lg_sl ([.ref a0, .int k0, .ref a1])).length) Slot.unset).toArray = ls at hl ⊢
  have hl : lv_has ls 4 [(0, .ref a0), (1, .int k0), (2, .ref a1)] := hl
  have hP : va_P D vwCl [(a0, .inr (10, [.ref a4, .ref a5, .ref a6, .ref a2, .ref a3, .int 0, .ref a4, .int 0])), (a2, .inl (cy 0, 12, .inl (fun _ => 0))), (a3, .inl (cy 6, 12, .inr (.inr (.inr (.inr (fun _ => none)))))), (a1, .inr (12, [.int 0, .int 0, .double FP.dconst0, .ref (sa 0), .null]))] s.heap := hP
  refine lv_iconst (v := 0) hx hb dX8_setVariable_0 (by decide +kernel) ?_
  refine lv_istore_n (lv' := [(3, .int 0), (0, .ref a0), (1, .int k0), (2, .ref a1)]) hx hb dX8_setVariable_1 rfl hl (by decide) rfl (fun ls hl => ?_)
  refine lv_iload_n hx hb dX8_setVariable_2 rfl (lv_at hl 0 rfl) ?_
  refine lv_aload_n hx hb dX8_setVariable_3 rfl (lv_at hl 1 rfl) ?_
  refine va_get (D := D) (ci := 10) (v := .int 0) (C := RX8) (T := TX8) (N := 8) hx hb hts (fun _ h => (List.mem_append_right _ h)) hown hK hP 0 rfl rfl 5 (by decide) (hts (.fieldLink RX8 273 "PhraseDesk$Runner" "variableCount" "I") (List.mem_of_getElem? (i := 1) rfl)) (fun _ h9 => h9) rfl dX8_setVariable_4 ?_
  refine lv_icmp_ge (tgt := 35) hx hb dX8_setVariable_7 (by decide) (fun _ => ?_) (fun c1 => absurd (by decide +kernel) c1)
  refine lv_iload_n hx hb dX8_setVariable_35 rfl (lv_at hl 0 rfl) ?_
  refine lv_aload_n hx hb dX8_setVariable_36 rfl (lv_at hl 1 rfl) ?_
  refine va_get (D := D) (ci := 10) (v := .ref a2) (C := RX8) (T := TX8) (N := 8) hx hb hts (fun _ h => (List.mem_append_right _ h)) hown hK hP 0 rfl rfl 3 (by decide) (hts (.fieldLink RX8 35 "PhraseDesk$Runner" "variableNames" "[I") (List.mem_of_getElem? (i := 2) rfl)) (fun _ h9 => h9) rfl dX8_setVariable_37 ?_
  refine va_alen (v := 12) hx hb hK hP 1 0 rfl rfl rfl dX8_setVariable_40 ?_
  refine lv_icmp_ge (tgt := 53) hx hb dX8_setVariable_41 (by decide) (fun c2 => absurd c2 (by decide +kernel)) (fun _ => ?_)
  refine lv_iload_n hx hb dX8_setVariable_44 rfl (lv_at hl 0 rfl) ?_
  refine lv_aload_n hx hb dX8_setVariable_45 rfl (lv_at hl 1 rfl) ?_
  refine va_get (D := D) (ci := 10) (v := .ref a3) (C := RX8) (T := TX8) (N := 8) hx hb hts (fun _ h => (List.mem_append_right _ h)) hown hK hP 0 rfl rfl 4 (by decide) (hts (.fieldLink RX8 39 "PhraseDesk$Runner" "variableValues" "[LPhraseDesk$Value;") (List.mem_of_getElem? (i := 3) rfl)) (fun _ h9 => h9) rfl dX8_setVariable_46 ?_
  refine va_alen (v := 12) hx hb hK hP 2 6 rfl rfl rfl dX8_setVariable_49 ?_
  refine lv_icmp_lt (tgt := 55) hx hb dX8_setVariable_50 (by decide) (fun _ => ?_) (fun c3 => absurd (by decide +kernel) c3)
  refine lv_aload_n hx hb dX8_setVariable_55 rfl (lv_at hl 1 rfl) ?_
  refine va_get (D := D) (ci := 10) (v := .ref a2) (C := RX8) (T := TX8) (N := 8) hx hb hts (fun _ h => (List.mem_append_right _ h)) hown hK hP 0 rfl rfl 3 (by decide) (hts (.fieldLink RX8 35 "PhraseDesk$Runner" "variableNames" "[I") (List.mem_of_getElem? (i := 2) rfl)) (fun _ h9 => h9) rfl dX8_setVariable_56 ?_
  refine lv_iload_n hx hb dX8_setVariable_59 rfl (lv_at hl 0 rfl) ?_
  refine lv_iload_n hx hb dX8_setVariable_60 rfl (lv_at hl 2 rfl) ?_
  refine va_iast hx hb hK hP hD hS 1 0 rfl rfl (by unfold vp_in; decide +kernel) dX8_setVariable_61 (fun H locs hP hD hS => ?_)
  have hP : va_P D vwCl [(a0, .inr (10, [.ref a4, .ref a5, .ref a6, .ref a2, .ref a3, .int 0, .ref a4, .int 0])), (a2, .inl (cy 0, 12, .inl (upd (fun _ => 0) 0 k0))), (a3, .inl (cy 6, 12, .inr (.inr (.inr (.inr (fun _ => none)))))), (a1, .inr (12, [.int 0, .int 0, .double FP.dconst0, .ref (sa 0), .null]))] H := hP
  have hD : va_D A [(a0, .inr (10, [.ref a4, .ref a5, .ref a6, .ref a2, .ref a3, .int 0, .ref a4, .int 0])), (a2, .inl (cy 0, 12, .inl (upd (fun _ => 0) 0 k0))), (a3, .inl (cy 6, 12, .inr (.inr (.inr (.inr (fun _ => none)))))), (a1, .inr (12, [.int 0, .int 0, .double FP.dconst0, .ref (sa 0), .null]))] := hD
  refine lv_aload_n hx hb dX8_setVariable_62 rfl (lv_at hl 1 rfl) ?_
  refine va_get (D := D) (ci := 10) (v := .ref a3) (C := RX8) (T := TX8) (N := 8) hx hb hts (fun _ h => (List.mem_append_right _ h)) hown hK hP 0 rfl rfl 4 (by decide) (hts (.fieldLink RX8 39 "PhraseDesk$Runner" "variableValues" "[LPhraseDesk$Value;") (List.mem_of_getElem? (i := 3) rfl)) (fun _ h9 => h9) rfl dX8_setVariable_63 ?_
  refine lv_iload_n hx hb dX8_setVariable_66 rfl (lv_at hl 0 rfl) ?_
  refine lv_aload_n hx hb dX8_setVariable_67 rfl (lv_at hl 3 rfl) ?_
  refine va_astq (r := (RX10, TX10, 5)) hx hb hK hP hD hS 2 6 3 12 rfl rfl rfl rfl (by unfold vp_in; decide +kernel) dX8_setVariable_68 (fun H locs hP hD hS => ?_)
  have hP : va_P D vwCl [(a0, .inr (10, [.ref a4, .ref a5, .ref a6, .ref a2, .ref a3, .int 0, .ref a4, .int 0])), (a2, .inl (cy 0, 12, .inl (upd (fun _ => 0) 0 k0))), (a3, .inl (cy 6, 12, .inr (.inr (.inr (.inr (va_up (fun _ => none) 0 (some a1))))))), (a1, .inr (12, [.int 0, .int 0, .double FP.dconst0, .ref (sa 0), .null]))] H := hP
  have hD : va_D A [(a0, .inr (10, [.ref a4, .ref a5, .ref a6, .ref a2, .ref a3, .int 0, .ref a4, .int 0])), (a2, .inl (cy 0, 12, .inl (upd (fun _ => 0) 0 k0))), (a3, .inl (cy 6, 12, .inr (.inr (.inr (.inr (va_up (fun _ => none) 0 (some a1))))))), (a1, .inr (12, [.int 0, .int 0, .double FP.dconst0, .ref (sa 0), .null]))] := hD
  refine lv_iload_n hx hb dX8_setVariable_69 rfl (lv_at hl 0 rfl) ?_
  refine lv_aload_n hx hb dX8_setVariable_70 rfl (lv_at hl 1 rfl) ?_
  refine va_get (D := D) (ci := 10) (v := .int 0) (C := RX8) (T := TX8) (N := 8) hx hb hts (fun _ h => (List.mem_append_right _ h)) hown hK hP 0 rfl rfl 5 (by decide) (hts (.fieldLink RX8 273 "PhraseDesk$Runner" "variableCount" "I") (List.mem_of_getElem? (i := 1) rfl)) (fun _ h9 => h9) rfl dX8_setVariable_71 ?_
  refine lv_icmp_ne (tgt := 87) hx hb dX8_setVariable_74 (by decide) (fun c4 => absurd (by decide +kernel) c4) (fun _ => ?_)
  refine lv_aload_n hx hb dX8_setVariable_77 rfl (lv_at hl 1 rfl) ?_
  refine lv_dup hx hb dX8_setVariable_78 rfl ?_
  refine va_get (D := D) (ci := 10) (v := .int 0) (C := RX8) (T := TX8) (N := 8) hx hb hts (fun _ h => (List.mem_append_right _ h)) hown hK hP 0 rfl rfl 5 (by decide) (hts (.fieldLink RX8 273 "PhraseDesk$Runner" "variableCount" "I") (List.mem_of_getElem? (i := 1) rfl)) (fun _ h9 => h9) rfl dX8_setVariable_79 ?_
  refine lv_iconst (v := 1) hx hb dX8_setVariable_82 (by decide +kernel) ?_
  refine lv_iadd hx hb dX8_setVariable_83 ?_
  refine lv_topi (fun x5 ex5 => ?_)
  obtain rfl : x5 = 1 := ex5.trans (by decide +kernel)
  refine va_put (D := D) (ci := 10) (v := .int 1) (ty := .int) (C := RX8) (T := TX8) (N := 8) hx hb hts (fun _ h => (List.mem_append_right _ h)) tyX8 tyX8_ok nmX8 hown hK hP hD hS 0 rfl rfl 5 (by decide) (hts (.fieldLink RX8 273 "PhraseDesk$Runner" "variableCount" "I") (List.mem_of_getElem? (i := 1) rfl)) (fun _ h9 => h9) rfl (by decide +kernel) rfl rfl (Nat.le_of_ble_eq_true rfl) dX8_setVariable_84 (fun H locs hP hD hS => ?_)
  have hP : va_P D vwCl [(a0, .inr (10, [.ref a4, .ref a5, .ref a6, .ref a2, .ref a3, .int 1, .ref a4, .int 0])), (a2, .inl (cy 0, 12, .inl (upd (fun _ => 0) 0 k0))), (a3, .inl (cy 6, 12, .inr (.inr (.inr (.inr (va_up (fun _ => none) 0 (some a1))))))), (a1, .inr (12, [.int 0, .int 0, .double FP.dconst0, .ref (sa 0), .null]))] H := hP
  have hD : va_D A [(a0, .inr (10, [.ref a4, .ref a5, .ref a6, .ref a2, .ref a3, .int 1, .ref a4, .int 0])), (a2, .inl (cy 0, 12, .inl (upd (fun _ => 0) 0 k0))), (a3, .inl (cy 6, 12, .inr (.inr (.inr (.inr (va_up (fun _ => none) 0 (some a1))))))), (a1, .inr (12, [.int 0, .int 0, .double FP.dconst0, .ref (sa 0), .null]))] := hD
  refine lv_iconst (v := 1) hx hb dX8_setVariable_87 (by decide +kernel) ?_
  refine W.widen (k := 0) (n := 0) (Nat.le_of_ble_eq_true rfl) (Nat.le_of_ble_eq_true rfl) ?_
  have hP9 := hP.sub (ws' := [(a0, .inr (10, [.ref a4, .ref a5, .ref a6, .ref a2, .ref a3, .int 1, .ref a4, .int 0])), (a2, .inl (cy 0, 12, .inl (upd (fun _ => 0) 0 k0))), (a3, .inl (cy 6, 12, .inr (.inr (.inr (.inr (va_up (fun _ => none) 0 (some a1))))))), (a1, .inr (12, [.int 0, .int 0, .double FP.dconst0, .ref (sa 0), .null]))]) [0, 1, 2, 3] rfl
  have hD9 := hD.sub (ws' := [(a0, .inr (10, [.ref a4, .ref a5, .ref a6, .ref a2, .ref a3, .int 1, .ref a4, .int 0])), (a2, .inl (cy 0, 12, .inl (upd (fun _ => 0) 0 k0))), (a3, .inl (cy 6, 12, .inr (.inr (.inr (.inr (va_up (fun _ => none) 0 (some a1))))))), (a1, .inr (12, [.int 0, .int 0, .double FP.dconst0, .ref (sa 0), .null]))]) [0, 1, 2, 3] (by decide) rfl
  exact W.zret (v := 1) (ty := .boolean) hx hb hr rfl (fun t ht hW => ⟨⟨1, (), rfl, rfl, ⟨by rw [ht]; exact hP9, hD9⟩⟩, hS.F ht⟩) hS.2.2 dX8_setVariable_88

def wq_X11_keep_10 : List Cond := [.code yX11_keep cX11_keep 2 (some .int), .methodLink RX11 104 yX11_isName, .static yX11_isName, .initialized RX11, .code yX11_isName cX11_isName 1 (some .boolean), .constant RX11 236 (14348906), .classLink RX11 49 "java/lang/IllegalArgumentException", .initialized "java/lang/IllegalArgumentException", .fieldLink RX11 19 "PhraseDesk" "runner" "LPhraseDesk$Runner;", .fieldLink RX11 45 "PhraseDesk" "latest" "LPhraseDesk$Value;", .methodLink RX11 196 yX8_setVariable, .instanceMethod yX8_setVariable, .selects RX8 yX8_setVariable yX8_setVariable, .initialized RX8, .code yX8_setVariable cX8_setVariable 4 (some .boolean), .fieldLink RX8 273 "PhraseDesk$Runner" "variableCount" "I", .fieldLink RX8 35 "PhraseDesk$Runner" "variableNames" "[I", .fieldLink RX8 39 "PhraseDesk$Runner" "variableValues" "[LPhraseDesk$Value;", .fieldLink RX11 202 "PhraseDesk$Value" "kind" "I"]
def wq_X11_keep_1 : List Cond := wq_X11_keep_10 ++ wsX110 ++ wsX80 ++ wsX100 ++ (vx_atS RX11 53 tIAE tSup).filter goodWord
set_option maxHeartbeats 4000000 in
set_option maxRecDepth 100000 in
theorem C_X11_keep_1 (l : Launch) (hfl : l.stackTraces = false) (D : va_G) (cy : Nat → ClassId) (sz0 : Nat) (sa : Nat → Nat) (a0 a1 a2 a3 a4 a5 a6 a7 a8 a9 a10 a11 : Nat) (sz : Nat) (k0 : Int32) : vx_Met l yX11_keep wq_X11_keep_1 ({ frames := 6, cells := 1, slots := 6, locals := 82 }) (PcW D cy sz0 sa [.ref a0, .int k0] [(a0, .inr (13, [.ref a5, .ref a1, .ref a6, .int 0, .ref a7, .int 0, .ref a8, .int 0, .ref a4])), (a1, .inr (10, [.ref a9, .ref a10, .ref a11, .ref a2, .ref a3, .int 0, .ref a9, .int 0])), (a2, .inl (cy 0, 12, .inl (fun _ => 0))), (a3, .inl (cy 6, 12, .inr (.inr (.inr (.inr (fun _ => none)))))), (a4, .inr (12, [.int 0, .int 0, .double FP.dconst0, .ref (sa 0), .null]))] sz) (va_Qi (fun (r : Int32) (u : Unit) => r = 0 ∧ ((1 ≤ k0.toInt ∧ k0.toInt ≤ 14348906))) (fun (_ : Unit) (_ : State) => True) (va_A [(a0, .inr (13, [.ref a5, .ref a1, .ref a6, .int 0, .ref a7, .int 0, .ref a8, .int 0, .ref a4])), (a1, .inr (10, [.ref a9, .ref a10, .ref a11, .ref a2, .ref a3, .int 0, .ref a9, .int 0])), (a2, .inl (cy 0, 12, .inl (fun _ => 0))), (a3, .inl (cy 6, 12, .inr (.inr (.inr (.inr (fun _ => none)))))), (a4, .inr (12, [.int 0, .int 0, .double FP.dconst0, .ref (sa 0), .null]))] sz)) (vx_X (fun _ : Unit => True) (fun (E : String) (_ : Unit) (_ : State) => E = tIAE ∧ (((k0.toInt < 1 ∨ (1 ≤ k0.toInt ∧ 14348906 < k0.toInt))))) (va_A [(a0, .inr (13, [.ref a5, .ref a1, .ref a6, .int 0, .ref a7, .int 0, .ref a8, .int 0, .ref a4])), (a1, .inr (10, [.ref a9, .ref a10, .ref a11, .ref a2, .ref a3, .int 0, .ref a9, .int 0])), (a2, .inl (cy 0, 12, .inl (fun _ => 0))), (a3, .inl (cy 6, 12, .inr (.inr (.inr (.inr (fun _ => none)))))), (a4, .inr (12, [.int 0, .int 0, .double FP.dconst0, .ref (sa 0), .null]))] sz)) 1 6 (va_A [(a0, .inr (13, [.ref a5, .ref a1, .ref a6, .int 0, .ref a7, .int 0, .ref a8, .int 0, .ref a4])), (a1, .inr (10, [.ref a9, .ref a10, .ref a11, .ref a2, .ref a3, .int 0, .ref a9, .int 0])), (a2, .inl (cy 0, 12, .inl (fun _ => 0))), (a3, .inl (cy 6, 12, .inr (.inr (.inr (.inr (fun _ => none)))))), (a4, .inr (12, [.int 0, .int 0, .double FP.dconst0, .ref (sa 0), .null]))] sz) := by
  refine vx_ofW (cc := cX11_keep) (maxL := 2) (ret := (some .int)) (by decide) rfl ?_
  intro p e s m args below meth c s₁ B hml hout hv
  obtain ⟨rfl, hsz, hP, hD0, hE⟩ := hv
  have hx := B.exec
  have hb := B.bytes
  have hr := B.returns
  have hts := atoms_spec (ws := wq_X11_keep_1) B.pre
  have hown : s.vm.findClass RX11 = some m.cls := findClass_of_methodNamed B.named
  have hlocks := B.notSynchronized
  subst hsz
  have hK := hE.1
  have hAm := hE.2.2.1
  have hWm := hE.2.2.2
  have hAO := hWm.2.2.2.1
  have hD := hD0.self (sz := s.heap.size)
  have hAF := frA hD0 hE.2.1
  generalize hAe : va_A [(a0, .inr (13, [.ref a5, .ref a1, .ref a6, .int 0, .ref a7, .int 0, .ref a8, .int 0, .ref a4])), (a1, .inr (10, [.ref a9, .ref a10, .ref a11, .ref a2, .ref a3, .int 0, .ref a9, .int 0])), (a2, .inl (cy 0, 12, .inl (fun _ => 0))), (a3, .inl (cy 6, 12, .inr (.inr (.inr (.inr (fun _ => none)))))), (a4, .inr (12, [.int 0, .int 0, .double FP.dconst0, .ref (sa 0), .null]))] s.heap.size = A at hD hAF ⊢
  have hA : ∀ q : Nat, s.heap.size ≤ q → A q := fun q h => by rw [← hAe]; exact Or.inr h
  have hS : va_S A s.heap s.heap [] := va_S.rf
  have hl := lv_entry ([.ref a0, .int k0]) (n := 2) (Nat.le_of_ble_eq_true rfl)
  rw [lg_entry_eq]
  generalize (lg_sl ([.ref a0, .int k0]) ++ List.replicate (2 - (lg_sl ([.ref a0, .int k0])).length) Slot.unset).toArray = ls at hl ⊢
  have hl : lv_has ls 2 [(0, .ref a0), (1, .int k0)] := hl
  have hP : va_P D vwCl [(a0, .inr (13, [.ref a5, .ref a1, .ref a6, .int 0, .ref a7, .int 0, .ref a8, .int 0, .ref a4])), (a1, .inr (10, [.ref a9, .ref a10, .ref a11, .ref a2, .ref a3, .int 0, .ref a9, .int 0])), (a2, .inl (cy 0, 12, .inl (fun _ => 0))), (a3, .inl (cy 6, 12, .inr (.inr (.inr (.inr (fun _ => none)))))), (a4, .inr (12, [.int 0, .int 0, .double FP.dconst0, .ref (sa 0), .null]))] s.heap := hP
  have z1 : (1 : Int32).toInt = 1 := by decide +kernel
  have z14348906 : (14348906 : Int32).toInt = 14348906 := by decide +kernel
  refine lv_iload_n hx hb dX11_keep_0 rfl (lv_at hl 1 rfl) ?_
  have hPc := hP.sub (ws' := []) [] rfl
  have hDc := hD.sub (ws' := []) [] (by decide) rfl
  have hFc := va_free (wc := []) hD hS hA [] rfl
  refine va_calli (va_runS (As := [.int k0]) (rest := []) ⟨hx, hb, hml, hown, hts⟩ (C_X11_isName_1 l D cy sz0 sa s.heap.size k0) (va_cwS 1 hts (goodIn_app (goodIn_r _ [1, 2, 3] rfl (by decide +kernel)) (goodIn_r wq_X11_isName_1 [4, 5] rfl (by decide +kernel))) rfl rfl rfl (by decide +kernel) ⟨Nat.le_of_ble_eq_true rfl, Nat.le_of_ble_eq_true rfl⟩) ⟨PcW.blind, PcW.mk hE hS hAF hPc hDc⟩ rfl rfl hl.1 rfl (lv_room (Nat.le_of_ble_eq_true rfl)) dX11_keep_1 ⟨Nat.le_of_ble_eq_true rfl, Nat.le_of_ble_eq_true rfl⟩) hS (fun q _ h => hFc q h) hFc (fun r_1 u t H1 locs ht hvm hw hB hz1 hk1 hS => ?_)
  obtain ⟨hP1, hD1⟩ := hB
  rw [ht] at hP1
  have hP1 : va_P D vwCl [] H1 := hP1
  obtain ⟨hP, hD⟩ := va_join (wr := [(a0, .inr (13, [.ref a5, .ref a1, .ref a6, .int 0, .ref a7, .int 0, .ref a8, .int 0, .ref a4])), (a1, .inr (10, [.ref a9, .ref a10, .ref a11, .ref a2, .ref a3, .int 0, .ref a9, .int 0])), (a2, .inl (cy 0, 12, .inl (fun _ => 0))), (a3, .inl (cy 6, 12, .inr (.inr (.inr (.inr (fun _ => none)))))), (a4, .inr (12, [.int 0, .int 0, .double FP.dconst0, .ref (sa 0), .null]))]) (w1 := []) hP hD [] [0, 1, 2, 3, 4] rfl rfl (by decide) (by decide) hk1 hFc hP1 hD1
  clear hP1 hD1 hPc hDc hFc hk1 hz1
  generalize H1 = H at hP hS ⊢
  have hP : va_P D vwCl [(a0, .inr (13, [.ref a5, .ref a1, .ref a6, .int 0, .ref a7, .int 0, .ref a8, .int 0, .ref a4])), (a1, .inr (10, [.ref a9, .ref a10, .ref a11, .ref a2, .ref a3, .int 0, .ref a9, .int 0])), (a2, .inl (cy 0, 12, .inl (fun _ => 0))), (a3, .inl (cy 6, 12, .inr (.inr (.inr (.inr (fun _ => none)))))), (a4, .inr (12, [.int 0, .int 0, .double FP.dconst0, .ref (sa 0), .null]))] H := hP
  have hD : va_D A [(a0, .inr (13, [.ref a5, .ref a1, .ref a6, .int 0, .ref a7, .int 0, .ref a8, .int 0, .ref a4])), (a1, .inr (10, [.ref a9, .ref a10, .ref a11, .ref a2, .ref a3, .int 0, .ref a9, .int 0])), (a2, .inl (cy 0, 12, .inl (fun _ => 0))), (a3, .inl (cy 6, 12, .inr (.inr (.inr (.inr (fun _ => none)))))), (a4, .inr (12, [.int 0, .int 0, .double FP.dconst0, .ref (sa 0), .null]))] := hD
  refine W.widen (k := 0) (n := 0) (Nat.le_of_ble_eq_true rfl) (Nat.le_of_ble_eq_true rfl) ?_
  rcases hw with ⟨hr, hcr_1⟩ | ⟨hr, hcr_1⟩
  · obtain rfl : r_1 = 0 := hr
    refine lv_if_ne (tgt := 17) hx hb dX11_keep_4 (by decide) (fun c2 => absurd (by decide +kernel) c2) (fun _ => ?_)
    exact g_iae hx hb hfl hts hE hAF hown (List.mem_of_getElem? (i := 6) rfl) (List.mem_of_getElem? (i := 7) rfl) (is := 194) (text := "not the code of a name") (by decide +kernel) (fun _ h => (List.mem_append_right _ h)) hS (by rw [hml]; exact hl.1) dX11_keep_7 dX11_keep_10 dX11_keep_11 dX11_keep_13 dX11_keep_16 hout (by decide) (by decide) (Nat.le_of_ble_eq_true rfl) (Nat.le_of_ble_eq_true rfl) hlocks (fun t h1 h2 h3 => ⟨(), trivial, ⟨rfl, by omega⟩, Nat.le_trans hS.1 h2, fun q h4 h5 => (h3 q (Nat.lt_of_lt_of_le h4 hS.1)).trans (hS.2.1 q h4 h5)⟩) hS.2.2 (Nat.le_of_ble_eq_true rfl) (Nat.le_of_ble_eq_true rfl)
  · obtain rfl : r_1 = 1 := hr
    refine lv_if_ne (tgt := 17) hx hb dX11_keep_4 (by decide) (fun _ => ?_) (fun c3 => absurd c3 (by decide +kernel))
    refine lv_aload_n hx hb dX11_keep_17 rfl (lv_at hl 0 rfl) ?_
    refine va_get (D := D) (ci := 13) (v := .ref a1) (C := RX11) (T := TX11) (N := 9) hx hb hts (fun _ h => (List.mem_append_left _ (List.mem_append_left _ (List.mem_append_left _ (List.mem_append_right _ h))))) hown hK hP 0 rfl rfl 1 (by decide) (hts (.fieldLink RX11 19 "PhraseDesk" "runner" "LPhraseDesk$Runner;") (List.mem_of_getElem? (i := 8) rfl)) (fun _ h9 => h9) rfl dX11_keep_18 ?_
    refine lv_iload_n hx hb dX11_keep_21 rfl (lv_at hl 1 rfl) ?_
    refine lv_aload_n hx hb dX11_keep_22 rfl (lv_at hl 0 rfl) ?_
    refine va_get (D := D) (ci := 13) (v := .ref a4) (C := RX11) (T := TX11) (N := 9) hx hb hts (fun _ h => (List.mem_append_left _ (List.mem_append_left _ (List.mem_append_left _ (List.mem_append_right _ h))))) hown hK hP 0 rfl rfl 8 (by decide) (hts (.fieldLink RX11 45 "PhraseDesk" "latest" "LPhraseDesk$Value;") (List.mem_of_getElem? (i := 9) rfl)) (fun _ h9 => h9) rfl dX11_keep_23 ?_
    have hPc := hP.sub (ws' := [(a1, .inr (10, [.ref a9, .ref a10, .ref a11, .ref a2, .ref a3, .int 0, .ref a9, .int 0])), (a2, .inl (cy 0, 12, .inl (fun _ => 0))), (a3, .inl (cy 6, 12, .inr (.inr (.inr (.inr (fun _ => none)))))), (a4, .inr (12, [.int 0, .int 0, .double FP.dconst0, .ref (sa 0), .null]))]) [1, 2, 3, 4] rfl
    have hDc := hD.sub (ws' := [(a1, .inr (10, [.ref a9, .ref a10, .ref a11, .ref a2, .ref a3, .int 0, .ref a9, .int 0])), (a2, .inl (cy 0, 12, .inl (fun _ => 0))), (a3, .inl (cy 6, 12, .inr (.inr (.inr (.inr (fun _ => none)))))), (a4, .inr (12, [.int 0, .int 0, .double FP.dconst0, .ref (sa 0), .null]))]) [1, 2, 3, 4] (by decide) rfl
    have hFc := va_free (wc := [(a1, .inr (10, [.ref a9, .ref a10, .ref a11, .ref a2, .ref a3, .int 0, .ref a9, .int 0])), (a2, .inl (cy 0, 12, .inl (fun _ => 0))), (a3, .inl (cy 6, 12, .inr (.inr (.inr (.inr (fun _ => none)))))), (a4, .inr (12, [.int 0, .int 0, .double FP.dconst0, .ref (sa 0), .null]))]) hD hS hA [1, 2, 3, 4] rfl
    refine va_calli (va_runV (As := [.int k0, .ref a4]) (rest := []) ⟨hx, hb, hml, hown, hts⟩ (C_X8_setVariable_1 l D cy sz0 sa a1 a4 a2 a3 a9 a10 a11 H.size k0) (cwV 2 hts (goodIn_app (goodIn_r _ [10, 11, 12, 13] rfl (by decide +kernel)) (goodIn_app (goodIn_r wq_X8_setVariable_10 [14, 15, 16, 17] rfl (by decide +kernel)) (goodIn_sub (fun _ h => (List.mem_append_left _ (List.mem_append_left _ (List.mem_append_right _ h)))) (by decide +kernel)))) rfl rfl rfl (by decide +kernel) ⟨Nat.le_of_ble_eq_true rfl, Nat.le_of_ble_eq_true rfl⟩) ⟨PcW.blind, va_recv hK hPc (ci := 10) (q0 := 0) rfl rfl, PcW.mk hE hS hAF hPc hDc⟩ rfl rfl hl.1 rfl (lv_room (Nat.le_of_ble_eq_true rfl)) dX11_keep_26 ⟨Nat.le_of_ble_eq_true rfl, Nat.le_of_ble_eq_true rfl⟩) hS (fun q _ h => hFc q h) hFc (fun r_4 u t H1 locs ht hvm hw hB hz1 hk1 hS => ?_)
    obtain ⟨hP1, hD1⟩ := hB
    rw [ht] at hP1
    have hP1 : va_P D vwCl [(a1, .inr (10, [.ref a9, .ref a10, .ref a11, .ref a2, .ref a3, .int 1, .ref a9, .int 0])), (a2, .inl (cy 0, 12, .inl (upd (fun _ => 0) 0 k0))), (a3, .inl (cy 6, 12, .inr (.inr (.inr (.inr (va_up (fun _ => none) 0 (some a4))))))), (a4, .inr (12, [.int 0, .int 0, .double FP.dconst0, .ref (sa 0), .null]))] H1 := hP1
    obtain ⟨hP, hD⟩ := va_join (wr := [(a0, .inr (13, [.ref a5, .ref a1, .ref a6, .int 0, .ref a7, .int 0, .ref a8, .int 0, .ref a4]))]) (w1 := [(a1, .inr (10, [.ref a9, .ref a10, .ref a11, .ref a2, .ref a3, .int 1, .ref a9, .int 0])), (a2, .inl (cy 0, 12, .inl (upd (fun _ => 0) 0 k0))), (a3, .inl (cy 6, 12, .inr (.inr (.inr (.inr (va_up (fun _ => none) 0 (some a4))))))), (a4, .inr (12, [.int 0, .int 0, .double FP.dconst0, .ref (sa 0), .null]))]) hP hD [1, 2, 3, 4] [0] rfl rfl (by decide) (by decide) hk1 hFc hP1 hD1
    clear hP1 hD1 hPc hDc hFc hk1 hz1
    generalize H1 = H at hP hS ⊢
    have hP : va_P D vwCl [(a0, .inr (13, [.ref a5, .ref a1, .ref a6, .int 0, .ref a7, .int 0, .ref a8, .int 0, .ref a4])), (a1, .inr (10, [.ref a9, .ref a10, .ref a11, .ref a2, .ref a3, .int 1, .ref a9, .int 0])), (a2, .inl (cy 0, 12, .inl (upd (fun _ => 0) 0 k0))), (a3, .inl (cy 6, 12, .inr (.inr (.inr (.inr (va_up (fun _ => none) 0 (some a4))))))), (a4, .inr (12, [.int 0, .int 0, .double FP.dconst0, .ref (sa 0), .null]))] H := hP
    have hD : va_D A [(a0, .inr (13, [.ref a5, .ref a1, .ref a6, .int 0, .ref a7, .int 0, .ref a8, .int 0, .ref a4])), (a1, .inr (10, [.ref a9, .ref a10, .ref a11, .ref a2, .ref a3, .int 1, .ref a9, .int 0])), (a2, .inl (cy 0, 12, .inl (upd (fun _ => 0) 0 k0))), (a3, .inl (cy 6, 12, .inr (.inr (.inr (.inr (va_up (fun _ => none) 0 (some a4))))))), (a4, .inr (12, [.int 0, .int 0, .double FP.dconst0, .ref (sa 0), .null]))] := hD
    refine W.widen (k := 0) (n := 0) (Nat.le_of_ble_eq_true rfl) (Nat.le_of_ble_eq_true rfl) ?_
    obtain rfl : r_4 = 1 := hw
    refine lv_if_ne (tgt := 42) hx hb dX11_keep_29 (by decide) (fun _ => ?_) (fun c5 => absurd c5 (by decide +kernel))
    refine lv_aload_n hx hb dX11_keep_42 rfl (lv_at hl 0 rfl) ?_
    refine va_get (D := D) (ci := 13) (v := .ref a4) (C := RX11) (T := TX11) (N := 9) hx hb hts (fun _ h => (List.mem_append_left _ (List.mem_append_left _ (List.mem_append_left _ (List.mem_append_right _ h))))) hown hK hP 0 rfl rfl 8 (by decide) (hts (.fieldLink RX11 45 "PhraseDesk" "latest" "LPhraseDesk$Value;") (List.mem_of_getElem? (i := 9) rfl)) (fun _ h9 => h9) rfl dX11_keep_43 ?_
    refine va_get (D := D) (ci := 12) (v := .int 0) (C := RX10) (T := TX10) (N := 5) hx hb hts (fun _ h => (List.mem_append_left _ (List.mem_append_right _ h))) hown hK hP 4 rfl rfl 0 (by decide) (hts (.fieldLink RX11 202 "PhraseDesk$Value" "kind" "I") (List.mem_of_getElem? (i := 18) rfl)) (fun _ h9 => h9) rfl dX11_keep_46 ?_
    refine vx_ret ?_
    refine W.widen (k := 1) (n := 6) (Nat.le_of_ble_eq_true rfl) (Nat.le_of_ble_eq_true rfl) ?_
    exact W.iret (v := 0) hx hb hr (fun t ht hW => ⟨⟨0, (), rfl, ⟨rfl, by omega⟩, trivial⟩, hS.F ht⟩) hS.2.2 dX11_keep_49

def wq_L_keep_10 : List Cond := [.codeWith yL_keep cL_keep 4 (some .int) [(0, 9, 12, 13), (0, 9, 15, 15)], .methodLink RL 43 yX11_keep, .instanceMethod yX11_keep, .selects RX11 yX11_keep yX11_keep, .initialized RX11, .code yX11_keep cX11_keep 2 (some .int), .methodLink RX11 104 yX11_isName, .static yX11_isName, .code yX11_isName cX11_isName 1 (some .boolean), .constant RX11 236 (14348906), .classLink RX11 49 "java/lang/IllegalArgumentException", .initialized "java/lang/IllegalArgumentException", .fieldLink RX11 19 "PhraseDesk" "runner" "LPhraseDesk$Runner;", .fieldLink RX11 45 "PhraseDesk" "latest" "LPhraseDesk$Value;", .methodLink RX11 196 yX8_setVariable, .instanceMethod yX8_setVariable, .selects RX8 yX8_setVariable yX8_setVariable, .initialized RX8, .code yX8_setVariable cX8_setVariable 4 (some .boolean), .fieldLink RX8 273 "PhraseDesk$Runner" "variableCount" "I", .fieldLink RX8 35 "PhraseDesk$Runner" "variableNames" "[I", .fieldLink RX8 39 "PhraseDesk$Runner" "variableValues" "[LPhraseDesk$Value;", .fieldLink RX11 202 "PhraseDesk$Value" "kind" "I", .classLink RL 13 "java/lang/IllegalArgumentException"]
def wq_L_keep_1 : List Cond := wq_L_keep_10 ++ wsX110 ++ wsX80 ++ wsX100 ++ (vx_atS RX11 53 tIAE tSup).filter goodWord
set_option maxHeartbeats 4000000 in
set_option maxRecDepth 100000 in
theorem C_L_keep_1 (l : Launch) (hfl : l.stackTraces = false) (D : va_G) (cy : Nat → ClassId) (sz0 : Nat) (sa : Nat → Nat) (a0 a1 a2 a3 a4 a5 a6 a7 a8 a9 a10 a11 a12 : Nat) (sz : Nat) (k0 : Int32) : Met l yL_keep wq_L_keep_1 ({ frames := 7, cells := 1, slots := 6, locals := 103 }) (PcW D cy sz0 sa [.ref a0, .int k0, .ref a1] [(a0, .inr (13, [.ref a6, .ref a2, .ref a7, .int 0, .ref a8, .int 0, .ref a9, .int 0, .ref a5])), (a2, .inr (10, [.ref a10, .ref a11, .ref a12, .ref a3, .ref a4, .int 0, .ref a10, .int 0])), (a3, .inl (cy 0, 12, .inl (fun _ => 0))), (a4, .inl (cy 6, 12, .inr (.inr (.inr (.inr (fun _ => none)))))), (a5, .inr (12, [.int 0, .int 0, .double FP.dconst0, .ref (sa 0), .null])), (a1, .inl (cy 1, 1, .inr (.inl (fun _ => 0))))] sz) (va_Qi (fun (r : Int32) (u : Int64) => (r = 1 ∧ u = 0 ∧ ((((k0.toInt < 1 ∨ (1 ≤ k0.toInt ∧ 14348906 < k0.toInt)))))) ∨ (r = 0 ∧ u = 0 ∧ (((1 ≤ k0.toInt ∧ k0.toInt ≤ 14348906))))) (fun (u : Int64) (t : State) => ∃ f : Nat → Int64, BW D [(a1, .inl (cy 1, 1, .inr (.inl f)))] (va_A [(a0, .inr (13, [.ref a6, .ref a2, .ref a7, .int 0, .ref a8, .int 0, .ref a9, .int 0, .ref a5])), (a2, .inr (10, [.ref a10, .ref a11, .ref a12, .ref a3, .ref a4, .int 0, .ref a10, .int 0])), (a3, .inl (cy 0, 12, .inl (fun _ => 0))), (a4, .inl (cy 6, 12, .inr (.inr (.inr (.inr (fun _ => none)))))), (a5, .inr (12, [.int 0, .int 0, .double FP.dconst0, .ref (sa 0), .null])), (a1, .inl (cy 1, 1, .inr (.inl (fun _ => 0))))] sz) t ∧ f 0 = u) (va_A [(a0, .inr (13, [.ref a6, .ref a2, .ref a7, .int 0, .ref a8, .int 0, .ref a9, .int 0, .ref a5])), (a2, .inr (10, [.ref a10, .ref a11, .ref a12, .ref a3, .ref a4, .int 0, .ref a10, .int 0])), (a3, .inl (cy 0, 12, .inl (fun _ => 0))), (a4, .inl (cy 6, 12, .inr (.inr (.inr (.inr (fun _ => none)))))), (a5, .inr (12, [.int 0, .int 0, .double FP.dconst0, .ref (sa 0), .null])), (a1, .inl (cy 1, 1, .inr (.inl (fun _ => 0))))] sz)) 1 6 (va_A [(a0, .inr (13, [.ref a6, .ref a2, .ref a7, .int 0, .ref a8, .int 0, .ref a9, .int 0, .ref a5])), (a2, .inr (10, [.ref a10, .ref a11, .ref a12, .ref a3, .ref a4, .int 0, .ref a10, .int 0])), (a3, .inl (cy 0, 12, .inl (fun _ => 0))), (a4, .inl (cy 6, 12, .inr (.inr (.inr (.inr (fun _ => none)))))), (a5, .inr (12, [.int 0, .int 0, .double FP.dconst0, .ref (sa 0), .null])), (a1, .inl (cy 1, 1, .inr (.inl (fun _ => 0))))] sz) := by
  refine va_MetW (cc := cL_keep) (maxL := 4) (ret := (some .int)) (hh := [(0, 9, 12, 13), (0, 9, 15, 15)]) (by decide) rfl ?_
  intro p e s m args below meth c s₁ B hml hv
  obtain ⟨rfl, hsz, hP, hD0, hE⟩ := hv
  have hx := B.exec
  have hb := B.bytes
  have hr := B.returns
  have hts := atoms_spec (ws := wq_L_keep_1) B.pre
  have hown : s.vm.findClass RL = some m.cls := findClass_of_methodNamed B.named
  have hlocks := B.notSynchronized
  subst hsz
  have hK := hE.1
  have hAm := hE.2.2.1
  have hWm := hE.2.2.2
  have hAO := hWm.2.2.2.1
  have hD := hD0.self (sz := s.heap.size)
  have hAF := frA hD0 hE.2.1
  generalize hAe : va_A [(a0, .inr (13, [.ref a6, .ref a2, .ref a7, .int 0, .ref a8, .int 0, .ref a9, .int 0, .ref a5])), (a2, .inr (10, [.ref a10, .ref a11, .ref a12, .ref a3, .ref a4, .int 0, .ref a10, .int 0])), (a3, .inl (cy 0, 12, .inl (fun _ => 0))), (a4, .inl (cy 6, 12, .inr (.inr (.inr (.inr (fun _ => none)))))), (a5, .inr (12, [.int 0, .int 0, .double FP.dconst0, .ref (sa 0), .null])), (a1, .inl (cy 1, 1, .inr (.inl (fun _ => 0))))] s.heap.size = A at hD hAF ⊢
  have hA : ∀ q : Nat, s.heap.size ≤ q → A q := fun q h => by rw [← hAe]; exact Or.inr h
  have hS : va_S A s.heap s.heap [] := va_S.rf
  have hl := lv_entry ([.ref a0, .int k0, .ref a1]) (n := 4) (Nat.le_of_ble_eq_true rfl)
  rw [lg_entry_eq]
  generalize (lg_sl ([.ref a0, .int k0, .ref a1]) ++ List.replicate (4 - (lg_sl ([.ref a0, .int k0, .ref a1])).length) Slot.unset).toArray = ls at hl ⊢
  have hl : lv_has ls 4 [(0, .ref a0), (1, .int k0), (2, .ref a1)] := hl
  have hP : va_P D vwCl [(a0, .inr (13, [.ref a6, .ref a2, .ref a7, .int 0, .ref a8, .int 0, .ref a9, .int 0, .ref a5])), (a2, .inr (10, [.ref a10, .ref a11, .ref a12, .ref a3, .ref a4, .int 0, .ref a10, .int 0])), (a3, .inl (cy 0, 12, .inl (fun _ => 0))), (a4, .inl (cy 6, 12, .inr (.inr (.inr (.inr (fun _ => none)))))), (a5, .inr (12, [.int 0, .int 0, .double FP.dconst0, .ref (sa 0), .null])), (a1, .inl (cy 1, 1, .inr (.inl (fun _ => 0))))] s.heap := hP
  have z1 : (1 : Int32).toInt = 1 := by decide +kernel
  have z14348906 : (14348906 : Int32).toInt = 14348906 := by decide +kernel
  refine lv_aload_n hx hb dL_keep_0 rfl (lv_at hl 2 rfl) ?_
  refine lv_iconst (v := 0) hx hb dL_keep_1 (by decide +kernel) ?_
  refine lv_aload_n hx hb dL_keep_2 rfl (lv_at hl 0 rfl) ?_
  refine lv_iload_n hx hb dL_keep_3 rfl (lv_at hl 1 rfl) ?_
  have hPc := hP.sub (ws' := [(a0, .inr (13, [.ref a6, .ref a2, .ref a7, .int 0, .ref a8, .int 0, .ref a9, .int 0, .ref a5])), (a2, .inr (10, [.ref a10, .ref a11, .ref a12, .ref a3, .ref a4, .int 0, .ref a10, .int 0])), (a3, .inl (cy 0, 12, .inl (fun _ => 0))), (a4, .inl (cy 6, 12, .inr (.inr (.inr (.inr (fun _ => none)))))), (a5, .inr (12, [.int 0, .int 0, .double FP.dconst0, .ref (sa 0), .null]))]) [0, 1, 2, 3, 4] rfl
  have hDc := hD.sub (ws' := [(a0, .inr (13, [.ref a6, .ref a2, .ref a7, .int 0, .ref a8, .int 0, .ref a9, .int 0, .ref a5])), (a2, .inr (10, [.ref a10, .ref a11, .ref a12, .ref a3, .ref a4, .int 0, .ref a10, .int 0])), (a3, .inl (cy 0, 12, .inl (fun _ => 0))), (a4, .inl (cy 6, 12, .inr (.inr (.inr (.inr (fun _ => none)))))), (a5, .inr (12, [.int 0, .int 0, .double FP.dconst0, .ref (sa 0), .null]))]) [0, 1, 2, 3, 4] (by decide) rfl
  have hFc := va_free (wc := [(a0, .inr (13, [.ref a6, .ref a2, .ref a7, .int 0, .ref a8, .int 0, .ref a9, .int 0, .ref a5])), (a2, .inr (10, [.ref a10, .ref a11, .ref a12, .ref a3, .ref a4, .int 0, .ref a10, .int 0])), (a3, .inl (cy 0, 12, .inl (fun _ => 0))), (a4, .inl (cy 6, 12, .inr (.inr (.inr (.inr (fun _ => none)))))), (a5, .inr (12, [.int 0, .int 0, .double FP.dconst0, .ref (sa 0), .null]))]) hD hS hA [0, 1, 2, 3, 4] rfl
  refine vx_calli (vx_runV (As := [.int k0]) (rest := [.int 0, .ref a1]) ⟨hx, hb, hml, hown, hts⟩ (C_X11_keep_1 l hfl D cy sz0 sa a0 a2 a3 a4 a5 a6 a7 a8 a9 a10 a11 a12 s.heap.size k0) (cwV 1 hts (goodIn_app (goodIn_r _ [1, 2, 3, 4] rfl (by decide +kernel)) (goodIn_app (goodIn_app (goodIn_app (goodIn_app (goodIn_r wq_X11_keep_10 [5, 6, 7, 4, 8, 9, 10, 11, 12, 13, 14, 15, 16, 17, 18, 19, 20, 21, 22] rfl (by decide +kernel)) (goodIn_sub (fun _ h => (List.mem_append_left _ (List.mem_append_left _ (List.mem_append_left _ (List.mem_append_right _ h))))) (by decide +kernel))) (goodIn_sub (fun _ h => (List.mem_append_left _ (List.mem_append_left _ (List.mem_append_right _ h)))) (by decide +kernel))) (goodIn_sub (fun _ h => (List.mem_append_left _ (List.mem_append_right _ h))) (by decide +kernel))) (goodIn_sub (fun _ h => (List.mem_append_right _ h)) (by decide +kernel)))) rfl rfl rfl (by decide +kernel) ⟨Nat.le_of_ble_eq_true rfl, Nat.le_of_ble_eq_true rfl⟩) ⟨PcW.blind, va_recv hK hPc (ci := 13) (q0 := 0) rfl rfl, PcW.mk hE hS hAF hPc hDc⟩ rfl rfl hl.1 rfl (lv_room (Nat.le_of_ble_eq_true rfl)) dL_keep_4 ⟨Nat.le_of_ble_eq_true rfl, Nat.le_of_ble_eq_true rfl⟩) hS (fun q _ h => hFc q h) hFc (fun q _ h => hFc q h) (fun E ce q9 u t H1 locs ht hvm hpx hbx hz1 hk1 hS hq9 hv9 hc9 => ?_) (fun r_1 u t H1 locs ht hvm hw hB hz1 hk1 hS => ?_)
  · obtain ⟨rfl, hxr_1⟩ := hbx
    obtain ⟨hP, hD⟩ := va_join (wr := [(a1, .inl (cy 1, 1, .inr (.inl (fun _ => 0))))]) (w1 := []) hP hD [0, 1, 2, 3, 4] [5] rfl rfl (by decide) (by decide) hk1 hFc nilP nilD
    skip
    have hq8 := hq9
    clear hPc hDc hFc hk1 hz1
    skip
    have hP : va_P D vwCl [(a1, .inl (cy 1, 1, .inr (.inl (fun _ => 0))))] H1 := hP
    have hD : va_D A [(a1, .inl (cy 1, 1, .inr (.inl (fun _ => 0))))] := hD
    refine vx_widen (k := 1) (n := 6) (Nat.le_of_ble_eq_true rfl) (Nat.le_of_ble_eq_true rfl) ?_
    refine vx_catch hown [] _ _ ((vx_table (x := yL_keep) B (hts (.codeWith yL_keep cL_keep 4 (some .int) [(0, 9, 12, 13), (0, 9, 15, 15)]) (List.mem_of_getElem? (i := 0) rfl))).trans rfl) (fun z hz => absurd hz List.not_mem_nil) (by decide) (by decide) (hts (.classLink RL 13 "java/lang/IllegalArgumentException") (List.mem_of_getElem? (i := 23) rfl)) (va_Nw.use rfl hWm.2.2.1.2.2.2.1) hq9 hv9 hc9 ?_
    clear hq8 hq9 ht
    generalize H1 = H at hP hS ⊢
    refine lv_astore_n (lv' := [(3, .ref q9), (0, .ref a0), (1, .int k0), (2, .ref a1)]) hx hb dL_keep_12 rfl hl (by decide) rfl (fun ls hl => ?_)
    refine lv_iconst (v := 1) hx hb dL_keep_13 (by decide +kernel) ?_
    refine W.widen (k := 1) (n := 6) (Nat.le_of_ble_eq_true rfl) (Nat.le_of_ble_eq_true rfl) ?_
    have hP9 := hP.sub (ws' := [(a1, .inl (cy 1, 1, .inr (.inl (fun _ => 0))))]) [0] rfl
    have hD9 := hD.sub (ws' := [(a1, .inl (cy 1, 1, .inr (.inl (fun _ => 0))))]) [0] (by decide) rfl
    exact W.iret (v := 1) hx hb hr (fun t ht hW => ⟨⟨1, 0, rfl, Or.inl ⟨rfl, rfl, by omega⟩, ⟨(fun _ => 0), ⟨by rw [ht]; exact hP9, hD9⟩, by decide +kernel⟩⟩, hS.F ht⟩) hS.2.2 dL_keep_14
  · obtain ⟨hP, hD⟩ := va_join (wr := [(a1, .inl (cy 1, 1, .inr (.inl (fun _ => 0))))]) (w1 := []) hP hD [0, 1, 2, 3, 4] [5] rfl rfl (by decide) (by decide) hk1 hFc nilP nilD
    clear hPc hDc hFc hk1 hz1
    generalize H1 = H at hP hS ⊢
    have hP : va_P D vwCl [(a1, .inl (cy 1, 1, .inr (.inl (fun _ => 0))))] H := hP
    have hD : va_D A [(a1, .inl (cy 1, 1, .inr (.inl (fun _ => 0))))] := hD
    refine W.widen (k := 1) (n := 6) (Nat.le_of_ble_eq_true rfl) (Nat.le_of_ble_eq_true rfl) ?_
    obtain ⟨hr, hcr_1⟩ := hw
    obtain rfl : r_1 = 0 := hr
    refine lv_i2l (v := 0) hx hb dL_keep_7 (by decide +kernel) ?_
    refine va_last hx hb hK hP hD hS 0 1 rfl rfl (by unfold vp_in; decide +kernel) dL_keep_8 (fun H locs hP hD hS => ?_)
    have hP : va_P D vwCl [(a1, .inl (cy 1, 1, .inr (.inl (vp_updL (fun _ => 0) 0 0))))] H := hP
    have hD : va_D A [(a1, .inl (cy 1, 1, .inr (.inl (vp_updL (fun _ => 0) 0 0))))] := hD
    refine lv_goto (tgt := 18) hx hb dL_keep_9 (by decide) ?_
    refine lv_iconst (v := 0) hx hb dL_keep_18 (by decide +kernel) ?_
    refine W.widen (k := 1) (n := 6) (Nat.le_of_ble_eq_true rfl) (Nat.le_of_ble_eq_true rfl) ?_
    have hP9 := hP.sub (ws' := [(a1, .inl (cy 1, 1, .inr (.inl (vp_updL (fun _ => 0) 0 0))))]) [0] rfl
    have hD9 := hD.sub (ws' := [(a1, .inl (cy 1, 1, .inr (.inl (vp_updL (fun _ => 0) 0 0))))]) [0] (by decide) rfl
    exact W.iret (v := 0) hx hb hr (fun t ht hW => ⟨⟨0, 0, rfl, Or.inr (⟨rfl, rfl, by omega⟩), ⟨(vp_updL (fun _ => 0) 0 0), ⟨by rw [ht]; exact hP9, hD9⟩, by decide +kernel⟩⟩, hS.F ht⟩) hS.2.2 dL_keep_19
