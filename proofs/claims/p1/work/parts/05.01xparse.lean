def wq_X4_add_10 : List Cond := [.code yX4_add cX4_add 5 none, .fieldLink RX4 42 "PhraseDesk$Lexer" "count" "I", .fieldLink RX4 15 "PhraseDesk$Lexer" "kinds" "[I", .fieldLink RX4 19 "PhraseDesk$Lexer" "places" "[I", .fieldLink RX4 22 "PhraseDesk$Lexer" "names" "[I", .fieldLink RX4 27 "PhraseDesk$Lexer" "literals" "[LPhraseDesk$Value;"]
def wq_X4_add_1 : List Cond := wq_X4_add_10 ++ wsX40
set_option maxHeartbeats 4000000 in
set_option maxRecDepth 100000 in
theorem C_X4_add_1 (l : Launch) (D : va_G) (cy : Nat → ClassId) (sz0 : Nat) (sa : Nat → Nat) (a0 a1 a2 a3 a4 a5 a6 : Nat) (sz : Nat)  : Met l yX4_add wq_X4_add_1 ({ frames := 0, cells := 0, slots := 0, locals := 0 }) (PcW D cy sz0 sa [.ref a0, .int 0, .int 0, .int 0, .null] [(a0, .inr (6, [.ref a5, .int 0, .ref a1, .ref a2, .ref a3, .ref a4, .int 0, .ref a6])), (a1, .inl (cy 0, 41, .inl (fun _ => 0))), (a2, .inl (cy 0, 41, .inl (fun _ => 0))), (a3, .inl (cy 0, 41, .inl (fun _ => 0))), (a4, .inl (cy 6, 41, .inr (.inr (.inr (.inr (fun _ => none))))))] sz) (va_Qv (fun (u : Unit) => True) (fun (u : Unit) (t : State) => BW D [(a0, .inr (6, [.ref a5, .int 0, .ref a1, .ref a2, .ref a3, .ref a4, .int 1, .ref a6])), (a1, .inl (cy 0, 41, .inl (upd (fun _ => 0) 0 0))), (a2, .inl (cy 0, 41, .inl (upd (fun _ => 0) 0 0))), (a3, .inl (cy 0, 41, .inl (upd (fun _ => 0) 0 0))), (a4, .inl (cy 6, 41, .inr (.inr (.inr (.inr (va_up (fun _ => none) 0 none))))))] (va_A [(a0, .inr (6, [.ref a5, .int 0, .ref a1, .ref a2, .ref a3, .ref a4, .int 0, .ref a6])), (a1, .inl (cy 0, 41, .inl (fun _ => 0))), (a2, .inl (cy 0, 41, .inl (fun _ => 0))), (a3, .inl (cy 0, 41, .inl (fun _ => 0))), (a4, .inl (cy 6, 41, .inr (.inr (.inr (.inr (fun _ => none))))))] sz) t) (va_A [(a0, .inr (6, [.ref a5, .int 0, .ref a1, .ref a2, .ref a3, .ref a4, .int 0, .ref a6])), (a1, .inl (cy 0, 41, .inl (fun _ => 0))), (a2, .inl (cy 0, 41, .inl (fun _ => 0))), (a3, .inl (cy 0, 41, .inl (fun _ => 0))), (a4, .inl (cy 6, 41, .inr (.inr (.inr (.inr (fun _ => none))))))] sz)) 0 0 (va_A [(a0, .inr (6, [.ref a5, .int 0, .ref a1, .ref a2, .ref a3, .ref a4, .int 0, .ref a6])), (a1, .inl (cy 0, 41, .inl (fun _ => 0))), (a2, .inl (cy 0, 41, .inl (fun _ => 0))), (a3, .inl (cy 0, 41, .inl (fun _ => 0))), (a4, .inl (cy 6, 41, .inr (.inr (.inr (.inr (fun _ => none))))))] sz) := by
  refine Met.ofW (cc := cX4_add) (maxL := 5) (ret := none) (by decide) rfl ?_
  intro p e s m args below meth c s₁ B hml hv
  obtain ⟨rfl, hsz, hP, hD0, hE⟩ := hv
  have hx := B.exec
  have hb := B.bytes
  have hr := B.returns
  have hts := atoms_spec (ws := wq_X4_add_1) B.pre
  have hown : s.vm.findClass RX4 = some m.cls := findClass_of_methodNamed B.named
  have hlocks := B.notSynchronized
  subst hsz
  have hK := hE.1
  have hAm := hE.2.2.1
  have hWm := hE.2.2.2
  have hAO := hWm.2.2.2.1
  have hD := hD0.self (sz := s.heap.size)
  have hAF := frA hD0 hE.2.1
  generalize hAe : va_A [(a0, .inr (6, [.ref a5, .int 0, .ref a1, .ref a2, .ref a3, .ref a4, .int 0, .ref a6])), (a1, .inl (cy 0, 41, .inl (fun _ => 0))), (a2, .inl (cy 0, 41, .inl (fun _ => 0))), (a3, .inl (cy 0, 41, .inl (fun _ => 0))), (a4, .inl (cy 6, 41, .inr (.inr (.inr (.inr (fun _ => none))))))] s.heap.size = A at hD hAF ⊢
  have hA : ∀ q : Nat, s.heap.size ≤ q → A q := fun q h => by rw [← hAe]; exact Or.inr h
  have hS : va_S A s.heap s.heap [] := va_S.rf
  have hl := lv_entry ([.ref a0, .int 0, .int 0, .int 0, .null]) (n := 5) (Nat.le_of_ble_eq_true rfl)
  rw [lg_entry_eq]
  generalize (lg_sl ([.ref a0, .int 0, .int 0, .int 0, .null]) ++ List.replicate (5 - (lg_sl ([.ref a0, .int 0, .int 0, .int 0, .null])).length) Slot.unset).toArray = ls at hl ⊢
  have hl : lv_has ls 5 [(0, .ref a0), (1, .int 0), (2, .int 0), (3, .int 0), (4, .null)] := hl
  have hP : va_P D vwCl [(a0, .inr (6, [.ref a5, .int 0, .ref a1, .ref a2, .ref a3, .ref a4, .int 0, .ref a6])), (a1, .inl (cy 0, 41, .inl (fun _ => 0))), (a2, .inl (cy 0, 41, .inl (fun _ => 0))), (a3, .inl (cy 0, 41, .inl (fun _ => 0))), (a4, .inl (cy 6, 41, .inr (.inr (.inr (.inr (fun _ => none))))))] s.heap := hP
  refine lv_aload_n hx hb dX4_add_0 rfl (lv_at hl 0 rfl) ?_
  refine va_get (D := D) (ci := 6) (v := .int 0) (C := RX4) (T := TX4) (N := 8) hx hb hts (fun _ h => (List.mem_append_right _ h)) hown hK hP 0 rfl rfl 6 (by decide) (hts (.fieldLink RX4 42 "PhraseDesk$Lexer" "count" "I") (List.mem_of_getElem? (i := 1) rfl)) (fun _ h9 => h9) rfl dX4_add_1 ?_
  refine lv_aload_n hx hb dX4_add_4 rfl (lv_at hl 0 rfl) ?_
  refine va_get (D := D) (ci := 6) (v := .ref a1) (C := RX4) (T := TX4) (N := 8) hx hb hts (fun _ h => (List.mem_append_right _ h)) hown hK hP 0 rfl rfl 2 (by decide) (hts (.fieldLink RX4 15 "PhraseDesk$Lexer" "kinds" "[I") (List.mem_of_getElem? (i := 2) rfl)) (fun _ h9 => h9) rfl dX4_add_5 ?_
  refine va_alen (v := 41) hx hb hK hP 1 0 rfl rfl rfl dX4_add_8 ?_
  refine lv_icmp_ge (tgt := 99) hx hb dX4_add_9 (by decide) (fun c1 => absurd c1 (by decide +kernel)) (fun _ => ?_)
  refine lv_aload_n hx hb dX4_add_12 rfl (lv_at hl 0 rfl) ?_
  refine va_get (D := D) (ci := 6) (v := .int 0) (C := RX4) (T := TX4) (N := 8) hx hb hts (fun _ h => (List.mem_append_right _ h)) hown hK hP 0 rfl rfl 6 (by decide) (hts (.fieldLink RX4 42 "PhraseDesk$Lexer" "count" "I") (List.mem_of_getElem? (i := 1) rfl)) (fun _ h9 => h9) rfl dX4_add_13 ?_
  refine lv_aload_n hx hb dX4_add_16 rfl (lv_at hl 0 rfl) ?_
  refine va_get (D := D) (ci := 6) (v := .ref a2) (C := RX4) (T := TX4) (N := 8) hx hb hts (fun _ h => (List.mem_append_right _ h)) hown hK hP 0 rfl rfl 3 (by decide) (hts (.fieldLink RX4 19 "PhraseDesk$Lexer" "places" "[I") (List.mem_of_getElem? (i := 3) rfl)) (fun _ h9 => h9) rfl dX4_add_17 ?_
  refine va_alen (v := 41) hx hb hK hP 2 0 rfl rfl rfl dX4_add_20 ?_
  refine lv_icmp_ge (tgt := 99) hx hb dX4_add_21 (by decide) (fun c2 => absurd c2 (by decide +kernel)) (fun _ => ?_)
  refine lv_aload_n hx hb dX4_add_24 rfl (lv_at hl 0 rfl) ?_
  refine va_get (D := D) (ci := 6) (v := .int 0) (C := RX4) (T := TX4) (N := 8) hx hb hts (fun _ h => (List.mem_append_right _ h)) hown hK hP 0 rfl rfl 6 (by decide) (hts (.fieldLink RX4 42 "PhraseDesk$Lexer" "count" "I") (List.mem_of_getElem? (i := 1) rfl)) (fun _ h9 => h9) rfl dX4_add_25 ?_
  refine lv_aload_n hx hb dX4_add_28 rfl (lv_at hl 0 rfl) ?_
  refine va_get (D := D) (ci := 6) (v := .ref a3) (C := RX4) (T := TX4) (N := 8) hx hb hts (fun _ h => (List.mem_append_right _ h)) hown hK hP 0 rfl rfl 4 (by decide) (hts (.fieldLink RX4 22 "PhraseDesk$Lexer" "names" "[I") (List.mem_of_getElem? (i := 4) rfl)) (fun _ h9 => h9) rfl dX4_add_29 ?_
  refine va_alen (v := 41) hx hb hK hP 3 0 rfl rfl rfl dX4_add_32 ?_
  refine lv_icmp_ge (tgt := 99) hx hb dX4_add_33 (by decide) (fun c3 => absurd c3 (by decide +kernel)) (fun _ => ?_)
  refine lv_aload_n hx hb dX4_add_36 rfl (lv_at hl 0 rfl) ?_
  refine va_get (D := D) (ci := 6) (v := .int 0) (C := RX4) (T := TX4) (N := 8) hx hb hts (fun _ h => (List.mem_append_right _ h)) hown hK hP 0 rfl rfl 6 (by decide) (hts (.fieldLink RX4 42 "PhraseDesk$Lexer" "count" "I") (List.mem_of_getElem? (i := 1) rfl)) (fun _ h9 => h9) rfl dX4_add_37 ?_
  refine lv_aload_n hx hb dX4_add_40 rfl (lv_at hl 0 rfl) ?_
  refine va_get (D := D) (ci := 6) (v := .ref a4) (C := RX4) (T := TX4) (N := 8) hx hb hts (fun _ h => (List.mem_append_right _ h)) hown hK hP 0 rfl rfl 5 (by decide) (hts (.fieldLink RX4 27 "PhraseDesk$Lexer" "literals" "[LPhraseDesk$Value;") (List.mem_of_getElem? (i := 5) rfl)) (fun _ h9 => h9) rfl dX4_add_41 ?_
  refine va_alen (v := 41) hx hb hK hP 4 6 rfl rfl rfl dX4_add_44 ?_
  refine lv_icmp_ge (tgt := 99) hx hb dX4_add_45 (by decide) (fun c4 => absurd c4 (by decide +kernel)) (fun _ => ?_)
  refine lv_aload_n hx hb dX4_add_48 rfl (lv_at hl 0 rfl) ?_
  refine va_get (D := D) (ci := 6) (v := .ref a1) (C := RX4) (T := TX4) (N := 8) hx hb hts (fun _ h => (List.mem_append_right _ h)) hown hK hP 0 rfl rfl 2 (by decide) (hts (.fieldLink RX4 15 "PhraseDesk$Lexer" "kinds" "[I") (List.mem_of_getElem? (i := 2) rfl)) (fun _ h9 => h9) rfl dX4_add_49 ?_
  refine lv_aload_n hx hb dX4_add_52 rfl (lv_at hl 0 rfl) ?_
  refine va_get (D := D) (ci := 6) (v := .int 0) (C := RX4) (T := TX4) (N := 8) hx hb hts (fun _ h => (List.mem_append_right _ h)) hown hK hP 0 rfl rfl 6 (by decide) (hts (.fieldLink RX4 42 "PhraseDesk$Lexer" "count" "I") (List.mem_of_getElem? (i := 1) rfl)) (fun _ h9 => h9) rfl dX4_add_53 ?_
  refine lv_iload_n hx hb dX4_add_56 rfl (lv_at hl 1 rfl) ?_
  refine va_iast hx hb hK hP hD hS 1 0 rfl rfl (by unfold vp_in; decide +kernel) dX4_add_57 (fun H locs hP hD hS => ?_)
  have hP : va_P D vwCl [(a0, .inr (6, [.ref a5, .int 0, .ref a1, .ref a2, .ref a3, .ref a4, .int 0, .ref a6])), (a1, .inl (cy 0, 41, .inl (upd (fun _ => 0) 0 0))), (a2, .inl (cy 0, 41, .inl (fun _ => 0))), (a3, .inl (cy 0, 41, .inl (fun _ => 0))), (a4, .inl (cy 6, 41, .inr (.inr (.inr (.inr (fun _ => none))))))] H := hP
  have hD : va_D A [(a0, .inr (6, [.ref a5, .int 0, .ref a1, .ref a2, .ref a3, .ref a4, .int 0, .ref a6])), (a1, .inl (cy 0, 41, .inl (upd (fun _ => 0) 0 0))), (a2, .inl (cy 0, 41, .inl (fun _ => 0))), (a3, .inl (cy 0, 41, .inl (fun _ => 0))), (a4, .inl (cy 6, 41, .inr (.inr (.inr (.inr (fun _ => none))))))] := hD
  refine lv_aload_n hx hb dX4_add_58 rfl (lv_at hl 0 rfl) ?_
  refine va_get (D := D) (ci := 6) (v := .ref a2) (C := RX4) (T := TX4) (N := 8) hx hb hts (fun _ h => (List.mem_append_right _ h)) hown hK hP 0 rfl rfl 3 (by decide) (hts (.fieldLink RX4 19 "PhraseDesk$Lexer" "places" "[I") (List.mem_of_getElem? (i := 3) rfl)) (fun _ h9 => h9) rfl dX4_add_59 ?_
  refine lv_aload_n hx hb dX4_add_62 rfl (lv_at hl 0 rfl) ?_
  refine va_get (D := D) (ci := 6) (v := .int 0) (C := RX4) (T := TX4) (N := 8) hx hb hts (fun _ h => (List.mem_append_right _ h)) hown hK hP 0 rfl rfl 6 (by decide) (hts (.fieldLink RX4 42 "PhraseDesk$Lexer" "count" "I") (List.mem_of_getElem? (i := 1) rfl)) (fun _ h9 => h9) rfl dX4_add_63 ?_
  refine lv_iload_n hx hb dX4_add_66 rfl (lv_at hl 2 rfl) ?_
  refine va_iast hx hb hK hP hD hS 2 0 rfl rfl (by unfold vp_in; decide +kernel) dX4_add_67 (fun H locs hP hD hS => ?_)
  have hP : va_P D vwCl [(a0, .inr (6, [.ref a5, .int 0, .ref a1, .ref a2, .ref a3, .ref a4, .int 0, .ref a6])), (a1, .inl (cy 0, 41, .inl (upd (fun _ => 0) 0 0))), (a2, .inl (cy 0, 41, .inl (upd (fun _ => 0) 0 0))), (a3, .inl (cy 0, 41, .inl (fun _ => 0))), (a4, .inl (cy 6, 41, .inr (.inr (.inr (.inr (fun _ => none))))))] H := hP
  have hD : va_D A [(a0, .inr (6, [.ref a5, .int 0, .ref a1, .ref a2, .ref a3, .ref a4, .int 0, .ref a6])), (a1, .inl (cy 0, 41, .inl (upd (fun _ => 0) 0 0))), (a2, .inl (cy 0, 41, .inl (upd (fun _ => 0) 0 0))), (a3, .inl (cy 0, 41, .inl (fun _ => 0))), (a4, .inl (cy 6, 41, .inr (.inr (.inr (.inr (fun _ => none))))))] := hD
  refine lv_aload_n hx hb dX4_add_68 rfl (lv_at hl 0 rfl) ?_
  refine va_get (D := D) (ci := 6) (v := .ref a3) (C := RX4) (T := TX4) (N := 8) hx hb hts (fun _ h => (List.mem_append_right _ h)) hown hK hP 0 rfl rfl 4 (by decide) (hts (.fieldLink RX4 22 "PhraseDesk$Lexer" "names" "[I") (List.mem_of_getElem? (i := 4) rfl)) (fun _ h9 => h9) rfl dX4_add_69 ?_
  refine lv_aload_n hx hb dX4_add_72 rfl (lv_at hl 0 rfl) ?_
  refine va_get (D := D) (ci := 6) (v := .int 0) (C := RX4) (T := TX4) (N := 8) hx hb hts (fun _ h => (List.mem_append_right _ h)) hown hK hP 0 rfl rfl 6 (by decide) (hts (.fieldLink RX4 42 "PhraseDesk$Lexer" "count" "I") (List.mem_of_getElem? (i := 1) rfl)) (fun _ h9 => h9) rfl dX4_add_73 ?_
  refine lv_iload_n hx hb dX4_add_76 rfl (lv_at hl 3 rfl) ?_
  refine va_iast hx hb hK hP hD hS 3 0 rfl rfl (by unfold vp_in; decide +kernel) dX4_add_77 (fun H locs hP hD hS => ?_)
  have hP : va_P D vwCl [(a0, .inr (6, [.ref a5, .int 0, .ref a1, .ref a2, .ref a3, .ref a4, .int 0, .ref a6])), (a1, .inl (cy 0, 41, .inl (upd (fun _ => 0) 0 0))), (a2, .inl (cy 0, 41, .inl (upd (fun _ => 0) 0 0))), (a3, .inl (cy 0, 41, .inl (upd (fun _ => 0) 0 0))), (a4, .inl (cy 6, 41, .inr (.inr (.inr (.inr (fun _ => none))))))] H := hP
  have hD : va_D A [(a0, .inr (6, [.ref a5, .int 0, .ref a1, .ref a2, .ref a3, .ref a4, .int 0, .ref a6])), (a1, .inl (cy 0, 41, .inl (upd (fun _ => 0) 0 0))), (a2, .inl (cy 0, 41, .inl (upd (fun _ => 0) 0 0))), (a3, .inl (cy 0, 41, .inl (upd (fun _ => 0) 0 0))), (a4, .inl (cy 6, 41, .inr (.inr (.inr (.inr (fun _ => none))))))] := hD
  refine lv_aload_n hx hb dX4_add_78 rfl (lv_at hl 0 rfl) ?_
  refine va_get (D := D) (ci := 6) (v := .ref a4) (C := RX4) (T := TX4) (N := 8) hx hb hts (fun _ h => (List.mem_append_right _ h)) hown hK hP 0 rfl rfl 5 (by decide) (hts (.fieldLink RX4 27 "PhraseDesk$Lexer" "literals" "[LPhraseDesk$Value;") (List.mem_of_getElem? (i := 5) rfl)) (fun _ h9 => h9) rfl dX4_add_79 ?_
  refine lv_aload_n hx hb dX4_add_82 rfl (lv_at hl 0 rfl) ?_
  refine va_get (D := D) (ci := 6) (v := .int 0) (C := RX4) (T := TX4) (N := 8) hx hb hts (fun _ h => (List.mem_append_right _ h)) hown hK hP 0 rfl rfl 6 (by decide) (hts (.fieldLink RX4 42 "PhraseDesk$Lexer" "count" "I") (List.mem_of_getElem? (i := 1) rfl)) (fun _ h9 => h9) rfl dX4_add_83 ?_
  refine lv_aloadN hx hb dX4_add_86 (lv_at hl 4 rfl) ?_
  refine va_astqN (C := "PhraseDesk$Value") hx hb hK hP hD hS 4 6 rfl rfl (by unfold vp_in; decide +kernel) dX4_add_88 (fun H locs hP hD hS => ?_)
  have hP : va_P D vwCl [(a0, .inr (6, [.ref a5, .int 0, .ref a1, .ref a2, .ref a3, .ref a4, .int 0, .ref a6])), (a1, .inl (cy 0, 41, .inl (upd (fun _ => 0) 0 0))), (a2, .inl (cy 0, 41, .inl (upd (fun _ => 0) 0 0))), (a3, .inl (cy 0, 41, .inl (upd (fun _ => 0) 0 0))), (a4, .inl (cy 6, 41, .inr (.inr (.inr (.inr (va_up (fun _ => none) 0 none))))))] H := hP
  have hD : va_D A [(a0, .inr (6, [.ref a5, .int 0, .ref a1, .ref a2, .ref a3, .ref a4, .int 0, .ref a6])), (a1, .inl (cy 0, 41, .inl (upd (fun _ => 0) 0 0))), (a2, .inl (cy 0, 41, .inl (upd (fun _ => 0) 0 0))), (a3, .inl (cy 0, 41, .inl (upd (fun _ => 0) 0 0))), (a4, .inl (cy 6, 41, .inr (.inr (.inr (.inr (va_up (fun _ => none) 0 none))))))] := hD
  refine lv_aload_n hx hb dX4_add_89 rfl (lv_at hl 0 rfl) ?_
  refine lv_dup hx hb dX4_add_90 rfl ?_
  refine va_get (D := D) (ci := 6) (v := .int 0) (C := RX4) (T := TX4) (N := 8) hx hb hts (fun _ h => (List.mem_append_right _ h)) hown hK hP 0 rfl rfl 6 (by decide) (hts (.fieldLink RX4 42 "PhraseDesk$Lexer" "count" "I") (List.mem_of_getElem? (i := 1) rfl)) (fun _ h9 => h9) rfl dX4_add_91 ?_
  refine lv_iconst (v := 1) hx hb dX4_add_94 (by decide +kernel) ?_
  refine lv_iadd hx hb dX4_add_95 ?_
  refine lv_topi (fun x5 ex5 => ?_)
  obtain rfl : x5 = 1 := ex5.trans (by decide +kernel)
  refine va_put (D := D) (ci := 6) (v := .int 1) (ty := .int) (C := RX4) (T := TX4) (N := 8) hx hb hts (fun _ h => (List.mem_append_right _ h)) tyX4 tyX4_ok nmX4 hown hK hP hD hS 0 rfl rfl 6 (by decide) (hts (.fieldLink RX4 42 "PhraseDesk$Lexer" "count" "I") (List.mem_of_getElem? (i := 1) rfl)) (fun _ h9 => h9) rfl (by decide +kernel) rfl rfl (Nat.le_of_ble_eq_true rfl) dX4_add_96 (fun H locs hP hD hS => ?_)
  have hP : va_P D vwCl [(a0, .inr (6, [.ref a5, .int 0, .ref a1, .ref a2, .ref a3, .ref a4, .int 1, .ref a6])), (a1, .inl (cy 0, 41, .inl (upd (fun _ => 0) 0 0))), (a2, .inl (cy 0, 41, .inl (upd (fun _ => 0) 0 0))), (a3, .inl (cy 0, 41, .inl (upd (fun _ => 0) 0 0))), (a4, .inl (cy 6, 41, .inr (.inr (.inr (.inr (va_up (fun _ => none) 0 none))))))] H := hP
  have hD : va_D A [(a0, .inr (6, [.ref a5, .int 0, .ref a1, .ref a2, .ref a3, .ref a4, .int 1, .ref a6])), (a1, .inl (cy 0, 41, .inl (upd (fun _ => 0) 0 0))), (a2, .inl (cy 0, 41, .inl (upd (fun _ => 0) 0 0))), (a3, .inl (cy 0, 41, .inl (upd (fun _ => 0) 0 0))), (a4, .inl (cy 6, 41, .inr (.inr (.inr (.inr (va_up (fun _ => none) 0 none))))))] := hD
  refine W.widen (k := 0) (n := 0) (Nat.le_of_ble_eq_true rfl) (Nat.le_of_ble_eq_true rfl) ?_
  have hP9 := hP.sub (ws' := [(a0, .inr (6, [.ref a5, .int 0, .ref a1, .ref a2, .ref a3, .ref a4, .int 1, .ref a6])), (a1, .inl (cy 0, 41, .inl (upd (fun _ => 0) 0 0))), (a2, .inl (cy 0, 41, .inl (upd (fun _ => 0) 0 0))), (a3, .inl (cy 0, 41, .inl (upd (fun _ => 0) 0 0))), (a4, .inl (cy 6, 41, .inr (.inr (.inr (.inr (va_up (fun _ => none) 0 none))))))]) [0, 1, 2, 3, 4] rfl
  have hD9 := hD.sub (ws' := [(a0, .inr (6, [.ref a5, .int 0, .ref a1, .ref a2, .ref a3, .ref a4, .int 1, .ref a6])), (a1, .inl (cy 0, 41, .inl (upd (fun _ => 0) 0 0))), (a2, .inl (cy 0, 41, .inl (upd (fun _ => 0) 0 0))), (a3, .inl (cy 0, 41, .inl (upd (fun _ => 0) 0 0))), (a4, .inl (cy 6, 41, .inr (.inr (.inr (.inr (va_up (fun _ => none) 0 none))))))]) [0, 1, 2, 3, 4] (by decide) rfl
  exact W.vret hx hb hr (fun t ht hW => ⟨⟨(), rfl, trivial, ⟨by rw [ht]; exact hP9, hD9⟩⟩, hS.F ht⟩) hS.2.2 dX4_add_99

def wq_X4_cut_10 : List Cond := [.code yX4_cut cX4_cut 3 (some .int), .fieldLink RX4 42 "PhraseDesk$Lexer" "count" "I", .fieldLink RX4 38 "PhraseDesk$Lexer" "length" "I", .methodLink RX4 53 yX4_add, .instanceMethod yX4_add, .selects RX4 yX4_add yX4_add, .initialized RX4, .code yX4_add cX4_add 5 none, .fieldLink RX4 15 "PhraseDesk$Lexer" "kinds" "[I", .fieldLink RX4 19 "PhraseDesk$Lexer" "places" "[I", .fieldLink RX4 22 "PhraseDesk$Lexer" "names" "[I", .fieldLink RX4 27 "PhraseDesk$Lexer" "literals" "[LPhraseDesk$Value;"]
def wq_X4_cut_1 : List Cond := wq_X4_cut_10 ++ wsX40
set_option maxHeartbeats 4000000 in
set_option maxRecDepth 100000 in
theorem C_X4_cut_1 (l : Launch) (D : va_G) (cy : Nat → ClassId) (sz0 : Nat) (sa : Nat → Nat) (a0 a1 a2 a3 a4 a5 a6 : Nat) (sz : Nat)  : Met l yX4_cut wq_X4_cut_1 ({ frames := 1, cells := 0, slots := 0, locals := 24 }) (PcW D cy sz0 sa [.ref a0] [(a0, .inr (6, [.ref a5, .int 0, .ref a1, .ref a2, .ref a3, .ref a4, .int 0, .ref a6])), (a1, .inl (cy 0, 41, .inl (fun _ => 0))), (a2, .inl (cy 0, 41, .inl (fun _ => 0))), (a3, .inl (cy 0, 41, .inl (fun _ => 0))), (a4, .inl (cy 6, 41, .inr (.inr (.inr (.inr (fun _ => none))))))] sz) (va_Qi (fun (r : Int32) (u : Unit) => r = (-1)) (fun (u : Unit) (t : State) => BW D [(a0, .inr (6, [.ref a5, .int 0, .ref a1, .ref a2, .ref a3, .ref a4, .int 1, .ref a6])), (a1, .inl (cy 0, 41, .inl (upd (fun _ => 0) 0 0))), (a2, .inl (cy 0, 41, .inl (upd (fun _ => 0) 0 0))), (a3, .inl (cy 0, 41, .inl (upd (fun _ => 0) 0 0))), (a4, .inl (cy 6, 41, .inr (.inr (.inr (.inr (va_up (fun _ => none) 0 none))))))] (va_A [(a0, .inr (6, [.ref a5, .int 0, .ref a1, .ref a2, .ref a3, .ref a4, .int 0, .ref a6])), (a1, .inl (cy 0, 41, .inl (fun _ => 0))), (a2, .inl (cy 0, 41, .inl (fun _ => 0))), (a3, .inl (cy 0, 41, .inl (fun _ => 0))), (a4, .inl (cy 6, 41, .inr (.inr (.inr (.inr (fun _ => none))))))] sz) t) (va_A [(a0, .inr (6, [.ref a5, .int 0, .ref a1, .ref a2, .ref a3, .ref a4, .int 0, .ref a6])), (a1, .inl (cy 0, 41, .inl (fun _ => 0))), (a2, .inl (cy 0, 41, .inl (fun _ => 0))), (a3, .inl (cy 0, 41, .inl (fun _ => 0))), (a4, .inl (cy 6, 41, .inr (.inr (.inr (.inr (fun _ => none))))))] sz)) 0 0 (va_A [(a0, .inr (6, [.ref a5, .int 0, .ref a1, .ref a2, .ref a3, .ref a4, .int 0, .ref a6])), (a1, .inl (cy 0, 41, .inl (fun _ => 0))), (a2, .inl (cy 0, 41, .inl (fun _ => 0))), (a3, .inl (cy 0, 41, .inl (fun _ => 0))), (a4, .inl (cy 6, 41, .inr (.inr (.inr (.inr (fun _ => none))))))] sz) := by
  refine Met.ofW (cc := cX4_cut) (maxL := 3) (ret := (some .int)) (by decide) rfl ?_
  intro p e s m args below meth c s₁ B hml hv
  obtain ⟨rfl, hsz, hP, hD0, hE⟩ := hv
  have hx := B.exec
  have hb := B.bytes
  have hr := B.returns
  have hts := atoms_spec (ws := wq_X4_cut_1) B.pre
  have hown : s.vm.findClass RX4 = some m.cls := findClass_of_methodNamed B.named
  have hlocks := B.notSynchronized
  subst hsz
  have hK := hE.1
  have hAm := hE.2.2.1
  have hWm := hE.2.2.2
  have hAO := hWm.2.2.2.1
  have hD := hD0.self (sz := s.heap.size)
  have hAF := frA hD0 hE.2.1
  generalize hAe : va_A [(a0, .inr (6, [.ref a5, .int 0, .ref a1, .ref a2, .ref a3, .ref a4, .int 0, .ref a6])), (a1, .inl (cy 0, 41, .inl (fun _ => 0))), (a2, .inl (cy 0, 41, .inl (fun _ => 0))), (a3, .inl (cy 0, 41, .inl (fun _ => 0))), (a4, .inl (cy 6, 41, .inr (.inr (.inr (.inr (fun _ => none))))))] s.heap.size = A at hD hAF ⊢
  have hA : ∀ q : Nat, s.heap.size ≤ q → A q := fun q h => by rw [← hAe]; exact Or.inr h
  have hS : va_S A s.heap s.heap [] := va_S.rf
  have hl := lv_entry ([.ref a0]) (n := 3) (Nat.le_of_ble_eq_true rfl)
  rw [lg_entry_eq]
  generalize (lg_sl ([.ref a0]) ++ List.replicate (3 - (lg_sl ([.ref a0])).length) Slot.unset).toArray = ls at hl ⊢
  have hl : lv_has ls 3 [(0, .ref a0)] := hl
  have hP : va_P D vwCl [(a0, .inr (6, [.ref a5, .int 0, .ref a1, .ref a2, .ref a3, .ref a4, .int 0, .ref a6])), (a1, .inl (cy 0, 41, .inl (fun _ => 0))), (a2, .inl (cy 0, 41, .inl (fun _ => 0))), (a3, .inl (cy 0, 41, .inl (fun _ => 0))), (a4, .inl (cy 6, 41, .inr (.inr (.inr (.inr (fun _ => none))))))] s.heap := hP
  refine lv_aload_n hx hb dX4_cut_0 rfl (lv_at hl 0 rfl) ?_
  refine lv_iconst (v := 0) hx hb dX4_cut_1 (by decide +kernel) ?_
  refine va_put (D := D) (ci := 6) (v := .int 0) (ty := .int) (C := RX4) (T := TX4) (N := 8) hx hb hts (fun _ h => (List.mem_append_right _ h)) tyX4 tyX4_ok nmX4 hown hK hP hD hS 0 rfl rfl 6 (by decide) (hts (.fieldLink RX4 42 "PhraseDesk$Lexer" "count" "I") (List.mem_of_getElem? (i := 1) rfl)) (fun _ h9 => h9) rfl (by decide +kernel) rfl rfl (Nat.le_of_ble_eq_true rfl) dX4_cut_2 (fun H locs hP hD hS => ?_)
  have hP : va_P D vwCl [(a0, .inr (6, [.ref a5, .int 0, .ref a1, .ref a2, .ref a3, .ref a4, .int 0, .ref a6])), (a1, .inl (cy 0, 41, .inl (fun _ => 0))), (a2, .inl (cy 0, 41, .inl (fun _ => 0))), (a3, .inl (cy 0, 41, .inl (fun _ => 0))), (a4, .inl (cy 6, 41, .inr (.inr (.inr (.inr (fun _ => none))))))] H := hP
  have hD : va_D A [(a0, .inr (6, [.ref a5, .int 0, .ref a1, .ref a2, .ref a3, .ref a4, .int 0, .ref a6])), (a1, .inl (cy 0, 41, .inl (fun _ => 0))), (a2, .inl (cy 0, 41, .inl (fun _ => 0))), (a3, .inl (cy 0, 41, .inl (fun _ => 0))), (a4, .inl (cy 6, 41, .inr (.inr (.inr (.inr (fun _ => none))))))] := hD
  refine lv_iconst (v := 0) hx hb dX4_cut_5 (by decide +kernel) ?_
  refine lv_istore_n (lv' := [(1, .int 0), (0, .ref a0)]) hx hb dX4_cut_6 rfl hl (by decide) rfl (fun ls hl => ?_)
  refine lv_iload_n hx hb dX4_cut_7 rfl (lv_at hl 0 rfl) ?_
  refine lv_aload_n hx hb dX4_cut_8 rfl (lv_at hl 1 rfl) ?_
  refine va_get (D := D) (ci := 6) (v := .int 0) (C := RX4) (T := TX4) (N := 8) hx hb hts (fun _ h => (List.mem_append_right _ h)) hown hK hP 0 rfl rfl 1 (by decide) (hts (.fieldLink RX4 38 "PhraseDesk$Lexer" "length" "I") (List.mem_of_getElem? (i := 2) rfl)) (fun _ h9 => h9) rfl dX4_cut_9 ?_
  refine lv_icmp_ge (tgt := 49) hx hb dX4_cut_12 (by decide) (fun _ => ?_) (fun c1 => absurd (by decide +kernel) c1)
  refine lv_aload_n hx hb dX4_cut_49 rfl (lv_at hl 1 rfl) ?_
  refine lv_iconst (v := 0) hx hb dX4_cut_50 (by decide +kernel) ?_
  refine lv_aload_n hx hb dX4_cut_51 rfl (lv_at hl 1 rfl) ?_
  refine va_get (D := D) (ci := 6) (v := .int 0) (C := RX4) (T := TX4) (N := 8) hx hb hts (fun _ h => (List.mem_append_right _ h)) hown hK hP 0 rfl rfl 1 (by decide) (hts (.fieldLink RX4 38 "PhraseDesk$Lexer" "length" "I") (List.mem_of_getElem? (i := 2) rfl)) (fun _ h9 => h9) rfl dX4_cut_52 ?_
  refine lv_iconst (v := 0) hx hb dX4_cut_55 (by decide +kernel) ?_
  refine lv_null hx hb dX4_cut_56 ?_
  have hPc := hP.sub (ws' := [(a0, .inr (6, [.ref a5, .int 0, .ref a1, .ref a2, .ref a3, .ref a4, .int 0, .ref a6])), (a1, .inl (cy 0, 41, .inl (fun _ => 0))), (a2, .inl (cy 0, 41, .inl (fun _ => 0))), (a3, .inl (cy 0, 41, .inl (fun _ => 0))), (a4, .inl (cy 6, 41, .inr (.inr (.inr (.inr (fun _ => none))))))]) [0, 1, 2, 3, 4] rfl
  have hDc := hD.sub (ws' := [(a0, .inr (6, [.ref a5, .int 0, .ref a1, .ref a2, .ref a3, .ref a4, .int 0, .ref a6])), (a1, .inl (cy 0, 41, .inl (fun _ => 0))), (a2, .inl (cy 0, 41, .inl (fun _ => 0))), (a3, .inl (cy 0, 41, .inl (fun _ => 0))), (a4, .inl (cy 6, 41, .inr (.inr (.inr (.inr (fun _ => none))))))]) [0, 1, 2, 3, 4] (by decide) rfl
  have hFc := va_free (wc := [(a0, .inr (6, [.ref a5, .int 0, .ref a1, .ref a2, .ref a3, .ref a4, .int 0, .ref a6])), (a1, .inl (cy 0, 41, .inl (fun _ => 0))), (a2, .inl (cy 0, 41, .inl (fun _ => 0))), (a3, .inl (cy 0, 41, .inl (fun _ => 0))), (a4, .inl (cy 6, 41, .inr (.inr (.inr (.inr (fun _ => none))))))]) hD hS hA [0, 1, 2, 3, 4] rfl
  refine va_callv (va_runV (As := [.int 0, .int 0, .int 0, .null]) (rest := []) ⟨hx, hb, hml, hown, hts⟩ (C_X4_add_1 l D cy sz0 sa a0 a1 a2 a3 a4 a5 a6 H.size) (cwV 4 hts (goodIn_app (goodIn_r _ [3, 4, 5, 6] rfl (by decide +kernel)) (goodIn_app (goodIn_r wq_X4_add_10 [7, 1, 8, 9, 10, 11] rfl (by decide +kernel)) (goodIn_sub (fun _ h => (List.mem_append_right _ h)) (by decide +kernel)))) rfl rfl rfl (by decide +kernel) ⟨Nat.le_of_ble_eq_true rfl, Nat.le_of_ble_eq_true rfl⟩) ⟨PcW.blind, va_recv hK hPc (ci := 6) (q0 := 0) rfl rfl, PcW.mk hE hS hAF hPc hDc⟩ rfl rfl hl.1 rfl (lv_room (Nat.le_of_ble_eq_true rfl)) dX4_cut_57 ⟨Nat.le_of_ble_eq_true rfl, Nat.le_of_ble_eq_true rfl⟩) hS (fun q _ h => hFc q h) hFc (fun u t H1 locs ht hvm hw hB hz1 hk1 hS => ?_)
  obtain ⟨hP1, hD1⟩ := hB
  rw [ht] at hP1
  have hP1 : va_P D vwCl [(a0, .inr (6, [.ref a5, .int 0, .ref a1, .ref a2, .ref a3, .ref a4, .int 1, .ref a6])), (a1, .inl (cy 0, 41, .inl (upd (fun _ => 0) 0 0))), (a2, .inl (cy 0, 41, .inl (upd (fun _ => 0) 0 0))), (a3, .inl (cy 0, 41, .inl (upd (fun _ => 0) 0 0))), (a4, .inl (cy 6, 41, .inr (.inr (.inr (.inr (va_up (fun _ => none) 0 none))))))] H1 := hP1
  obtain ⟨hP, hD⟩ := va_join (wr := []) (w1 := [(a0, .inr (6, [.ref a5, .int 0, .ref a1, .ref a2, .ref a3, .ref a4, .int 1, .ref a6])), (a1, .inl (cy 0, 41, .inl (upd (fun _ => 0) 0 0))), (a2, .inl (cy 0, 41, .inl (upd (fun _ => 0) 0 0))), (a3, .inl (cy 0, 41, .inl (upd (fun _ => 0) 0 0))), (a4, .inl (cy 6, 41, .inr (.inr (.inr (.inr (va_up (fun _ => none) 0 none))))))]) hP hD [0, 1, 2, 3, 4] [] rfl rfl (by decide) (by decide) hk1 hFc hP1 hD1
  clear hP1 hD1 hPc hDc hFc hk1 hz1
  generalize H1 = H at hP hS ⊢
  have hP : va_P D vwCl [(a0, .inr (6, [.ref a5, .int 0, .ref a1, .ref a2, .ref a3, .ref a4, .int 1, .ref a6])), (a1, .inl (cy 0, 41, .inl (upd (fun _ => 0) 0 0))), (a2, .inl (cy 0, 41, .inl (upd (fun _ => 0) 0 0))), (a3, .inl (cy 0, 41, .inl (upd (fun _ => 0) 0 0))), (a4, .inl (cy 6, 41, .inr (.inr (.inr (.inr (va_up (fun _ => none) 0 none))))))] H := hP
  have hD : va_D A [(a0, .inr (6, [.ref a5, .int 0, .ref a1, .ref a2, .ref a3, .ref a4, .int 1, .ref a6])), (a1, .inl (cy 0, 41, .inl (upd (fun _ => 0) 0 0))), (a2, .inl (cy 0, 41, .inl (upd (fun _ => 0) 0 0))), (a3, .inl (cy 0, 41, .inl (upd (fun _ => 0) 0 0))), (a4, .inl (cy 6, 41, .inr (.inr (.inr (.inr (va_up (fun _ => none) 0 none))))))] := hD
  refine W.widen (k := 0) (n := 0) (Nat.le_of_ble_eq_true rfl) (Nat.le_of_ble_eq_true rfl) ?_
  refine lv_iconst (v := (-1)) hx hb dX4_cut_60 (by decide +kernel) ?_
  refine W.widen (k := 0) (n := 0) (Nat.le_of_ble_eq_true rfl) (Nat.le_of_ble_eq_true rfl) ?_
  have hP9 := hP.sub (ws' := [(a0, .inr (6, [.ref a5, .int 0, .ref a1, .ref a2, .ref a3, .ref a4, .int 1, .ref a6])), (a1, .inl (cy 0, 41, .inl (upd (fun _ => 0) 0 0))), (a2, .inl (cy 0, 41, .inl (upd (fun _ => 0) 0 0))), (a3, .inl (cy 0, 41, .inl (upd (fun _ => 0) 0 0))), (a4, .inl (cy 6, 41, .inr (.inr (.inr (.inr (va_up (fun _ => none) 0 none))))))]) [0, 1, 2, 3, 4] rfl
  have hD9 := hD.sub (ws' := [(a0, .inr (6, [.ref a5, .int 0, .ref a1, .ref a2, .ref a3, .ref a4, .int 1, .ref a6])), (a1, .inl (cy 0, 41, .inl (upd (fun _ => 0) 0 0))), (a2, .inl (cy 0, 41, .inl (upd (fun _ => 0) 0 0))), (a3, .inl (cy 0, 41, .inl (upd (fun _ => 0) 0 0))), (a4, .inl (cy 6, 41, .inr (.inr (.inr (.inr (va_up (fun _ => none) 0 none))))))]) [0, 1, 2, 3, 4] (by decide) rfl
  exact W.iret (v := (-1)) hx hb hr (fun t ht hW => ⟨⟨(-1), (), rfl, rfl, ⟨by rw [ht]; exact hP9, hD9⟩⟩, hS.F ht⟩) hS.2.2 dX4_cut_61

def wq_X4_kindAt_10 : List Cond := [.code yX4_kindAt cX4_kindAt 2 (some .int), .fieldLink RX4 42 "PhraseDesk$Lexer" "count" "I", .fieldLink RX4 15 "PhraseDesk$Lexer" "kinds" "[I"]
def wq_X4_kindAt_1 : List Cond := wq_X4_kindAt_10 ++ wsX40
set_option maxHeartbeats 4000000 in
set_option maxRecDepth 100000 in
theorem C_X4_kindAt_1 (l : Launch) (D : va_G) (cy : Nat → ClassId) (sz0 : Nat) (sa : Nat → Nat) (a0 a1 a2 a3 a4 a5 a6 : Nat) (sz : Nat)  : Met l yX4_kindAt wq_X4_kindAt_1 ({ frames := 0, cells := 0, slots := 0, locals := 0 }) (PcW D cy sz0 sa [.ref a0, .int 0] [(a0, .inr (6, [.ref a2, .int 0, .ref a1, .ref a3, .ref a4, .ref a5, .int 1, .ref a6])), (a1, .inl (cy 0, 41, .inl (upd (fun _ => 0) 0 0)))] sz) (va_Qi (fun (r : Int32) (u : Unit) => r = 0) (fun (u : Unit) (t : State) => BW D [(a0, .inr (6, [.ref a2, .int 0, .ref a1, .ref a3, .ref a4, .ref a5, .int 1, .ref a6])), (a1, .inl (cy 0, 41, .inl (upd (fun _ => 0) 0 0)))] (va_A [(a0, .inr (6, [.ref a2, .int 0, .ref a1, .ref a3, .ref a4, .ref a5, .int 1, .ref a6])), (a1, .inl (cy 0, 41, .inl (upd (fun _ => 0) 0 0)))] sz) t) (va_A [(a0, .inr (6, [.ref a2, .int 0, .ref a1, .ref a3, .ref a4, .ref a5, .int 1, .ref a6])), (a1, .inl (cy 0, 41, .inl (upd (fun _ => 0) 0 0)))] sz)) 0 0 (va_A [(a0, .inr (6, [.ref a2, .int 0, .ref a1, .ref a3, .ref a4, .ref a5, .int 1, .ref a6])), (a1, .inl (cy 0, 41, .inl (upd (fun _ => 0) 0 0)))] sz) := by
  refine Met.ofW (cc := cX4_kindAt) (maxL := 2) (ret := (some .int)) (by decide) rfl ?_
  intro p e s m args below meth c s₁ B hml hv
  obtain ⟨rfl, hsz, hP, hD0, hE⟩ := hv
  have hx := B.exec
  have hb := B.bytes
  have hr := B.returns
  have hts := atoms_spec (ws := wq_X4_kindAt_1) B.pre
  have hown : s.vm.findClass RX4 = some m.cls := findClass_of_methodNamed B.named
  have hlocks := B.notSynchronized
  subst hsz
  have hK := hE.1
  have hAm := hE.2.2.1
  have hWm := hE.2.2.2
  have hAO := hWm.2.2.2.1
  have hD := hD0.self (sz := s.heap.size)
  have hAF := frA hD0 hE.2.1
  generalize hAe : va_A [(a0, .inr (6, [.ref a2, .int 0, .ref a1, .ref a3, .ref a4, .ref a5, .int 1, .ref a6])), (a1, .inl (cy 0, 41, .inl (upd (fun _ => 0) 0 0)))] s.heap.size = A at hD hAF ⊢
  have hA : ∀ q : Nat, s.heap.size ≤ q → A q := fun q h => by rw [← hAe]; exact Or.inr h
  have hS : va_S A s.heap s.heap [] := va_S.rf
  have hl := lv_entry ([.ref a0, .int 0]) (n := 2) (Nat.le_of_ble_eq_true rfl)
  rw [lg_entry_eq]
  generalize (lg_sl ([.ref a0, .int 0]) ++ List.replicate (2 - (lg_sl ([.ref a0, .int 0])).length) Slot.unset).toArray = ls at hl ⊢
  have hl : lv_has ls 2 [(0, .ref a0), (1, .int 0)] := hl
  have hP : va_P D vwCl [(a0, .inr (6, [.ref a2, .int 0, .ref a1, .ref a3, .ref a4, .ref a5, .int 1, .ref a6])), (a1, .inl (cy 0, 41, .inl (upd (fun _ => 0) 0 0)))] s.heap := hP
  refine lv_iload_n hx hb dX4_kindAt_0 rfl (lv_at hl 1 rfl) ?_
  refine lv_if_lt (tgt := 30) hx hb dX4_kindAt_1 (by decide) (fun c1 => absurd c1 (by decide +kernel)) (fun _ => ?_)
  refine lv_iload_n hx hb dX4_kindAt_4 rfl (lv_at hl 1 rfl) ?_
  refine lv_aload_n hx hb dX4_kindAt_5 rfl (lv_at hl 0 rfl) ?_
  refine va_get (D := D) (ci := 6) (v := .int 1) (C := RX4) (T := TX4) (N := 8) hx hb hts (fun _ h => (List.mem_append_right _ h)) hown hK hP 0 rfl rfl 6 (by decide) (hts (.fieldLink RX4 42 "PhraseDesk$Lexer" "count" "I") (List.mem_of_getElem? (i := 1) rfl)) (fun _ h9 => h9) rfl dX4_kindAt_6 ?_
  refine lv_icmp_ge (tgt := 30) hx hb dX4_kindAt_9 (by decide) (fun c2 => absurd c2 (by decide +kernel)) (fun _ => ?_)
  refine lv_iload_n hx hb dX4_kindAt_12 rfl (lv_at hl 1 rfl) ?_
  refine lv_aload_n hx hb dX4_kindAt_13 rfl (lv_at hl 0 rfl) ?_
  refine va_get (D := D) (ci := 6) (v := .ref a1) (C := RX4) (T := TX4) (N := 8) hx hb hts (fun _ h => (List.mem_append_right _ h)) hown hK hP 0 rfl rfl 2 (by decide) (hts (.fieldLink RX4 15 "PhraseDesk$Lexer" "kinds" "[I") (List.mem_of_getElem? (i := 2) rfl)) (fun _ h9 => h9) rfl dX4_kindAt_14 ?_
  refine va_alen (v := 41) hx hb hK hP 1 0 rfl rfl rfl dX4_kindAt_17 ?_
  refine lv_icmp_ge (tgt := 30) hx hb dX4_kindAt_18 (by decide) (fun c3 => absurd c3 (by decide +kernel)) (fun _ => ?_)
  refine lv_aload_n hx hb dX4_kindAt_21 rfl (lv_at hl 0 rfl) ?_
  refine va_get (D := D) (ci := 6) (v := .ref a1) (C := RX4) (T := TX4) (N := 8) hx hb hts (fun _ h => (List.mem_append_right _ h)) hown hK hP 0 rfl rfl 2 (by decide) (hts (.fieldLink RX4 15 "PhraseDesk$Lexer" "kinds" "[I") (List.mem_of_getElem? (i := 2) rfl)) (fun _ h9 => h9) rfl dX4_kindAt_22 ?_
  refine lv_iload_n hx hb dX4_kindAt_25 rfl (lv_at hl 1 rfl) ?_
  refine va_iald hx hb hK hP 1 0 rfl rfl (by unfold vp_in; decide +kernel) dX4_kindAt_26 ?_
  refine lv_topi (fun x4 ex4 => ?_)
  obtain rfl : x4 = 0 := ex4.trans (by decide +kernel)
  refine lv_goto (tgt := 31) hx hb dX4_kindAt_27 (by decide) ?_
  refine W.widen (k := 0) (n := 0) (Nat.le_of_ble_eq_true rfl) (Nat.le_of_ble_eq_true rfl) ?_
  have hP9 := hP.sub (ws' := [(a0, .inr (6, [.ref a2, .int 0, .ref a1, .ref a3, .ref a4, .ref a5, .int 1, .ref a6])), (a1, .inl (cy 0, 41, .inl (upd (fun _ => 0) 0 0)))]) [0, 1] rfl
  have hD9 := hD.sub (ws' := [(a0, .inr (6, [.ref a2, .int 0, .ref a1, .ref a3, .ref a4, .ref a5, .int 1, .ref a6])), (a1, .inl (cy 0, 41, .inl (upd (fun _ => 0) 0 0)))]) [0, 1] (by decide) rfl
  exact W.iret (v := 0) hx hb hr (fun t ht hW => ⟨⟨0, (), rfl, rfl, ⟨by rw [ht]; exact hP9, hD9⟩⟩, hS.F ht⟩) hS.2.2 dX4_kindAt_31

def wq_X6_kind_10 : List Cond := [.code yX6_kind cX6_kind 1 (some .int), .fieldLink RX6 12 "PhraseDesk$Parser" "lexer" "LPhraseDesk$Lexer;", .fieldLink RX6 18 "PhraseDesk$Parser" "at" "I", .methodLink RX6 136 yX4_kindAt, .instanceMethod yX4_kindAt, .selects RX4 yX4_kindAt yX4_kindAt, .initialized RX4, .code yX4_kindAt cX4_kindAt 2 (some .int), .fieldLink RX4 42 "PhraseDesk$Lexer" "count" "I", .fieldLink RX4 15 "PhraseDesk$Lexer" "kinds" "[I"]
def wq_X6_kind_1 : List Cond := wq_X6_kind_10 ++ wsX60 ++ wsX40
set_option maxHeartbeats 4000000 in
set_option maxRecDepth 100000 in
theorem C_X6_kind_1 (l : Launch) (D : va_G) (cy : Nat → ClassId) (sz0 : Nat) (sa : Nat → Nat) (a0 a1 a2 a3 a4 a5 a6 a7 : Nat) (sz : Nat)  : Met l yX6_kind wq_X6_kind_1 ({ frames := 1, cells := 0, slots := 0, locals := 21 }) (PcW D cy sz0 sa [.ref a0] [(a0, .inr (8, [.ref a1, .int 0, .int 0, .int (-1)])), (a1, .inr (6, [.ref a3, .int 0, .ref a2, .ref a4, .ref a5, .ref a6, .int 1, .ref a7])), (a2, .inl (cy 0, 41, .inl (upd (fun _ => 0) 0 0)))] sz) (va_Qi (fun (r : Int32) (u : Unit) => r = 0) (fun (u : Unit) (t : State) => BW D [(a0, .inr (8, [.ref a1, .int 0, .int 0, .int (-1)])), (a1, .inr (6, [.ref a3, .int 0, .ref a2, .ref a4, .ref a5, .ref a6, .int 1, .ref a7])), (a2, .inl (cy 0, 41, .inl (upd (fun _ => 0) 0 0)))] (va_A [(a0, .inr (8, [.ref a1, .int 0, .int 0, .int (-1)])), (a1, .inr (6, [.ref a3, .int 0, .ref a2, .ref a4, .ref a5, .ref a6, .int 1, .ref a7])), (a2, .inl (cy 0, 41, .inl (upd (fun _ => 0) 0 0)))] sz) t) (va_A [(a0, .inr (8, [.ref a1, .int 0, .int 0, .int (-1)])), (a1, .inr (6, [.ref a3, .int 0, .ref a2, .ref a4, .ref a5, .ref a6, .int 1, .ref a7])), (a2, .inl (cy 0, 41, .inl (upd (fun _ => 0) 0 0)))] sz)) 0 0 (va_A [(a0, .inr (8, [.ref a1, .int 0, .int 0, .int (-1)])), (a1, .inr (6, [.ref a3, .int 0, .ref a2, .ref a4, .ref a5, .ref a6, .int 1, .ref a7])), (a2, .inl (cy 0, 41, .inl (upd (fun _ => 0) 0 0)))] sz) := by
  refine Met.ofW (cc := cX6_kind) (maxL := 1) (ret := (some .int)) (by decide) rfl ?_
  intro p e s m args below meth c s₁ B hml hv
  obtain ⟨rfl, hsz, hP, hD0, hE⟩ := hv
  have hx := B.exec
  have hb := B.bytes
  have hr := B.returns
  have hts := atoms_spec (ws := wq_X6_kind_1) B.pre
  have hown : s.vm.findClass RX6 = some m.cls := findClass_of_methodNamed B.named
  have hlocks := B.notSynchronized
  subst hsz
  have hK := hE.1
  have hAm := hE.2.2.1
  have hWm := hE.2.2.2
  have hAO := hWm.2.2.2.1
  have hD := hD0.self (sz := s.heap.size)
  have hAF := frA hD0 hE.2.1
  generalize hAe : va_A [(a0, .inr (8, [.ref a1, .int 0, .int 0, .int (-1)])), (a1, .inr (6, [.ref a3, .int 0, .ref a2, .ref a4, .ref a5, .ref a6, .int 1, .ref a7])), (a2, .inl (cy 0, 41, .inl (upd (fun _ => 0) 0 0)))] s.heap.size = A at hD hAF ⊢
  have hA : ∀ q : Nat, s.heap.size ≤ q → A q := fun q h => by rw [← hAe]; exact Or.inr h
  have hS : va_S A s.heap s.heap [] := va_S.rf
  have hl := lv_entry ([.ref a0]) (n := 1) (Nat.le_of_ble_eq_true rfl)
  rw [lg_entry_eq]
  generalize (lg_sl ([.ref a0]) ++ List.replicate (1 - (lg_sl ([.ref a0])).length) Slot.unset).toArray = ls at hl ⊢
  have hl : lv_has ls 1 [(0, .ref a0)] := hl
  have hP : va_P D vwCl [(a0, .inr (8, [.ref a1, .int 0, .int 0, .int (-1)])), (a1, .inr (6, [.ref a3, .int 0, .ref a2, .ref a4, .ref a5, .ref a6, .int 1, .ref a7])), (a2, .inl (cy 0, 41, .inl (upd (fun _ => 0) 0 0)))] s.heap := hP
  refine lv_aload_n hx hb dX6_kind_0 rfl (lv_at hl 0 rfl) ?_
  refine va_get (D := D) (ci := 8) (v := .ref a1) (C := RX6) (T := TX6) (N := 4) hx hb hts (fun _ h => (List.mem_append_left _ (List.mem_append_right _ h))) hown hK hP 0 rfl rfl 0 (by decide) (hts (.fieldLink RX6 12 "PhraseDesk$Parser" "lexer" "LPhraseDesk$Lexer;") (List.mem_of_getElem? (i := 1) rfl)) (fun _ h9 => h9) rfl dX6_kind_1 ?_
  refine lv_aload_n hx hb dX6_kind_4 rfl (lv_at hl 0 rfl) ?_
  refine va_get (D := D) (ci := 8) (v := .int 0) (C := RX6) (T := TX6) (N := 4) hx hb hts (fun _ h => (List.mem_append_left _ (List.mem_append_right _ h))) hown hK hP 0 rfl rfl 1 (by decide) (hts (.fieldLink RX6 18 "PhraseDesk$Parser" "at" "I") (List.mem_of_getElem? (i := 2) rfl)) (fun _ h9 => h9) rfl dX6_kind_5 ?_
  have hPc := hP.sub (ws' := [(a1, .inr (6, [.ref a3, .int 0, .ref a2, .ref a4, .ref a5, .ref a6, .int 1, .ref a7])), (a2, .inl (cy 0, 41, .inl (upd (fun _ => 0) 0 0)))]) [1, 2] rfl
  have hDc := hD.sub (ws' := [(a1, .inr (6, [.ref a3, .int 0, .ref a2, .ref a4, .ref a5, .ref a6, .int 1, .ref a7])), (a2, .inl (cy 0, 41, .inl (upd (fun _ => 0) 0 0)))]) [1, 2] (by decide) rfl
  have hFc := va_free (wc := [(a1, .inr (6, [.ref a3, .int 0, .ref a2, .ref a4, .ref a5, .ref a6, .int 1, .ref a7])), (a2, .inl (cy 0, 41, .inl (upd (fun _ => 0) 0 0)))]) hD hS hA [1, 2] rfl
  refine va_calli (va_runV (As := [.int 0]) (rest := []) ⟨hx, hb, hml, hown, hts⟩ (C_X4_kindAt_1 l D cy sz0 sa a1 a2 a3 a4 a5 a6 a7 s.heap.size) (cwV 1 hts (goodIn_app (goodIn_r _ [3, 4, 5, 6] rfl (by decide +kernel)) (goodIn_app (goodIn_r wq_X4_kindAt_10 [7, 8, 9] rfl (by decide +kernel)) (goodIn_sub (fun _ h => (List.mem_append_right _ h)) (by decide +kernel)))) rfl rfl rfl (by decide +kernel) ⟨Nat.le_of_ble_eq_true rfl, Nat.le_of_ble_eq_true rfl⟩) ⟨PcW.blind, va_recv hK hPc (ci := 6) (q0 := 0) rfl rfl, PcW.mk hE hS hAF hPc hDc⟩ rfl rfl hl.1 rfl (lv_room (Nat.le_of_ble_eq_true rfl)) dX6_kind_8 ⟨Nat.le_of_ble_eq_true rfl, Nat.le_of_ble_eq_true rfl⟩) hS (fun q _ h => hFc q h) hFc (fun r_1 u t H1 locs ht hvm hw hB hz1 hk1 hS => ?_)
  obtain ⟨hP1, hD1⟩ := hB
  rw [ht] at hP1
  have hP1 : va_P D vwCl [(a1, .inr (6, [.ref a3, .int 0, .ref a2, .ref a4, .ref a5, .ref a6, .int 1, .ref a7])), (a2, .inl (cy 0, 41, .inl (upd (fun _ => 0) 0 0)))] H1 := hP1
  obtain ⟨hP, hD⟩ := va_join (wr := [(a0, .inr (8, [.ref a1, .int 0, .int 0, .int (-1)]))]) (w1 := [(a1, .inr (6, [.ref a3, .int 0, .ref a2, .ref a4, .ref a5, .ref a6, .int 1, .ref a7])), (a2, .inl (cy 0, 41, .inl (upd (fun _ => 0) 0 0)))]) hP hD [1, 2] [0] rfl rfl (by decide) (by decide) hk1 hFc hP1 hD1
  clear hP1 hD1 hPc hDc hFc hk1 hz1
  generalize H1 = H at hP hS ⊢
  have hP : va_P D vwCl [(a0, .inr (8, [.ref a1, .int 0, .int 0, .int (-1)])), (a1, .inr (6, [.ref a3, .int 0, .ref a2, .ref a4, .ref a5, .ref a6, .int 1, .ref a7])), (a2, .inl (cy 0, 41, .inl (upd (fun _ => 0) 0 0)))] H := hP
  have hD : va_D A [(a0, .inr (8, [.ref a1, .int 0, .int 0, .int (-1)])), (a1, .inr (6, [.ref a3, .int 0, .ref a2, .ref a4, .ref a5, .ref a6, .int 1, .ref a7])), (a2, .inl (cy 0, 41, .inl (upd (fun _ => 0) 0 0)))] := hD
  refine W.widen (k := 0) (n := 0) (Nat.le_of_ble_eq_true rfl) (Nat.le_of_ble_eq_true rfl) ?_
  obtain rfl : r_1 = 0 := hw
  refine W.widen (k := 0) (n := 0) (Nat.le_of_ble_eq_true rfl) (Nat.le_of_ble_eq_true rfl) ?_
  have hP9 := hP.sub (ws' := [(a0, .inr (8, [.ref a1, .int 0, .int 0, .int (-1)])), (a1, .inr (6, [.ref a3, .int 0, .ref a2, .ref a4, .ref a5, .ref a6, .int 1, .ref a7])), (a2, .inl (cy 0, 41, .inl (upd (fun _ => 0) 0 0)))]) [0, 1, 2] rfl
  have hD9 := hD.sub (ws' := [(a0, .inr (8, [.ref a1, .int 0, .int 0, .int (-1)])), (a1, .inr (6, [.ref a3, .int 0, .ref a2, .ref a4, .ref a5, .ref a6, .int 1, .ref a7])), (a2, .inl (cy 0, 41, .inl (upd (fun _ => 0) 0 0)))]) [0, 1, 2] (by decide) rfl
  exact W.iret (v := 0) hx hb hr (fun t ht hW => ⟨⟨0, (), rfl, rfl, ⟨by rw [ht]; exact hP9, hD9⟩⟩, hS.F ht⟩) hS.2.2 dX6_kind_11

def wq_X6_takes_10 : List Cond := [.code yX6_takes cX6_takes 2 (some .boolean), .methodLink RX6 43 yX6_kind, .instanceMethod yX6_kind, .selects RX6 yX6_kind yX6_kind, .initialized RX6, .code yX6_kind cX6_kind 1 (some .int), .fieldLink RX6 12 "PhraseDesk$Parser" "lexer" "LPhraseDesk$Lexer;", .fieldLink RX6 18 "PhraseDesk$Parser" "at" "I", .methodLink RX6 136 yX4_kindAt, .instanceMethod yX4_kindAt, .selects RX4 yX4_kindAt yX4_kindAt, .initialized RX4, .code yX4_kindAt cX4_kindAt 2 (some .int), .fieldLink RX4 42 "PhraseDesk$Lexer" "count" "I", .fieldLink RX4 15 "PhraseDesk$Lexer" "kinds" "[I"]
def wq_X6_takes_1 : List Cond := wq_X6_takes_10 ++ wsX60 ++ wsX40
set_option maxHeartbeats 4000000 in
set_option maxRecDepth 100000 in
theorem C_X6_takes_1 (l : Launch) (D : va_G) (cy : Nat → ClassId) (sz0 : Nat) (sa : Nat → Nat) (a0 a1 a2 a3 a4 a5 a6 a7 : Nat) (sz : Nat)  : Met l yX6_takes wq_X6_takes_1 ({ frames := 2, cells := 0, slots := 0, locals := 41 }) (PcW D cy sz0 sa [.ref a0, .int 45] [(a0, .inr (8, [.ref a1, .int 0, .int 0, .int (-1)])), (a1, .inr (6, [.ref a3, .int 0, .ref a2, .ref a4, .ref a5, .ref a6, .int 1, .ref a7])), (a2, .inl (cy 0, 41, .inl (upd (fun _ => 0) 0 0)))] sz) (va_Qi (fun (r : Int32) (u : Unit) => r = 0) (fun (u : Unit) (t : State) => BW D [(a0, .inr (8, [.ref a1, .int 0, .int 0, .int (-1)])), (a1, .inr (6, [.ref a3, .int 0, .ref a2, .ref a4, .ref a5, .ref a6, .int 1, .ref a7])), (a2, .inl (cy 0, 41, .inl (upd (fun _ => 0) 0 0)))] (va_A [(a0, .inr (8, [.ref a1, .int 0, .int 0, .int (-1)])), (a1, .inr (6, [.ref a3, .int 0, .ref a2, .ref a4, .ref a5, .ref a6, .int 1, .ref a7])), (a2, .inl (cy 0, 41, .inl (upd (fun _ => 0) 0 0)))] sz) t) (va_A [(a0, .inr (8, [.ref a1, .int 0, .int 0, .int (-1)])), (a1, .inr (6, [.ref a3, .int 0, .ref a2, .ref a4, .ref a5, .ref a6, .int 1, .ref a7])), (a2, .inl (cy 0, 41, .inl (upd (fun _ => 0) 0 0)))] sz)) 0 0 (va_A [(a0, .inr (8, [.ref a1, .int 0, .int 0, .int (-1)])), (a1, .inr (6, [.ref a3, .int 0, .ref a2, .ref a4, .ref a5, .ref a6, .int 1, .ref a7])), (a2, .inl (cy 0, 41, .inl (upd (fun _ => 0) 0 0)))] sz) := by
  refine Met.ofW (cc := cX6_takes) (maxL := 2) (ret := (some .boolean)) (by decide) rfl ?_
  intro p e s m args below meth c s₁ B hml hv
  obtain ⟨rfl, hsz, hP, hD0, hE⟩ := hv
  have hx := B.exec
  have hb := B.bytes
  have hr := B.returns
  have hts := atoms_spec (ws := wq_X6_takes_1) B.pre
  have hown : s.vm.findClass RX6 = some m.cls := findClass_of_methodNamed B.named
  have hlocks := B.notSynchronized
  subst hsz
  have hK := hE.1
  have hAm := hE.2.2.1
  have hWm := hE.2.2.2
  have hAO := hWm.2.2.2.1
  have hD := hD0.self (sz := s.heap.size)
  have hAF := frA hD0 hE.2.1
  generalize hAe : va_A [(a0, .inr (8, [.ref a1, .int 0, .int 0, .int (-1)])), (a1, .inr (6, [.ref a3, .int 0, .ref a2, .ref a4, .ref a5, .ref a6, .int 1, .ref a7])), (a2, .inl (cy 0, 41, .inl (upd (fun _ => 0) 0 0)))] s.heap.size = A at hD hAF ⊢
  have hA : ∀ q : Nat, s.heap.size ≤ q → A q := fun q h => by rw [← hAe]; exact Or.inr h
  have hS : va_S A s.heap s.heap [] := va_S.rf
  have hl := lv_entry ([.ref a0, .int 45]) (n := 2) (Nat.le_of_ble_eq_true rfl)
  rw [lg_entry_eq]
  generalize (lg_sl ([.ref a0, .int 45]) ++ List.replicate (2 - (lg_sl ([.ref a0, .int 45])).length) Slot.unset).toArray = ls at hl ⊢
  have hl : lv_has ls 2 [(0, .ref a0), (1, .int 45)] := hl
  have hP : va_P D vwCl [(a0, .inr (8, [.ref a1, .int 0, .int 0, .int (-1)])), (a1, .inr (6, [.ref a3, .int 0, .ref a2, .ref a4, .ref a5, .ref a6, .int 1, .ref a7])), (a2, .inl (cy 0, 41, .inl (upd (fun _ => 0) 0 0)))] s.heap := hP
  refine lv_aload_n hx hb dX6_takes_0 rfl (lv_at hl 0 rfl) ?_
  have hPc := hP.sub (ws' := [(a0, .inr (8, [.ref a1, .int 0, .int 0, .int (-1)])), (a1, .inr (6, [.ref a3, .int 0, .ref a2, .ref a4, .ref a5, .ref a6, .int 1, .ref a7])), (a2, .inl (cy 0, 41, .inl (upd (fun _ => 0) 0 0)))]) [0, 1, 2] rfl
  have hDc := hD.sub (ws' := [(a0, .inr (8, [.ref a1, .int 0, .int 0, .int (-1)])), (a1, .inr (6, [.ref a3, .int 0, .ref a2, .ref a4, .ref a5, .ref a6, .int 1, .ref a7])), (a2, .inl (cy 0, 41, .inl (upd (fun _ => 0) 0 0)))]) [0, 1, 2] (by decide) rfl
  have hFc := va_free (wc := [(a0, .inr (8, [.ref a1, .int 0, .int 0, .int (-1)])), (a1, .inr (6, [.ref a3, .int 0, .ref a2, .ref a4, .ref a5, .ref a6, .int 1, .ref a7])), (a2, .inl (cy 0, 41, .inl (upd (fun _ => 0) 0 0)))]) hD hS hA [0, 1, 2] rfl
  refine va_calli (va_runV (As := []) (rest := []) ⟨hx, hb, hml, hown, hts⟩ (C_X6_kind_1 l D cy sz0 sa a0 a1 a2 a3 a4 a5 a6 a7 s.heap.size) (cwV 0 hts (goodIn_app (goodIn_r _ [1, 2, 3, 4] rfl (by decide +kernel)) (goodIn_app (goodIn_app (goodIn_r wq_X6_kind_10 [5, 6, 7, 8, 9, 10, 11, 12, 13, 14] rfl (by decide +kernel)) (goodIn_sub (fun _ h => (List.mem_append_left _ (List.mem_append_right _ h))) (by decide +kernel))) (goodIn_sub (fun _ h => (List.mem_append_right _ h)) (by decide +kernel)))) rfl rfl rfl (by decide +kernel) ⟨Nat.le_of_ble_eq_true rfl, Nat.le_of_ble_eq_true rfl⟩) ⟨PcW.blind, va_recv hK hPc (ci := 8) (q0 := 0) rfl rfl, PcW.mk hE hS hAF hPc hDc⟩ rfl rfl hl.1 rfl (lv_room (Nat.le_of_ble_eq_true rfl)) dX6_takes_1 ⟨Nat.le_of_ble_eq_true rfl, Nat.le_of_ble_eq_true rfl⟩) hS (fun q _ h => hFc q h) hFc (fun r_1 u t H1 locs ht hvm hw hB hz1 hk1 hS => ?_)
  obtain ⟨hP1, hD1⟩ := hB
  rw [ht] at hP1
  have hP1 : va_P D vwCl [(a0, .inr (8, [.ref a1, .int 0, .int 0, .int (-1)])), (a1, .inr (6, [.ref a3, .int 0, .ref a2, .ref a4, .ref a5, .ref a6, .int 1, .ref a7])), (a2, .inl (cy 0, 41, .inl (upd (fun _ => 0) 0 0)))] H1 := hP1
  obtain ⟨hP, hD⟩ := va_join (wr := []) (w1 := [(a0, .inr (8, [.ref a1, .int 0, .int 0, .int (-1)])), (a1, .inr (6, [.ref a3, .int 0, .ref a2, .ref a4, .ref a5, .ref a6, .int 1, .ref a7])), (a2, .inl (cy 0, 41, .inl (upd (fun _ => 0) 0 0)))]) hP hD [0, 1, 2] [] rfl rfl (by decide) (by decide) hk1 hFc hP1 hD1
  clear hP1 hD1 hPc hDc hFc hk1 hz1
  generalize H1 = H at hP hS ⊢
  have hP : va_P D vwCl [(a0, .inr (8, [.ref a1, .int 0, .int 0, .int (-1)])), (a1, .inr (6, [.ref a3, .int 0, .ref a2, .ref a4, .ref a5, .ref a6, .int 1, .ref a7])), (a2, .inl (cy 0, 41, .inl (upd (fun _ => 0) 0 0)))] H := hP
  have hD : va_D A [(a0, .inr (8, [.ref a1, .int 0, .int 0, .int (-1)])), (a1, .inr (6, [.ref a3, .int 0, .ref a2, .ref a4, .ref a5, .ref a6, .int 1, .ref a7])), (a2, .inl (cy 0, 41, .inl (upd (fun _ => 0) 0 0)))] := hD
  refine W.widen (k := 0) (n := 0) (Nat.le_of_ble_eq_true rfl) (Nat.le_of_ble_eq_true rfl) ?_
  obtain rfl : r_1 = 0 := hw
  refine lv_iload_n hx hb dX6_takes_4 rfl (lv_at hl 1 rfl) ?_
  refine lv_icmp_eq (tgt := 10) hx hb dX6_takes_5 (by decide) (fun c2 => absurd c2 (by decide +kernel)) (fun _ => ?_)
  refine lv_iconst (v := 0) hx hb dX6_takes_8 (by decide +kernel) ?_
  refine W.widen (k := 0) (n := 0) (Nat.le_of_ble_eq_true rfl) (Nat.le_of_ble_eq_true rfl) ?_
  have hP9 := hP.sub (ws' := [(a0, .inr (8, [.ref a1, .int 0, .int 0, .int (-1)])), (a1, .inr (6, [.ref a3, .int 0, .ref a2, .ref a4, .ref a5, .ref a6, .int 1, .ref a7])), (a2, .inl (cy 0, 41, .inl (upd (fun _ => 0) 0 0)))]) [0, 1, 2] rfl
  have hD9 := hD.sub (ws' := [(a0, .inr (8, [.ref a1, .int 0, .int 0, .int (-1)])), (a1, .inr (6, [.ref a3, .int 0, .ref a2, .ref a4, .ref a5, .ref a6, .int 1, .ref a7])), (a2, .inl (cy 0, 41, .inl (upd (fun _ => 0) 0 0)))]) [0, 1, 2] (by decide) rfl
  exact W.zret (v := 0) (ty := .boolean) hx hb hr rfl (fun t ht hW => ⟨⟨0, (), rfl, rfl, ⟨by rw [ht]; exact hP9, hD9⟩⟩, hS.F ht⟩) hS.2.2 dX6_takes_9

def wq_X6_takes_20 : List Cond := [.code yX6_takes cX6_takes 2 (some .boolean), .methodLink RX6 43 yX6_kind, .instanceMethod yX6_kind, .selects RX6 yX6_kind yX6_kind, .initialized RX6, .code yX6_kind cX6_kind 1 (some .int), .fieldLink RX6 12 "PhraseDesk$Parser" "lexer" "LPhraseDesk$Lexer;", .fieldLink RX6 18 "PhraseDesk$Parser" "at" "I", .methodLink RX6 136 yX4_kindAt, .instanceMethod yX4_kindAt, .selects RX4 yX4_kindAt yX4_kindAt, .initialized RX4, .code yX4_kindAt cX4_kindAt 2 (some .int), .fieldLink RX4 42 "PhraseDesk$Lexer" "count" "I", .fieldLink RX4 15 "PhraseDesk$Lexer" "kinds" "[I"]
def wq_X6_takes_2 : List Cond := wq_X6_takes_20 ++ wsX60 ++ wsX40
set_option maxHeartbeats 4000000 in
set_option maxRecDepth 100000 in
theorem C_X6_takes_2 (l : Launch) (D : va_G) (cy : Nat → ClassId) (sz0 : Nat) (sa : Nat → Nat) (a0 a1 a2 a3 a4 a5 a6 a7 : Nat) (sz : Nat)  : Met l yX6_takes wq_X6_takes_2 ({ frames := 2, cells := 0, slots := 0, locals := 41 }) (PcW D cy sz0 sa [.ref a0, .int 33] [(a0, .inr (8, [.ref a1, .int 0, .int 0, .int (-1)])), (a1, .inr (6, [.ref a3, .int 0, .ref a2, .ref a4, .ref a5, .ref a6, .int 1, .ref a7])), (a2, .inl (cy 0, 41, .inl (upd (fun _ => 0) 0 0)))] sz) (va_Qi (fun (r : Int32) (u : Unit) => r = 0) (fun (u : Unit) (t : State) => BW D [(a0, .inr (8, [.ref a1, .int 0, .int 0, .int (-1)])), (a1, .inr (6, [.ref a3, .int 0, .ref a2, .ref a4, .ref a5, .ref a6, .int 1, .ref a7])), (a2, .inl (cy 0, 41, .inl (upd (fun _ => 0) 0 0)))] (va_A [(a0, .inr (8, [.ref a1, .int 0, .int 0, .int (-1)])), (a1, .inr (6, [.ref a3, .int 0, .ref a2, .ref a4, .ref a5, .ref a6, .int 1, .ref a7])), (a2, .inl (cy 0, 41, .inl (upd (fun _ => 0) 0 0)))] sz) t) (va_A [(a0, .inr (8, [.ref a1, .int 0, .int 0, .int (-1)])), (a1, .inr (6, [.ref a3, .int 0, .ref a2, .ref a4, .ref a5, .ref a6, .int 1, .ref a7])), (a2, .inl (cy 0, 41, .inl (upd (fun _ => 0) 0 0)))] sz)) 0 0 (va_A [(a0, .inr (8, [.ref a1, .int 0, .int 0, .int (-1)])), (a1, .inr (6, [.ref a3, .int 0, .ref a2, .ref a4, .ref a5, .ref a6, .int 1, .ref a7])), (a2, .inl (cy 0, 41, .inl (upd (fun _ => 0) 0 0)))] sz) := by
  refine Met.ofW (cc := cX6_takes) (maxL := 2) (ret := (some .boolean)) (by decide) rfl ?_
  intro p e s m args below meth c s₁ B hml hv
  obtain ⟨rfl, hsz, hP, hD0, hE⟩ := hv
  have hx := B.exec
  have hb := B.bytes
  have hr := B.returns
  have hts := atoms_spec (ws := wq_X6_takes_2) B.pre
  have hown : s.vm.findClass RX6 = some m.cls := findClass_of_methodNamed B.named
  have hlocks := B.notSynchronized
  subst hsz
  have hK := hE.1
  have hAm := hE.2.2.1
  have hWm := hE.2.2.2
  have hAO := hWm.2.2.2.1
  have hD := hD0.self (sz := s.heap.size)
  have hAF := frA hD0 hE.2.1
  generalize hAe : va_A [(a0, .inr (8, [.ref a1, .int 0, .int 0, .int (-1)])), (a1, .inr (6, [.ref a3, .int 0, .ref a2, .ref a4, .ref a5, .ref a6, .int 1, .ref a7])), (a2, .inl (cy 0, 41, .inl (upd (fun _ => 0) 0 0)))] s.heap.size = A at hD hAF ⊢
  have hA : ∀ q : Nat, s.heap.size ≤ q → A q := fun q h => by rw [← hAe]; exact Or.inr h
  have hS : va_S A s.heap s.heap [] := va_S.rf
  have hl := lv_entry ([.ref a0, .int 33]) (n := 2) (Nat.le_of_ble_eq_true rfl)
  rw [lg_entry_eq]
  generalize (lg_sl ([.ref a0, .int 33]) ++ List.replicate (2 - (lg_sl ([.ref a0, .int 33])).length) Slot.unset).toArray = ls at hl ⊢
  have hl : lv_has ls 2 [(0, .ref a0), (1, .int 33)] := hl
  have hP : va_P D vwCl [(a0, .inr (8, [.ref a1, .int 0, .int 0, .int (-1)])), (a1, .inr (6, [.ref a3, .int 0, .ref a2, .ref a4, .ref a5, .ref a6, .int 1, .ref a7])), (a2, .inl (cy 0, 41, .inl (upd (fun _ => 0) 0 0)))] s.heap := hP
  refine lv_aload_n hx hb dX6_takes_0 rfl (lv_at hl 0 rfl) ?_
  have hPc := hP.sub (ws' := [(a0, .inr (8, [.ref a1, .int 0, .int 0, .int (-1)])), (a1, .inr (6, [.ref a3, .int 0, .ref a2, .ref a4, .ref a5, .ref a6, .int 1, .ref a7])), (a2, .inl (cy 0, 41, .inl (upd (fun _ => 0) 0 0)))]) [0, 1, 2] rfl
  have hDc := hD.sub (ws' := [(a0, .inr (8, [.ref a1, .int 0, .int 0, .int (-1)])), (a1, .inr (6, [.ref a3, .int 0, .ref a2, .ref a4, .ref a5, .ref a6, .int 1, .ref a7])), (a2, .inl (cy 0, 41, .inl (upd (fun _ => 0) 0 0)))]) [0, 1, 2] (by decide) rfl
  have hFc := va_free (wc := [(a0, .inr (8, [.ref a1, .int 0, .int 0, .int (-1)])), (a1, .inr (6, [.ref a3, .int 0, .ref a2, .ref a4, .ref a5, .ref a6, .int 1, .ref a7])), (a2, .inl (cy 0, 41, .inl (upd (fun _ => 0) 0 0)))]) hD hS hA [0, 1, 2] rfl
  refine va_calli (va_runV (As := []) (rest := []) ⟨hx, hb, hml, hown, hts⟩ (C_X6_kind_1 l D cy sz0 sa a0 a1 a2 a3 a4 a5 a6 a7 s.heap.size) (cwV 0 hts (goodIn_app (goodIn_r _ [1, 2, 3, 4] rfl (by decide +kernel)) (goodIn_app (goodIn_app (goodIn_r wq_X6_kind_10 [5, 6, 7, 8, 9, 10, 11, 12, 13, 14] rfl (by decide +kernel)) (goodIn_sub (fun _ h => (List.mem_append_left _ (List.mem_append_right _ h))) (by decide +kernel))) (goodIn_sub (fun _ h => (List.mem_append_right _ h)) (by decide +kernel)))) rfl rfl rfl (by decide +kernel) ⟨Nat.le_of_ble_eq_true rfl, Nat.le_of_ble_eq_true rfl⟩) ⟨PcW.blind, va_recv hK hPc (ci := 8) (q0 := 0) rfl rfl, PcW.mk hE hS hAF hPc hDc⟩ rfl rfl hl.1 rfl (lv_room (Nat.le_of_ble_eq_true rfl)) dX6_takes_1 ⟨Nat.le_of_ble_eq_true rfl, Nat.le_of_ble_eq_true rfl⟩) hS (fun q _ h => hFc q h) hFc (fun r_1 u t H1 locs ht hvm hw hB hz1 hk1 hS => ?_)
  obtain ⟨hP1, hD1⟩ := hB
  rw [ht] at hP1
  have hP1 : va_P D vwCl [(a0, .inr (8, [.ref a1, .int 0, .int 0, .int (-1)])), (a1, .inr (6, [.ref a3, .int 0, .ref a2, .ref a4, .ref a5, .ref a6, .int 1, .ref a7])), (a2, .inl (cy 0, 41, .inl (upd (fun _ => 0) 0 0)))] H1 := hP1
  obtain ⟨hP, hD⟩ := va_join (wr := []) (w1 := [(a0, .inr (8, [.ref a1, .int 0, .int 0, .int (-1)])), (a1, .inr (6, [.ref a3, .int 0, .ref a2, .ref a4, .ref a5, .ref a6, .int 1, .ref a7])), (a2, .inl (cy 0, 41, .inl (upd (fun _ => 0) 0 0)))]) hP hD [0, 1, 2] [] rfl rfl (by decide) (by decide) hk1 hFc hP1 hD1
  clear hP1 hD1 hPc hDc hFc hk1 hz1
  generalize H1 = H at hP hS ⊢
  have hP : va_P D vwCl [(a0, .inr (8, [.ref a1, .int 0, .int 0, .int (-1)])), (a1, .inr (6, [.ref a3, .int 0, .ref a2, .ref a4, .ref a5, .ref a6, .int 1, .ref a7])), (a2, .inl (cy 0, 41, .inl (upd (fun _ => 0) 0 0)))] H := hP
  have hD : va_D A [(a0, .inr (8, [.ref a1, .int 0, .int 0, .int (-1)])), (a1, .inr (6, [.ref a3, .int 0, .ref a2, .ref a4, .ref a5, .ref a6, .int 1, .ref a7])), (a2, .inl (cy 0, 41, .inl (upd (fun _ => 0) 0 0)))] := hD
  refine W.widen (k := 0) (n := 0) (Nat.le_of_ble_eq_true rfl) (Nat.le_of_ble_eq_true rfl) ?_
  obtain rfl : r_1 = 0 := hw
  refine lv_iload_n hx hb dX6_takes_4 rfl (lv_at hl 1 rfl) ?_
  refine lv_icmp_eq (tgt := 10) hx hb dX6_takes_5 (by decide) (fun c2 => absurd c2 (by decide +kernel)) (fun _ => ?_)
  refine lv_iconst (v := 0) hx hb dX6_takes_8 (by decide +kernel) ?_
  refine W.widen (k := 0) (n := 0) (Nat.le_of_ble_eq_true rfl) (Nat.le_of_ble_eq_true rfl) ?_
  have hP9 := hP.sub (ws' := [(a0, .inr (8, [.ref a1, .int 0, .int 0, .int (-1)])), (a1, .inr (6, [.ref a3, .int 0, .ref a2, .ref a4, .ref a5, .ref a6, .int 1, .ref a7])), (a2, .inl (cy 0, 41, .inl (upd (fun _ => 0) 0 0)))]) [0, 1, 2] rfl
  have hD9 := hD.sub (ws' := [(a0, .inr (8, [.ref a1, .int 0, .int 0, .int (-1)])), (a1, .inr (6, [.ref a3, .int 0, .ref a2, .ref a4, .ref a5, .ref a6, .int 1, .ref a7])), (a2, .inl (cy 0, 41, .inl (upd (fun _ => 0) 0 0)))]) [0, 1, 2] (by decide) rfl
  exact W.zret (v := 0) (ty := .boolean) hx hb hr rfl (fun t ht hW => ⟨⟨0, (), rfl, rfl, ⟨by rw [ht]; exact hP9, hD9⟩⟩, hS.F ht⟩) hS.2.2 dX6_takes_9

def wq_X6_takes_30 : List Cond := [.code yX6_takes cX6_takes 2 (some .boolean), .methodLink RX6 43 yX6_kind, .instanceMethod yX6_kind, .selects RX6 yX6_kind yX6_kind, .initialized RX6, .code yX6_kind cX6_kind 1 (some .int), .fieldLink RX6 12 "PhraseDesk$Parser" "lexer" "LPhraseDesk$Lexer;", .fieldLink RX6 18 "PhraseDesk$Parser" "at" "I", .methodLink RX6 136 yX4_kindAt, .instanceMethod yX4_kindAt, .selects RX4 yX4_kindAt yX4_kindAt, .initialized RX4, .code yX4_kindAt cX4_kindAt 2 (some .int), .fieldLink RX4 42 "PhraseDesk$Lexer" "count" "I", .fieldLink RX4 15 "PhraseDesk$Lexer" "kinds" "[I"]
def wq_X6_takes_3 : List Cond := wq_X6_takes_30 ++ wsX60 ++ wsX40
set_option maxHeartbeats 4000000 in
set_option maxRecDepth 100000 in
theorem C_X6_takes_3 (l : Launch) (D : va_G) (cy : Nat → ClassId) (sz0 : Nat) (sa : Nat → Nat) (a0 a1 a2 a3 a4 a5 a6 a7 : Nat) (sz : Nat)  : Met l yX6_takes wq_X6_takes_3 ({ frames := 2, cells := 0, slots := 0, locals := 41 }) (PcW D cy sz0 sa [.ref a0, .int 35] [(a0, .inr (8, [.ref a1, .int 0, .int 0, .int (-1)])), (a1, .inr (6, [.ref a3, .int 0, .ref a2, .ref a4, .ref a5, .ref a6, .int 1, .ref a7])), (a2, .inl (cy 0, 41, .inl (upd (fun _ => 0) 0 0)))] sz) (va_Qi (fun (r : Int32) (u : Unit) => r = 0) (fun (u : Unit) (t : State) => BW D [(a0, .inr (8, [.ref a1, .int 0, .int 0, .int (-1)])), (a1, .inr (6, [.ref a3, .int 0, .ref a2, .ref a4, .ref a5, .ref a6, .int 1, .ref a7])), (a2, .inl (cy 0, 41, .inl (upd (fun _ => 0) 0 0)))] (va_A [(a0, .inr (8, [.ref a1, .int 0, .int 0, .int (-1)])), (a1, .inr (6, [.ref a3, .int 0, .ref a2, .ref a4, .ref a5, .ref a6, .int 1, .ref a7])), (a2, .inl (cy 0, 41, .inl (upd (fun _ => 0) 0 0)))] sz) t) (va_A [(a0, .inr (8, [.ref a1, .int 0, .int 0, .int (-1)])), (a1, .inr (6, [.ref a3, .int 0, .ref a2, .ref a4, .ref a5, .ref a6, .int 1, .ref a7])), (a2, .inl (cy 0, 41, .inl (upd (fun _ => 0) 0 0)))] sz)) 0 0 (va_A [(a0, .inr (8, [.ref a1, .int 0, .int 0, .int (-1)])), (a1, .inr (6, [.ref a3, .int 0, .ref a2, .ref a4, .ref a5, .ref a6, .int 1, .ref a7])), (a2, .inl (cy 0, 41, .inl (upd (fun _ => 0) 0 0)))] sz) := by
  refine Met.ofW (cc := cX6_takes) (maxL := 2) (ret := (some .boolean)) (by decide) rfl ?_
  intro p e s m args below meth c s₁ B hml hv
  obtain ⟨rfl, hsz, hP, hD0, hE⟩ := hv
  have hx := B.exec
  have hb := B.bytes
  have hr := B.returns
  have hts := atoms_spec (ws := wq_X6_takes_3) B.pre
  have hown : s.vm.findClass RX6 = some m.cls := findClass_of_methodNamed B.named
  have hlocks := B.notSynchronized
  subst hsz
  have hK := hE.1
  have hAm := hE.2.2.1
  have hWm := hE.2.2.2
  have hAO := hWm.2.2.2.1
  have hD := hD0.self (sz := s.heap.size)
  have hAF := frA hD0 hE.2.1
  generalize hAe : va_A [(a0, .inr (8, [.ref a1, .int 0, .int 0, .int (-1)])), (a1, .inr (6, [.ref a3, .int 0, .ref a2, .ref a4, .ref a5, .ref a6, .int 1, .ref a7])), (a2, .inl (cy 0, 41, .inl (upd (fun _ => 0) 0 0)))] s.heap.size = A at hD hAF ⊢
  have hA : ∀ q : Nat, s.heap.size ≤ q → A q := fun q h => by rw [← hAe]; exact Or.inr h
  have hS : va_S A s.heap s.heap [] := va_S.rf
  have hl := lv_entry ([.ref a0, .int 35]) (n := 2) (Nat.le_of_ble_eq_true rfl)
  rw [lg_entry_eq]
  generalize (lg_sl ([.ref a0, .int 35]) ++ List.replicate (2 - (lg_sl ([.ref a0, .int 35])).length) Slot.unset).toArray = ls at hl ⊢
  have hl : lv_has ls 2 [(0, .ref a0), (1, .int 35)] := hl
  have hP : va_P D vwCl [(a0, .inr (8, [.ref a1, .int 0, .int 0, .int (-1)])), (a1, .inr (6, [.ref a3, .int 0, .ref a2, .ref a4, .ref a5, .ref a6, .int 1, .ref a7])), (a2, .inl (cy 0, 41, .inl (upd (fun _ => 0) 0 0)))] s.heap := hP
  refine lv_aload_n hx hb dX6_takes_0 rfl (lv_at hl 0 rfl) ?_
  have hPc := hP.sub (ws' := [(a0, .inr (8, [.ref a1, .int 0, .int 0, .int (-1)])), (a1, .inr (6, [.ref a3, .int 0, .ref a2, .ref a4, .ref a5, .ref a6, .int 1, .ref a7])), (a2, .inl (cy 0, 41, .inl (upd (fun _ => 0) 0 0)))]) [0, 1, 2] rfl
  have hDc := hD.sub (ws' := [(a0, .inr (8, [.ref a1, .int 0, .int 0, .int (-1)])), (a1, .inr (6, [.ref a3, .int 0, .ref a2, .ref a4, .ref a5, .ref a6, .int 1, .ref a7])), (a2, .inl (cy 0, 41, .inl (upd (fun _ => 0) 0 0)))]) [0, 1, 2] (by decide) rfl
  have hFc := va_free (wc := [(a0, .inr (8, [.ref a1, .int 0, .int 0, .int (-1)])), (a1, .inr (6, [.ref a3, .int 0, .ref a2, .ref a4, .ref a5, .ref a6, .int 1, .ref a7])), (a2, .inl (cy 0, 41, .inl (upd (fun _ => 0) 0 0)))]) hD hS hA [0, 1, 2] rfl
  refine va_calli (va_runV (As := []) (rest := []) ⟨hx, hb, hml, hown, hts⟩ (C_X6_kind_1 l D cy sz0 sa a0 a1 a2 a3 a4 a5 a6 a7 s.heap.size) (cwV 0 hts (goodIn_app (goodIn_r _ [1, 2, 3, 4] rfl (by decide +kernel)) (goodIn_app (goodIn_app (goodIn_r wq_X6_kind_10 [5, 6, 7, 8, 9, 10, 11, 12, 13, 14] rfl (by decide +kernel)) (goodIn_sub (fun _ h => (List.mem_append_left _ (List.mem_append_right _ h))) (by decide +kernel))) (goodIn_sub (fun _ h => (List.mem_append_right _ h)) (by decide +kernel)))) rfl rfl rfl (by decide +kernel) ⟨Nat.le_of_ble_eq_true rfl, Nat.le_of_ble_eq_true rfl⟩) ⟨PcW.blind, va_recv hK hPc (ci := 8) (q0 := 0) rfl rfl, PcW.mk hE hS hAF hPc hDc⟩ rfl rfl hl.1 rfl (lv_room (Nat.le_of_ble_eq_true rfl)) dX6_takes_1 ⟨Nat.le_of_ble_eq_true rfl, Nat.le_of_ble_eq_true rfl⟩) hS (fun q _ h => hFc q h) hFc (fun r_1 u t H1 locs ht hvm hw hB hz1 hk1 hS => ?_)
  obtain ⟨hP1, hD1⟩ := hB
  rw [ht] at hP1
  have hP1 : va_P D vwCl [(a0, .inr (8, [.ref a1, .int 0, .int 0, .int (-1)])), (a1, .inr (6, [.ref a3, .int 0, .ref a2, .ref a4, .ref a5, .ref a6, .int 1, .ref a7])), (a2, .inl (cy 0, 41, .inl (upd (fun _ => 0) 0 0)))] H1 := hP1
  obtain ⟨hP, hD⟩ := va_join (wr := []) (w1 := [(a0, .inr (8, [.ref a1, .int 0, .int 0, .int (-1)])), (a1, .inr (6, [.ref a3, .int 0, .ref a2, .ref a4, .ref a5, .ref a6, .int 1, .ref a7])), (a2, .inl (cy 0, 41, .inl (upd (fun _ => 0) 0 0)))]) hP hD [0, 1, 2] [] rfl rfl (by decide) (by decide) hk1 hFc hP1 hD1
  clear hP1 hD1 hPc hDc hFc hk1 hz1
  generalize H1 = H at hP hS ⊢
  have hP : va_P D vwCl [(a0, .inr (8, [.ref a1, .int 0, .int 0, .int (-1)])), (a1, .inr (6, [.ref a3, .int 0, .ref a2, .ref a4, .ref a5, .ref a6, .int 1, .ref a7])), (a2, .inl (cy 0, 41, .inl (upd (fun _ => 0) 0 0)))] H := hP
  have hD : va_D A [(a0, .inr (8, [.ref a1, .int 0, .int 0, .int (-1)])), (a1, .inr (6, [.ref a3, .int 0, .ref a2, .ref a4, .ref a5, .ref a6, .int 1, .ref a7])), (a2, .inl (cy 0, 41, .inl (upd (fun _ => 0) 0 0)))] := hD
  refine W.widen (k := 0) (n := 0) (Nat.le_of_ble_eq_true rfl) (Nat.le_of_ble_eq_true rfl) ?_
  obtain rfl : r_1 = 0 := hw
  refine lv_iload_n hx hb dX6_takes_4 rfl (lv_at hl 1 rfl) ?_
  refine lv_icmp_eq (tgt := 10) hx hb dX6_takes_5 (by decide) (fun c2 => absurd c2 (by decide +kernel)) (fun _ => ?_)
  refine lv_iconst (v := 0) hx hb dX6_takes_8 (by decide +kernel) ?_
  refine W.widen (k := 0) (n := 0) (Nat.le_of_ble_eq_true rfl) (Nat.le_of_ble_eq_true rfl) ?_
  have hP9 := hP.sub (ws' := [(a0, .inr (8, [.ref a1, .int 0, .int 0, .int (-1)])), (a1, .inr (6, [.ref a3, .int 0, .ref a2, .ref a4, .ref a5, .ref a6, .int 1, .ref a7])), (a2, .inl (cy 0, 41, .inl (upd (fun _ => 0) 0 0)))]) [0, 1, 2] rfl
  have hD9 := hD.sub (ws' := [(a0, .inr (8, [.ref a1, .int 0, .int 0, .int (-1)])), (a1, .inr (6, [.ref a3, .int 0, .ref a2, .ref a4, .ref a5, .ref a6, .int 1, .ref a7])), (a2, .inl (cy 0, 41, .inl (upd (fun _ => 0) 0 0)))]) [0, 1, 2] (by decide) rfl
  exact W.zret (v := 0) (ty := .boolean) hx hb hr rfl (fun t ht hW => ⟨⟨0, (), rfl, rfl, ⟨by rw [ht]; exact hP9, hD9⟩⟩, hS.F ht⟩) hS.2.2 dX6_takes_9

def wq_X6_takes_40 : List Cond := [.code yX6_takes cX6_takes 2 (some .boolean), .methodLink RX6 43 yX6_kind, .instanceMethod yX6_kind, .selects RX6 yX6_kind yX6_kind, .initialized RX6, .code yX6_kind cX6_kind 1 (some .int), .fieldLink RX6 12 "PhraseDesk$Parser" "lexer" "LPhraseDesk$Lexer;", .fieldLink RX6 18 "PhraseDesk$Parser" "at" "I", .methodLink RX6 136 yX4_kindAt, .instanceMethod yX4_kindAt, .selects RX4 yX4_kindAt yX4_kindAt, .initialized RX4, .code yX4_kindAt cX4_kindAt 2 (some .int), .fieldLink RX4 42 "PhraseDesk$Lexer" "count" "I", .fieldLink RX4 15 "PhraseDesk$Lexer" "kinds" "[I"]
def wq_X6_takes_4 : List Cond := wq_X6_takes_40 ++ wsX60 ++ wsX40
set_option maxHeartbeats 4000000 in
set_option maxRecDepth 100000 in
theorem C_X6_takes_4 (l : Launch) (D : va_G) (cy : Nat → ClassId) (sz0 : Nat) (sa : Nat → Nat) (a0 a1 a2 a3 a4 a5 a6 a7 : Nat) (sz : Nat)  : Met l yX6_takes wq_X6_takes_4 ({ frames := 2, cells := 0, slots := 0, locals := 41 }) (PcW D cy sz0 sa [.ref a0, .int 40] [(a0, .inr (8, [.ref a1, .int 0, .int 0, .int (-1)])), (a1, .inr (6, [.ref a3, .int 0, .ref a2, .ref a4, .ref a5, .ref a6, .int 1, .ref a7])), (a2, .inl (cy 0, 41, .inl (upd (fun _ => 0) 0 0)))] sz) (va_Qi (fun (r : Int32) (u : Unit) => r = 0) (fun (u : Unit) (t : State) => BW D [(a0, .inr (8, [.ref a1, .int 0, .int 0, .int (-1)])), (a1, .inr (6, [.ref a3, .int 0, .ref a2, .ref a4, .ref a5, .ref a6, .int 1, .ref a7])), (a2, .inl (cy 0, 41, .inl (upd (fun _ => 0) 0 0)))] (va_A [(a0, .inr (8, [.ref a1, .int 0, .int 0, .int (-1)])), (a1, .inr (6, [.ref a3, .int 0, .ref a2, .ref a4, .ref a5, .ref a6, .int 1, .ref a7])), (a2, .inl (cy 0, 41, .inl (upd (fun _ => 0) 0 0)))] sz) t) (va_A [(a0, .inr (8, [.ref a1, .int 0, .int 0, .int (-1)])), (a1, .inr (6, [.ref a3, .int 0, .ref a2, .ref a4, .ref a5, .ref a6, .int 1, .ref a7])), (a2, .inl (cy 0, 41, .inl (upd (fun _ => 0) 0 0)))] sz)) 0 0 (va_A [(a0, .inr (8, [.ref a1, .int 0, .int 0, .int (-1)])), (a1, .inr (6, [.ref a3, .int 0, .ref a2, .ref a4, .ref a5, .ref a6, .int 1, .ref a7])), (a2, .inl (cy 0, 41, .inl (upd (fun _ => 0) 0 0)))] sz) := by
  refine Met.ofW (cc := cX6_takes) (maxL := 2) (ret := (some .boolean)) (by decide) rfl ?_
  intro p e s m args below meth c s₁ B hml hv
  obtain ⟨rfl, hsz, hP, hD0, hE⟩ := hv
  have hx := B.exec
  have hb := B.bytes
  have hr := B.returns
  have hts := atoms_spec (ws := wq_X6_takes_4) B.pre
  have hown : s.vm.findClass RX6 = some m.cls := findClass_of_methodNamed B.named
  have hlocks := B.notSynchronized
  subst hsz
  have hK := hE.1
  have hAm := hE.2.2.1
  have hWm := hE.2.2.2
  have hAO := hWm.2.2.2.1
  have hD := hD0.self (sz := s.heap.size)
  have hAF := frA hD0 hE.2.1
  generalize hAe : va_A [(a0, .inr (8, [.ref a1, .int 0, .int 0, .int (-1)])), (a1, .inr (6, [.ref a3, .int 0, .ref a2, .ref a4, .ref a5, .ref a6, .int 1, .ref a7])), (a2, .inl (cy 0, 41, .inl (upd (fun _ => 0) 0 0)))] s.heap.size = A at hD hAF ⊢
  have hA : ∀ q : Nat, s.heap.size ≤ q → A q := fun q h => by rw [← hAe]; exact Or.inr h
  have hS : va_S A s.heap s.heap [] := va_S.rf
  have hl := lv_entry ([.ref a0, .int 40]) (n := 2) (Nat.le_of_ble_eq_true rfl)
  rw [lg_entry_eq]
  generalize (lg_sl ([.ref a0, .int 40]) ++ List.replicate (2 - (lg_sl ([.ref a0, .int 40])).length) Slot.unset).toArray = ls at hl ⊢
  have hl : lv_has ls 2 [(0, .ref a0), (1, .int 40)] := hl
  have hP : va_P D vwCl [(a0, .inr (8, [.ref a1, .int 0, .int 0, .int (-1)])), (a1, .inr (6, [.ref a3, .int 0, .ref a2, .ref a4, .ref a5, .ref a6, .int 1, .ref a7])), (a2, .inl (cy 0, 41, .inl (upd (fun _ => 0) 0 0)))] s.heap := hP
  refine lv_aload_n hx hb dX6_takes_0 rfl (lv_at hl 0 rfl) ?_
  have hPc := hP.sub (ws' := [(a0, .inr (8, [.ref a1, .int 0, .int 0, .int (-1)])), (a1, .inr (6, [.ref a3, .int 0, .ref a2, .ref a4, .ref a5, .ref a6, .int 1, .ref a7])), (a2, .inl (cy 0, 41, .inl (upd (fun _ => 0) 0 0)))]) [0, 1, 2] rfl
  have hDc := hD.sub (ws' := [(a0, .inr (8, [.ref a1, .int 0, .int 0, .int (-1)])), (a1, .inr (6, [.ref a3, .int 0, .ref a2, .ref a4, .ref a5, .ref a6, .int 1, .ref a7])), (a2, .inl (cy 0, 41, .inl (upd (fun _ => 0) 0 0)))]) [0, 1, 2] (by decide) rfl
  have hFc := va_free (wc := [(a0, .inr (8, [.ref a1, .int 0, .int 0, .int (-1)])), (a1, .inr (6, [.ref a3, .int 0, .ref a2, .ref a4, .ref a5, .ref a6, .int 1, .ref a7])), (a2, .inl (cy 0, 41, .inl (upd (fun _ => 0) 0 0)))]) hD hS hA [0, 1, 2] rfl
  refine va_calli (va_runV (As := []) (rest := []) ⟨hx, hb, hml, hown, hts⟩ (C_X6_kind_1 l D cy sz0 sa a0 a1 a2 a3 a4 a5 a6 a7 s.heap.size) (cwV 0 hts (goodIn_app (goodIn_r _ [1, 2, 3, 4] rfl (by decide +kernel)) (goodIn_app (goodIn_app (goodIn_r wq_X6_kind_10 [5, 6, 7, 8, 9, 10, 11, 12, 13, 14] rfl (by decide +kernel)) (goodIn_sub (fun _ h => (List.mem_append_left _ (List.mem_append_right _ h))) (by decide +kernel))) (goodIn_sub (fun _ h => (List.mem_append_right _ h)) (by decide +kernel)))) rfl rfl rfl (by decide +kernel) ⟨Nat.le_of_ble_eq_true rfl, Nat.le_of_ble_eq_true rfl⟩) ⟨PcW.blind, va_recv hK hPc (ci := 8) (q0 := 0) rfl rfl, PcW.mk hE hS hAF hPc hDc⟩ rfl rfl hl.1 rfl (lv_room (Nat.le_of_ble_eq_true rfl)) dX6_takes_1 ⟨Nat.le_of_ble_eq_true rfl, Nat.le_of_ble_eq_true rfl⟩) hS (fun q _ h => hFc q h) hFc (fun r_1 u t H1 locs ht hvm hw hB hz1 hk1 hS => ?_)
  obtain ⟨hP1, hD1⟩ := hB
  rw [ht] at hP1
  have hP1 : va_P D vwCl [(a0, .inr (8, [.ref a1, .int 0, .int 0, .int (-1)])), (a1, .inr (6, [.ref a3, .int 0, .ref a2, .ref a4, .ref a5, .ref a6, .int 1, .ref a7])), (a2, .inl (cy 0, 41, .inl (upd (fun _ => 0) 0 0)))] H1 := hP1
  obtain ⟨hP, hD⟩ := va_join (wr := []) (w1 := [(a0, .inr (8, [.ref a1, .int 0, .int 0, .int (-1)])), (a1, .inr (6, [.ref a3, .int 0, .ref a2, .ref a4, .ref a5, .ref a6, .int 1, .ref a7])), (a2, .inl (cy 0, 41, .inl (upd (fun _ => 0) 0 0)))]) hP hD [0, 1, 2] [] rfl rfl (by decide) (by decide) hk1 hFc hP1 hD1
  clear hP1 hD1 hPc hDc hFc hk1 hz1
  generalize H1 = H at hP hS ⊢
  have hP : va_P D vwCl [(a0, .inr (8, [.ref a1, .int 0, .int 0, .int (-1)])), (a1, .inr (6, [.ref a3, .int 0, .ref a2, .ref a4, .ref a5, .ref a6, .int 1, .ref a7])), (a2, .inl (cy 0, 41, .inl (upd (fun _ => 0) 0 0)))] H := hP
  have hD : va_D A [(a0, .inr (8, [.ref a1, .int 0, .int 0, .int (-1)])), (a1, .inr (6, [.ref a3, .int 0, .ref a2, .ref a4, .ref a5, .ref a6, .int 1, .ref a7])), (a2, .inl (cy 0, 41, .inl (upd (fun _ => 0) 0 0)))] := hD
  refine W.widen (k := 0) (n := 0) (Nat.le_of_ble_eq_true rfl) (Nat.le_of_ble_eq_true rfl) ?_
  obtain rfl : r_1 = 0 := hw
  refine lv_iload_n hx hb dX6_takes_4 rfl (lv_at hl 1 rfl) ?_
  refine lv_icmp_eq (tgt := 10) hx hb dX6_takes_5 (by decide) (fun c2 => absurd c2 (by decide +kernel)) (fun _ => ?_)
  refine lv_iconst (v := 0) hx hb dX6_takes_8 (by decide +kernel) ?_
  refine W.widen (k := 0) (n := 0) (Nat.le_of_ble_eq_true rfl) (Nat.le_of_ble_eq_true rfl) ?_
  have hP9 := hP.sub (ws' := [(a0, .inr (8, [.ref a1, .int 0, .int 0, .int (-1)])), (a1, .inr (6, [.ref a3, .int 0, .ref a2, .ref a4, .ref a5, .ref a6, .int 1, .ref a7])), (a2, .inl (cy 0, 41, .inl (upd (fun _ => 0) 0 0)))]) [0, 1, 2] rfl
  have hD9 := hD.sub (ws' := [(a0, .inr (8, [.ref a1, .int 0, .int 0, .int (-1)])), (a1, .inr (6, [.ref a3, .int 0, .ref a2, .ref a4, .ref a5, .ref a6, .int 1, .ref a7])), (a2, .inl (cy 0, 41, .inl (upd (fun _ => 0) 0 0)))]) [0, 1, 2] (by decide) rfl
  exact W.zret (v := 0) (ty := .boolean) hx hb hr rfl (fun t ht hW => ⟨⟨0, (), rfl, rfl, ⟨by rw [ht]; exact hP9, hD9⟩⟩, hS.F ht⟩) hS.2.2 dX6_takes_9

def wq_X4_placeAt_10 : List Cond := [.code yX4_placeAt cX4_placeAt 2 (some .int), .fieldLink RX4 42 "PhraseDesk$Lexer" "count" "I", .fieldLink RX4 19 "PhraseDesk$Lexer" "places" "[I"]
def wq_X4_placeAt_1 : List Cond := wq_X4_placeAt_10 ++ wsX40
set_option maxHeartbeats 4000000 in
set_option maxRecDepth 100000 in
theorem C_X4_placeAt_1 (l : Launch) (D : va_G) (cy : Nat → ClassId) (sz0 : Nat) (sa : Nat → Nat) (a0 a1 a2 a3 a4 a5 a6 : Nat) (sz : Nat)  : Met l yX4_placeAt wq_X4_placeAt_1 ({ frames := 0, cells := 0, slots := 0, locals := 0 }) (PcW D cy sz0 sa [.ref a0, .int 0] [(a0, .inr (6, [.ref a2, .int 0, .ref a3, .ref a1, .ref a4, .ref a5, .int 1, .ref a6])), (a1, .inl (cy 0, 41, .inl (upd (fun _ => 0) 0 0)))] sz) (va_Qi (fun (r : Int32) (u : Unit) => r = 0) (fun (u : Unit) (t : State) => BW D [(a0, .inr (6, [.ref a2, .int 0, .ref a3, .ref a1, .ref a4, .ref a5, .int 1, .ref a6])), (a1, .inl (cy 0, 41, .inl (upd (fun _ => 0) 0 0)))] (va_A [(a0, .inr (6, [.ref a2, .int 0, .ref a3, .ref a1, .ref a4, .ref a5, .int 1, .ref a6])), (a1, .inl (cy 0, 41, .inl (upd (fun _ => 0) 0 0)))] sz) t) (va_A [(a0, .inr (6, [.ref a2, .int 0, .ref a3, .ref a1, .ref a4, .ref a5, .int 1, .ref a6])), (a1, .inl (cy 0, 41, .inl (upd (fun _ => 0) 0 0)))] sz)) 0 0 (va_A [(a0, .inr (6, [.ref a2, .int 0, .ref a3, .ref a1, .ref a4, .ref a5, .int 1, .ref a6])), (a1, .inl (cy 0, 41, .inl (upd (fun _ => 0) 0 0)))] sz) := by
  refine Met.ofW (cc := cX4_placeAt) (maxL := 2) (ret := (some .int)) (by decide) rfl ?_
  intro p e s m args below meth c s₁ B hml hv
  obtain ⟨rfl, hsz, hP, hD0, hE⟩ := hv
  have hx := B.exec
  have hb := B.bytes
  have hr := B.returns
  have hts := atoms_spec (ws := wq_X4_placeAt_1) B.pre
  have hown : s.vm.findClass RX4 = some m.cls := findClass_of_methodNamed B.named
  have hlocks := B.notSynchronized
  subst hsz
  have hK := hE.1
  have hAm := hE.2.2.1
  have hWm := hE.2.2.2
  have hAO := hWm.2.2.2.1
  have hD := hD0.self (sz := s.heap.size)
  have hAF := frA hD0 hE.2.1
  generalize hAe : va_A [(a0, .inr (6, [.ref a2, .int 0, .ref a3, .ref a1, .ref a4, .ref a5, .int 1, .ref a6])), (a1, .inl (cy 0, 41, .inl (upd (fun _ => 0) 0 0)))] s.heap.size = A at hD hAF ⊢
  have hA : ∀ q : Nat, s.heap.size ≤ q → A q := fun q h => by rw [← hAe]; exact Or.inr h
  have hS : va_S A s.heap s.heap [] := va_S.rf
  have hl := lv_entry ([.ref a0, .int 0]) (n := 2) (Nat.le_of_ble_eq_true rfl)
  rw [lg_entry_eq]
  generalize (lg_sl ([.ref a0, .int 0]) ++ List.replicate (2 - (lg_sl ([.ref a0, .int 0])).length) Slot.unset).toArray = ls at hl ⊢
  have hl : lv_has ls 2 [(0, .ref a0), (1, .int 0)] := hl
  have hP : va_P D vwCl [(a0, .inr (6, [.ref a2, .int 0, .ref a3, .ref a1, .ref a4, .ref a5, .int 1, .ref a6])), (a1, .inl (cy 0, 41, .inl (upd (fun _ => 0) 0 0)))] s.heap := hP
  refine lv_iload_n hx hb dX4_placeAt_0 rfl (lv_at hl 1 rfl) ?_
  refine lv_if_lt (tgt := 30) hx hb dX4_placeAt_1 (by decide) (fun c1 => absurd c1 (by decide +kernel)) (fun _ => ?_)
  refine lv_iload_n hx hb dX4_placeAt_4 rfl (lv_at hl 1 rfl) ?_
  refine lv_aload_n hx hb dX4_placeAt_5 rfl (lv_at hl 0 rfl) ?_
  refine va_get (D := D) (ci := 6) (v := .int 1) (C := RX4) (T := TX4) (N := 8) hx hb hts (fun _ h => (List.mem_append_right _ h)) hown hK hP 0 rfl rfl 6 (by decide) (hts (.fieldLink RX4 42 "PhraseDesk$Lexer" "count" "I") (List.mem_of_getElem? (i := 1) rfl)) (fun _ h9 => h9) rfl dX4_placeAt_6 ?_
  refine lv_icmp_ge (tgt := 30) hx hb dX4_placeAt_9 (by decide) (fun c2 => absurd c2 (by decide +kernel)) (fun _ => ?_)
  refine lv_iload_n hx hb dX4_placeAt_12 rfl (lv_at hl 1 rfl) ?_
  refine lv_aload_n hx hb dX4_placeAt_13 rfl (lv_at hl 0 rfl) ?_
  refine va_get (D := D) (ci := 6) (v := .ref a1) (C := RX4) (T := TX4) (N := 8) hx hb hts (fun _ h => (List.mem_append_right _ h)) hown hK hP 0 rfl rfl 3 (by decide) (hts (.fieldLink RX4 19 "PhraseDesk$Lexer" "places" "[I") (List.mem_of_getElem? (i := 2) rfl)) (fun _ h9 => h9) rfl dX4_placeAt_14 ?_
  refine va_alen (v := 41) hx hb hK hP 1 0 rfl rfl rfl dX4_placeAt_17 ?_
  refine lv_icmp_ge (tgt := 30) hx hb dX4_placeAt_18 (by decide) (fun c3 => absurd c3 (by decide +kernel)) (fun _ => ?_)
  refine lv_aload_n hx hb dX4_placeAt_21 rfl (lv_at hl 0 rfl) ?_
  refine va_get (D := D) (ci := 6) (v := .ref a1) (C := RX4) (T := TX4) (N := 8) hx hb hts (fun _ h => (List.mem_append_right _ h)) hown hK hP 0 rfl rfl 3 (by decide) (hts (.fieldLink RX4 19 "PhraseDesk$Lexer" "places" "[I") (List.mem_of_getElem? (i := 2) rfl)) (fun _ h9 => h9) rfl dX4_placeAt_22 ?_
  refine lv_iload_n hx hb dX4_placeAt_25 rfl (lv_at hl 1 rfl) ?_
  refine va_iald hx hb hK hP 1 0 rfl rfl (by unfold vp_in; decide +kernel) dX4_placeAt_26 ?_
  refine lv_topi (fun x4 ex4 => ?_)
  obtain rfl : x4 = 0 := ex4.trans (by decide +kernel)
  refine lv_goto (tgt := 31) hx hb dX4_placeAt_27 (by decide) ?_
  refine W.widen (k := 0) (n := 0) (Nat.le_of_ble_eq_true rfl) (Nat.le_of_ble_eq_true rfl) ?_
  have hP9 := hP.sub (ws' := [(a0, .inr (6, [.ref a2, .int 0, .ref a3, .ref a1, .ref a4, .ref a5, .int 1, .ref a6])), (a1, .inl (cy 0, 41, .inl (upd (fun _ => 0) 0 0)))]) [0, 1] rfl
  have hD9 := hD.sub (ws' := [(a0, .inr (6, [.ref a2, .int 0, .ref a3, .ref a1, .ref a4, .ref a5, .int 1, .ref a6])), (a1, .inl (cy 0, 41, .inl (upd (fun _ => 0) 0 0)))]) [0, 1] (by decide) rfl
  exact W.iret (v := 0) hx hb hr (fun t ht hW => ⟨⟨0, (), rfl, rfl, ⟨by rw [ht]; exact hP9, hD9⟩⟩, hS.F ht⟩) hS.2.2 dX4_placeAt_31

def wq_X6_refuse_10 : List Cond := [.code yX6_refuse cX6_refuse 2 (some (.object "PhraseDesk$Node")), .fieldLink RX6 22 "PhraseDesk$Parser" "error" "I", .fieldLink RX6 12 "PhraseDesk$Parser" "lexer" "LPhraseDesk$Lexer;", .fieldLink RX6 18 "PhraseDesk$Parser" "at" "I", .methodLink RX6 139 yX4_placeAt, .instanceMethod yX4_placeAt, .selects RX4 yX4_placeAt yX4_placeAt, .initialized RX4, .code yX4_placeAt cX4_placeAt 2 (some .int), .fieldLink RX4 42 "PhraseDesk$Lexer" "count" "I", .fieldLink RX4 19 "PhraseDesk$Lexer" "places" "[I", .fieldLink RX6 29 "PhraseDesk$Parser" "place" "I"]
def wq_X6_refuse_1 : List Cond := wq_X6_refuse_10 ++ wsX60 ++ wsX40
set_option maxHeartbeats 4000000 in
set_option maxRecDepth 100000 in
theorem C_X6_refuse_1 (l : Launch) (D : va_G) (cy : Nat → ClassId) (sz0 : Nat) (sa : Nat → Nat) (a0 a1 a2 a3 a4 a5 a6 a7 : Nat) (sz : Nat)  : Met l yX6_refuse wq_X6_refuse_1 ({ frames := 1, cells := 0, slots := 0, locals := 21 }) (PcW D cy sz0 sa [.ref a0, .int 2] [(a0, .inr (8, [.ref a1, .int 0, .int 0, .int (-1)])), (a1, .inr (6, [.ref a3, .int 0, .ref a4, .ref a2, .ref a5, .ref a6, .int 1, .ref a7])), (a2, .inl (cy 0, 41, .inl (upd (fun _ => 0) 0 0)))] sz) (va_Qq (fun (r : Option Nat) (u : Unit) => r = none) (fun (u : Unit) (t : State) => BW D [(a0, .inr (8, [.ref a1, .int 0, .int 2, .int 0])), (a1, .inr (6, [.ref a3, .int 0, .ref a4, .ref a2, .ref a5, .ref a6, .int 1, .ref a7])), (a2, .inl (cy 0, 41, .inl (upd (fun _ => 0) 0 0)))] (va_A [(a0, .inr (8, [.ref a1, .int 0, .int 0, .int (-1)])), (a1, .inr (6, [.ref a3, .int 0, .ref a4, .ref a2, .ref a5, .ref a6, .int 1, .ref a7])), (a2, .inl (cy 0, 41, .inl (upd (fun _ => 0) 0 0)))] sz) t) (va_A [(a0, .inr (8, [.ref a1, .int 0, .int 0, .int (-1)])), (a1, .inr (6, [.ref a3, .int 0, .ref a4, .ref a2, .ref a5, .ref a6, .int 1, .ref a7])), (a2, .inl (cy 0, 41, .inl (upd (fun _ => 0) 0 0)))] sz)) 0 0 (va_A [(a0, .inr (8, [.ref a1, .int 0, .int 0, .int (-1)])), (a1, .inr (6, [.ref a3, .int 0, .ref a4, .ref a2, .ref a5, .ref a6, .int 1, .ref a7])), (a2, .inl (cy 0, 41, .inl (upd (fun _ => 0) 0 0)))] sz) := by
  refine Met.ofW (cc := cX6_refuse) (maxL := 2) (ret := (some (.object "PhraseDesk$Node"))) (by decide) rfl ?_
  intro p e s m args below meth c s₁ B hml hv
  obtain ⟨rfl, hsz, hP, hD0, hE⟩ := hv
  have hx := B.exec
  have hb := B.bytes
  have hr := B.returns
  have hts := atoms_spec (ws := wq_X6_refuse_1) B.pre
  have hown : s.vm.findClass RX6 = some m.cls := findClass_of_methodNamed B.named
  have hlocks := B.notSynchronized
  subst hsz
  have hK := hE.1
  have hAm := hE.2.2.1
  have hWm := hE.2.2.2
  have hAO := hWm.2.2.2.1
  have hD := hD0.self (sz := s.heap.size)
  have hAF := frA hD0 hE.2.1
  generalize hAe : va_A [(a0, .inr (8, [.ref a1, .int 0, .int 0, .int (-1)])), (a1, .inr (6, [.ref a3, .int 0, .ref a4, .ref a2, .ref a5, .ref a6, .int 1, .ref a7])), (a2, .inl (cy 0, 41, .inl (upd (fun _ => 0) 0 0)))] s.heap.size = A at hD hAF ⊢
  have hA : ∀ q : Nat, s.heap.size ≤ q → A q := fun q h => by rw [← hAe]; exact Or.inr h
  have hS : va_S A s.heap s.heap [] := va_S.rf
  have hl := lv_entry ([.ref a0, .int 2]) (n := 2) (Nat.le_of_ble_eq_true rfl)
  rw [lg_entry_eq]
  generalize (lg_sl ([.ref a0, .int 2]) ++ List.replicate (2 - (lg_sl ([.ref a0, .int 2])).length) Slot.unset).toArray = ls at hl ⊢
  have hl : lv_has ls 2 [(0, .ref a0), (1, .int 2)] := hl
  have hP : va_P D vwCl [(a0, .inr (8, [.ref a1, .int 0, .int 0, .int (-1)])), (a1, .inr (6, [.ref a3, .int 0, .ref a4, .ref a2, .ref a5, .ref a6, .int 1, .ref a7])), (a2, .inl (cy 0, 41, .inl (upd (fun _ => 0) 0 0)))] s.heap := hP
  refine lv_aload_n hx hb dX6_refuse_0 rfl (lv_at hl 0 rfl) ?_
  refine lv_iload_n hx hb dX6_refuse_1 rfl (lv_at hl 1 rfl) ?_
  refine va_put (D := D) (ci := 8) (v := .int 2) (ty := .int) (C := RX6) (T := TX6) (N := 4) hx hb hts (fun _ h => (List.mem_append_left _ (List.mem_append_right _ h))) tyX6 tyX6_ok nmX6 hown hK hP hD hS 0 rfl rfl 2 (by decide) (hts (.fieldLink RX6 22 "PhraseDesk$Parser" "error" "I") (List.mem_of_getElem? (i := 1) rfl)) (fun _ h9 => h9) rfl (by decide +kernel) rfl rfl (Nat.le_of_ble_eq_true rfl) dX6_refuse_2 (fun H locs hP hD hS => ?_)
  have hP : va_P D vwCl [(a0, .inr (8, [.ref a1, .int 0, .int 2, .int (-1)])), (a1, .inr (6, [.ref a3, .int 0, .ref a4, .ref a2, .ref a5, .ref a6, .int 1, .ref a7])), (a2, .inl (cy 0, 41, .inl (upd (fun _ => 0) 0 0)))] H := hP
  have hD : va_D A [(a0, .inr (8, [.ref a1, .int 0, .int 2, .int (-1)])), (a1, .inr (6, [.ref a3, .int 0, .ref a4, .ref a2, .ref a5, .ref a6, .int 1, .ref a7])), (a2, .inl (cy 0, 41, .inl (upd (fun _ => 0) 0 0)))] := hD
  refine lv_aload_n hx hb dX6_refuse_5 rfl (lv_at hl 0 rfl) ?_
  refine lv_aload_n hx hb dX6_refuse_6 rfl (lv_at hl 0 rfl) ?_
  refine va_get (D := D) (ci := 8) (v := .ref a1) (C := RX6) (T := TX6) (N := 4) hx hb hts (fun _ h => (List.mem_append_left _ (List.mem_append_right _ h))) hown hK hP 0 rfl rfl 0 (by decide) (hts (.fieldLink RX6 12 "PhraseDesk$Parser" "lexer" "LPhraseDesk$Lexer;") (List.mem_of_getElem? (i := 2) rfl)) (fun _ h9 => h9) rfl dX6_refuse_7 ?_
  refine lv_aload_n hx hb dX6_refuse_10 rfl (lv_at hl 0 rfl) ?_
  refine va_get (D := D) (ci := 8) (v := .int 0) (C := RX6) (T := TX6) (N := 4) hx hb hts (fun _ h => (List.mem_append_left _ (List.mem_append_right _ h))) hown hK hP 0 rfl rfl 1 (by decide) (hts (.fieldLink RX6 18 "PhraseDesk$Parser" "at" "I") (List.mem_of_getElem? (i := 3) rfl)) (fun _ h9 => h9) rfl dX6_refuse_11 ?_
  have hPc := hP.sub (ws' := [(a1, .inr (6, [.ref a3, .int 0, .ref a4, .ref a2, .ref a5, .ref a6, .int 1, .ref a7])), (a2, .inl (cy 0, 41, .inl (upd (fun _ => 0) 0 0)))]) [1, 2] rfl
  have hDc := hD.sub (ws' := [(a1, .inr (6, [.ref a3, .int 0, .ref a4, .ref a2, .ref a5, .ref a6, .int 1, .ref a7])), (a2, .inl (cy 0, 41, .inl (upd (fun _ => 0) 0 0)))]) [1, 2] (by decide) rfl
  have hFc := va_free (wc := [(a1, .inr (6, [.ref a3, .int 0, .ref a4, .ref a2, .ref a5, .ref a6, .int 1, .ref a7])), (a2, .inl (cy 0, 41, .inl (upd (fun _ => 0) 0 0)))]) hD hS hA [1, 2] rfl
  refine va_calli (va_runV (As := [.int 0]) (rest := [.ref a0]) ⟨hx, hb, hml, hown, hts⟩ (C_X4_placeAt_1 l D cy sz0 sa a1 a2 a3 a4 a5 a6 a7 H.size) (cwV 1 hts (goodIn_app (goodIn_r _ [4, 5, 6, 7] rfl (by decide +kernel)) (goodIn_app (goodIn_r wq_X4_placeAt_10 [8, 9, 10] rfl (by decide +kernel)) (goodIn_sub (fun _ h => (List.mem_append_right _ h)) (by decide +kernel)))) rfl rfl rfl (by decide +kernel) ⟨Nat.le_of_ble_eq_true rfl, Nat.le_of_ble_eq_true rfl⟩) ⟨PcW.blind, va_recv hK hPc (ci := 6) (q0 := 0) rfl rfl, PcW.mk hE hS hAF hPc hDc⟩ rfl rfl hl.1 rfl (lv_room (Nat.le_of_ble_eq_true rfl)) dX6_refuse_14 ⟨Nat.le_of_ble_eq_true rfl, Nat.le_of_ble_eq_true rfl⟩) hS (fun q _ h => hFc q h) hFc (fun r_1 u t H1 locs ht hvm hw hB hz1 hk1 hS => ?_)
  obtain ⟨hP1, hD1⟩ := hB
  rw [ht] at hP1
  have hP1 : va_P D vwCl [(a1, .inr (6, [.ref a3, .int 0, .ref a4, .ref a2, .ref a5, .ref a6, .int 1, .ref a7])), (a2, .inl (cy 0, 41, .inl (upd (fun _ => 0) 0 0)))] H1 := hP1
  obtain ⟨hP, hD⟩ := va_join (wr := [(a0, .inr (8, [.ref a1, .int 0, .int 2, .int (-1)]))]) (w1 := [(a1, .inr (6, [.ref a3, .int 0, .ref a4, .ref a2, .ref a5, .ref a6, .int 1, .ref a7])), (a2, .inl (cy 0, 41, .inl (upd (fun _ => 0) 0 0)))]) hP hD [1, 2] [0] rfl rfl (by decide) (by decide) hk1 hFc hP1 hD1
  clear hP1 hD1 hPc hDc hFc hk1 hz1
  generalize H1 = H at hP hS ⊢
  have hP : va_P D vwCl [(a0, .inr (8, [.ref a1, .int 0, .int 2, .int (-1)])), (a1, .inr (6, [.ref a3, .int 0, .ref a4, .ref a2, .ref a5, .ref a6, .int 1, .ref a7])), (a2, .inl (cy 0, 41, .inl (upd (fun _ => 0) 0 0)))] H := hP
  have hD : va_D A [(a0, .inr (8, [.ref a1, .int 0, .int 2, .int (-1)])), (a1, .inr (6, [.ref a3, .int 0, .ref a4, .ref a2, .ref a5, .ref a6, .int 1, .ref a7])), (a2, .inl (cy 0, 41, .inl (upd (fun _ => 0) 0 0)))] := hD
  refine W.widen (k := 0) (n := 0) (Nat.le_of_ble_eq_true rfl) (Nat.le_of_ble_eq_true rfl) ?_
  obtain rfl : r_1 = 0 := hw
  refine va_put (D := D) (ci := 8) (v := .int 0) (ty := .int) (C := RX6) (T := TX6) (N := 4) hx hb hts (fun _ h => (List.mem_append_left _ (List.mem_append_right _ h))) tyX6 tyX6_ok nmX6 hown hK hP hD hS 0 rfl rfl 3 (by decide) (hts (.fieldLink RX6 29 "PhraseDesk$Parser" "place" "I") (List.mem_of_getElem? (i := 11) rfl)) (fun _ h9 => h9) rfl (by decide +kernel) rfl rfl (Nat.le_of_ble_eq_true rfl) dX6_refuse_17 (fun H locs hP hD hS => ?_)
  have hP : va_P D vwCl [(a0, .inr (8, [.ref a1, .int 0, .int 2, .int 0])), (a1, .inr (6, [.ref a3, .int 0, .ref a4, .ref a2, .ref a5, .ref a6, .int 1, .ref a7])), (a2, .inl (cy 0, 41, .inl (upd (fun _ => 0) 0 0)))] H := hP
  have hD : va_D A [(a0, .inr (8, [.ref a1, .int 0, .int 2, .int 0])), (a1, .inr (6, [.ref a3, .int 0, .ref a4, .ref a2, .ref a5, .ref a6, .int 1, .ref a7])), (a2, .inl (cy 0, 41, .inl (upd (fun _ => 0) 0 0)))] := hD
  refine lv_null hx hb dX6_refuse_20 ?_
  refine W.widen (k := 0) (n := 0) (Nat.le_of_ble_eq_true rfl) (Nat.le_of_ble_eq_true rfl) ?_
  have hP9 := hP.sub (ws' := [(a0, .inr (8, [.ref a1, .int 0, .int 2, .int 0])), (a1, .inr (6, [.ref a3, .int 0, .ref a4, .ref a2, .ref a5, .ref a6, .int 1, .ref a7])), (a2, .inl (cy 0, 41, .inl (upd (fun _ => 0) 0 0)))]) [0, 1, 2] rfl
  have hD9 := hD.sub (ws' := [(a0, .inr (8, [.ref a1, .int 0, .int 2, .int 0])), (a1, .inr (6, [.ref a3, .int 0, .ref a4, .ref a2, .ref a5, .ref a6, .int 1, .ref a7])), (a2, .inl (cy 0, 41, .inl (upd (fun _ => 0) 0 0)))]) [0, 1, 2] (by decide) rfl
  exact W.aret (v := .null) hx hb hr (Or.inl ⟨_, rfl⟩) (Or.inl rfl) (fun t ht hW => ⟨⟨none, (), rfl, rfl, ⟨by rw [ht]; exact hP9, hD9⟩⟩, hS.F ht⟩) hS.2.2 dX6_refuse_21

def wq_X6_first_10 : List Cond := [.code yX6_first cX6_first 2 (some (.object "PhraseDesk$Node")), .methodLink RX6 43 yX6_kind, .instanceMethod yX6_kind, .selects RX6 yX6_kind yX6_kind, .initialized RX6, .code yX6_kind cX6_kind 1 (some .int), .fieldLink RX6 12 "PhraseDesk$Parser" "lexer" "LPhraseDesk$Lexer;", .fieldLink RX6 18 "PhraseDesk$Parser" "at" "I", .methodLink RX6 136 yX4_kindAt, .instanceMethod yX4_kindAt, .selects RX4 yX4_kindAt yX4_kindAt, .initialized RX4, .code yX4_kindAt cX4_kindAt 2 (some .int), .fieldLink RX4 42 "PhraseDesk$Lexer" "count" "I", .fieldLink RX4 15 "PhraseDesk$Lexer" "kinds" "[I", .methodLink RX6 63 yX6_takes, .instanceMethod yX6_takes, .selects RX6 yX6_takes yX6_takes, .code yX6_takes cX6_takes 2 (some .boolean), .methodLink RX6 56 yX6_refuse, .instanceMethod yX6_refuse, .selects RX6 yX6_refuse yX6_refuse, .code yX6_refuse cX6_refuse 2 (some (.object "PhraseDesk$Node")), .fieldLink RX6 22 "PhraseDesk$Parser" "error" "I", .methodLink RX6 139 yX4_placeAt, .instanceMethod yX4_placeAt, .selects RX4 yX4_placeAt yX4_placeAt, .code yX4_placeAt cX4_placeAt 2 (some .int), .fieldLink RX4 19 "PhraseDesk$Lexer" "places" "[I", .fieldLink RX6 29 "PhraseDesk$Parser" "place" "I"]
def wq_X6_first_1 : List Cond := wq_X6_first_10 ++ wsX60 ++ wsX40
set_option maxHeartbeats 4000000 in
set_option maxRecDepth 100000 in
theorem C_X6_first_1 (l : Launch) (D : va_G) (cy : Nat → ClassId) (sz0 : Nat) (sa : Nat → Nat) (a0 a1 a2 a3 a4 a5 a6 a7 : Nat) (sz : Nat)  : Met l yX6_first wq_X6_first_1 ({ frames := 3, cells := 0, slots := 0, locals := 62 }) (PcW D cy sz0 sa [.ref a0, .int 0] [(a0, .inr (8, [.ref a1, .int 0, .int 0, .int (-1)])), (a1, .inr (6, [.ref a4, .int 0, .ref a2, .ref a3, .ref a5, .ref a6, .int 1, .ref a7])), (a2, .inl (cy 0, 41, .inl (upd (fun _ => 0) 0 0))), (a3, .inl (cy 0, 41, .inl (upd (fun _ => 0) 0 0)))] sz) (va_Qq (fun (r : Option Nat) (u : Unit) => r = none) (fun (u : Unit) (t : State) => BW D [(a0, .inr (8, [.ref a1, .int 0, .int 2, .int 0])), (a1, .inr (6, [.ref a4, .int 0, .ref a2, .ref a3, .ref a5, .ref a6, .int 1, .ref a7])), (a2, .inl (cy 0, 41, .inl (upd (fun _ => 0) 0 0))), (a3, .inl (cy 0, 41, .inl (upd (fun _ => 0) 0 0)))] (va_A [(a0, .inr (8, [.ref a1, .int 0, .int 0, .int (-1)])), (a1, .inr (6, [.ref a4, .int 0, .ref a2, .ref a3, .ref a5, .ref a6, .int 1, .ref a7])), (a2, .inl (cy 0, 41, .inl (upd (fun _ => 0) 0 0))), (a3, .inl (cy 0, 41, .inl (upd (fun _ => 0) 0 0)))] sz) t) (va_A [(a0, .inr (8, [.ref a1, .int 0, .int 0, .int (-1)])), (a1, .inr (6, [.ref a4, .int 0, .ref a2, .ref a3, .ref a5, .ref a6, .int 1, .ref a7])), (a2, .inl (cy 0, 41, .inl (upd (fun _ => 0) 0 0))), (a3, .inl (cy 0, 41, .inl (upd (fun _ => 0) 0 0)))] sz)) 0 0 (va_A [(a0, .inr (8, [.ref a1, .int 0, .int 0, .int (-1)])), (a1, .inr (6, [.ref a4, .int 0, .ref a2, .ref a3, .ref a5, .ref a6, .int 1, .ref a7])), (a2, .inl (cy 0, 41, .inl (upd (fun _ => 0) 0 0))), (a3, .inl (cy 0, 41, .inl (upd (fun _ => 0) 0 0)))] sz) := by
  refine Met.ofW (cc := cX6_first) (maxL := 2) (ret := (some (.object "PhraseDesk$Node"))) (by decide) rfl ?_
  intro p e s m args below meth c s₁ B hml hv
  obtain ⟨rfl, hsz, hP, hD0, hE⟩ := hv
  have hx := B.exec
  have hb := B.bytes
  have hr := B.returns
  have hts := atoms_spec (ws := wq_X6_first_1) B.pre
  have hown : s.vm.findClass RX6 = some m.cls := findClass_of_methodNamed B.named
  have hlocks := B.notSynchronized
  subst hsz
  have hK := hE.1
  have hAm := hE.2.2.1
  have hWm := hE.2.2.2
  have hAO := hWm.2.2.2.1
  have hD := hD0.self (sz := s.heap.size)
  have hAF := frA hD0 hE.2.1
  generalize hAe : va_A [(a0, .inr (8, [.ref a1, .int 0, .int 0, .int (-1)])), (a1, .inr (6, [.ref a4, .int 0, .ref a2, .ref a3, .ref a5, .ref a6, .int 1, .ref a7])), (a2, .inl (cy 0, 41, .inl (upd (fun _ => 0) 0 0))), (a3, .inl (cy 0, 41, .inl (upd (fun _ => 0) 0 0)))] s.heap.size = A at hD hAF ⊢
  have hA : ∀ q : Nat, s.heap.size ≤ q → A q := fun q h => by rw [← hAe]; exact Or.inr h
  have hS : va_S A s.heap s.heap [] := va_S.rf
  have hl := lv_entry ([.ref a0, .int 0]) (n := 2) (Nat.le_of_ble_eq_true rfl)
  rw [lg_entry_eq]
  generalize (lg_sl ([.ref a0, .int 0]) ++ List.replicate (2 - (lg_sl ([.ref a0, .int 0])).length) Slot.unset).toArray = ls at hl ⊢
  have hl : lv_has ls 2 [(0, .ref a0), (1, .int 0)] := hl
  have hP : va_P D vwCl [(a0, .inr (8, [.ref a1, .int 0, .int 0, .int (-1)])), (a1, .inr (6, [.ref a4, .int 0, .ref a2, .ref a3, .ref a5, .ref a6, .int 1, .ref a7])), (a2, .inl (cy 0, 41, .inl (upd (fun _ => 0) 0 0))), (a3, .inl (cy 0, 41, .inl (upd (fun _ => 0) 0 0)))] s.heap := hP
  refine lv_aload_n hx hb dX6_first_0 rfl (lv_at hl 0 rfl) ?_
  have hPc := hP.sub (ws' := [(a0, .inr (8, [.ref a1, .int 0, .int 0, .int (-1)])), (a1, .inr (6, [.ref a4, .int 0, .ref a2, .ref a3, .ref a5, .ref a6, .int 1, .ref a7])), (a2, .inl (cy 0, 41, .inl (upd (fun _ => 0) 0 0)))]) [0, 1, 2] rfl
  have hDc := hD.sub (ws' := [(a0, .inr (8, [.ref a1, .int 0, .int 0, .int (-1)])), (a1, .inr (6, [.ref a4, .int 0, .ref a2, .ref a3, .ref a5, .ref a6, .int 1, .ref a7])), (a2, .inl (cy 0, 41, .inl (upd (fun _ => 0) 0 0)))]) [0, 1, 2] (by decide) rfl
  have hFc := va_free (wc := [(a0, .inr (8, [.ref a1, .int 0, .int 0, .int (-1)])), (a1, .inr (6, [.ref a4, .int 0, .ref a2, .ref a3, .ref a5, .ref a6, .int 1, .ref a7])), (a2, .inl (cy 0, 41, .inl (upd (fun _ => 0) 0 0)))]) hD hS hA [0, 1, 2] rfl
  refine va_calli (va_runV (As := []) (rest := []) ⟨hx, hb, hml, hown, hts⟩ (C_X6_kind_1 l D cy sz0 sa a0 a1 a2 a4 a3 a5 a6 a7 s.heap.size) (cwV 0 hts (goodIn_app (goodIn_r _ [1, 2, 3, 4] rfl (by decide +kernel)) (goodIn_app (goodIn_app (goodIn_r wq_X6_kind_10 [5, 6, 7, 8, 9, 10, 11, 12, 13, 14] rfl (by decide +kernel)) (goodIn_sub (fun _ h => (List.mem_append_left _ (List.mem_append_right _ h))) (by decide +kernel))) (goodIn_sub (fun _ h => (List.mem_append_right _ h)) (by decide +kernel)))) rfl rfl rfl (by decide +kernel) ⟨Nat.le_of_ble_eq_true rfl, Nat.le_of_ble_eq_true rfl⟩) ⟨PcW.blind, va_recv hK hPc (ci := 8) (q0 := 0) rfl rfl, PcW.mk hE hS hAF hPc hDc⟩ rfl rfl hl.1 rfl (lv_room (Nat.le_of_ble_eq_true rfl)) dX6_first_1 ⟨Nat.le_of_ble_eq_true rfl, Nat.le_of_ble_eq_true rfl⟩) hS (fun q _ h => hFc q h) hFc (fun r_1 u t H1 locs ht hvm hw hB hz1 hk1 hS => ?_)
  obtain ⟨hP1, hD1⟩ := hB
  rw [ht] at hP1
  have hP1 : va_P D vwCl [(a0, .inr (8, [.ref a1, .int 0, .int 0, .int (-1)])), (a1, .inr (6, [.ref a4, .int 0, .ref a2, .ref a3, .ref a5, .ref a6, .int 1, .ref a7])), (a2, .inl (cy 0, 41, .inl (upd (fun _ => 0) 0 0)))] H1 := hP1
  obtain ⟨hP, hD⟩ := va_join (wr := [(a3, .inl (cy 0, 41, .inl (upd (fun _ => 0) 0 0)))]) (w1 := [(a0, .inr (8, [.ref a1, .int 0, .int 0, .int (-1)])), (a1, .inr (6, [.ref a4, .int 0, .ref a2, .ref a3, .ref a5, .ref a6, .int 1, .ref a7])), (a2, .inl (cy 0, 41, .inl (upd (fun _ => 0) 0 0)))]) hP hD [0, 1, 2] [3] rfl rfl (by decide) (by decide) hk1 hFc hP1 hD1
  clear hP1 hD1 hPc hDc hFc hk1 hz1
  generalize H1 = H at hP hS ⊢
  have hP : va_P D vwCl [(a3, .inl (cy 0, 41, .inl (upd (fun _ => 0) 0 0))), (a0, .inr (8, [.ref a1, .int 0, .int 0, .int (-1)])), (a1, .inr (6, [.ref a4, .int 0, .ref a2, .ref a3, .ref a5, .ref a6, .int 1, .ref a7])), (a2, .inl (cy 0, 41, .inl (upd (fun _ => 0) 0 0)))] H := hP
  have hD : va_D A [(a3, .inl (cy 0, 41, .inl (upd (fun _ => 0) 0 0))), (a0, .inr (8, [.ref a1, .int 0, .int 0, .int (-1)])), (a1, .inr (6, [.ref a4, .int 0, .ref a2, .ref a3, .ref a5, .ref a6, .int 1, .ref a7])), (a2, .inl (cy 0, 41, .inl (upd (fun _ => 0) 0 0)))] := hD
  refine W.widen (k := 0) (n := 0) (Nat.le_of_ble_eq_true rfl) (Nat.le_of_ble_eq_true rfl) ?_
  obtain rfl : r_1 = 0 := hw
  refine lv_iconst (v := 1) hx hb dX6_first_4 (by decide +kernel) ?_
  refine lv_icmp_ne (tgt := 35) hx hb dX6_first_5 (by decide) (fun _ => ?_) (fun c2 => absurd c2 (by decide +kernel))
  refine lv_aload_n hx hb dX6_first_35 rfl (lv_at hl 0 rfl) ?_
  refine lv_bipush (v := 35) hx hb dX6_first_36 (by decide +kernel) ?_
  have hPc := hP.sub (ws' := [(a0, .inr (8, [.ref a1, .int 0, .int 0, .int (-1)])), (a1, .inr (6, [.ref a4, .int 0, .ref a2, .ref a3, .ref a5, .ref a6, .int 1, .ref a7])), (a2, .inl (cy 0, 41, .inl (upd (fun _ => 0) 0 0)))]) [1, 2, 3] rfl
  have hDc := hD.sub (ws' := [(a0, .inr (8, [.ref a1, .int 0, .int 0, .int (-1)])), (a1, .inr (6, [.ref a4, .int 0, .ref a2, .ref a3, .ref a5, .ref a6, .int 1, .ref a7])), (a2, .inl (cy 0, 41, .inl (upd (fun _ => 0) 0 0)))]) [1, 2, 3] (by decide) rfl
  have hFc := va_free (wc := [(a0, .inr (8, [.ref a1, .int 0, .int 0, .int (-1)])), (a1, .inr (6, [.ref a4, .int 0, .ref a2, .ref a3, .ref a5, .ref a6, .int 1, .ref a7])), (a2, .inl (cy 0, 41, .inl (upd (fun _ => 0) 0 0)))]) hD hS hA [1, 2, 3] rfl
  refine va_calli (va_runV (As := [.int 35]) (rest := []) ⟨hx, hb, hml, hown, hts⟩ (C_X6_takes_3 l D cy sz0 sa a0 a1 a2 a4 a3 a5 a6 a7 H.size) (cwV 1 hts (goodIn_app (goodIn_r _ [15, 16, 17, 4] rfl (by decide +kernel)) (goodIn_app (goodIn_app (goodIn_r wq_X6_takes_30 [18, 1, 2, 3, 4, 5, 6, 7, 8, 9, 10, 11, 12, 13, 14] rfl (by decide +kernel)) (goodIn_sub (fun _ h => (List.mem_append_left _ (List.mem_append_right _ h))) (by decide +kernel))) (goodIn_sub (fun _ h => (List.mem_append_right _ h)) (by decide +kernel)))) rfl rfl rfl (by decide +kernel) ⟨Nat.le_of_ble_eq_true rfl, Nat.le_of_ble_eq_true rfl⟩) ⟨PcW.blind, va_recv hK hPc (ci := 8) (q0 := 0) rfl rfl, PcW.mk hE hS hAF hPc hDc⟩ rfl rfl hl.1 rfl (lv_room (Nat.le_of_ble_eq_true rfl)) dX6_first_38 ⟨Nat.le_of_ble_eq_true rfl, Nat.le_of_ble_eq_true rfl⟩) hS (fun q _ h => hFc q h) hFc (fun r_3 u t H1 locs ht hvm hw hB hz1 hk1 hS => ?_)
  obtain ⟨hP1, hD1⟩ := hB
  rw [ht] at hP1
  have hP1 : va_P D vwCl [(a0, .inr (8, [.ref a1, .int 0, .int 0, .int (-1)])), (a1, .inr (6, [.ref a4, .int 0, .ref a2, .ref a3, .ref a5, .ref a6, .int 1, .ref a7])), (a2, .inl (cy 0, 41, .inl (upd (fun _ => 0) 0 0)))] H1 := hP1
  obtain ⟨hP, hD⟩ := va_join (wr := [(a3, .inl (cy 0, 41, .inl (upd (fun _ => 0) 0 0)))]) (w1 := [(a0, .inr (8, [.ref a1, .int 0, .int 0, .int (-1)])), (a1, .inr (6, [.ref a4, .int 0, .ref a2, .ref a3, .ref a5, .ref a6, .int 1, .ref a7])), (a2, .inl (cy 0, 41, .inl (upd (fun _ => 0) 0 0)))]) hP hD [1, 2, 3] [0] rfl rfl (by decide) (by decide) hk1 hFc hP1 hD1
  clear hP1 hD1 hPc hDc hFc hk1 hz1
  generalize H1 = H at hP hS ⊢
  have hP : va_P D vwCl [(a3, .inl (cy 0, 41, .inl (upd (fun _ => 0) 0 0))), (a0, .inr (8, [.ref a1, .int 0, .int 0, .int (-1)])), (a1, .inr (6, [.ref a4, .int 0, .ref a2, .ref a3, .ref a5, .ref a6, .int 1, .ref a7])), (a2, .inl (cy 0, 41, .inl (upd (fun _ => 0) 0 0)))] H := hP
  have hD : va_D A [(a3, .inl (cy 0, 41, .inl (upd (fun _ => 0) 0 0))), (a0, .inr (8, [.ref a1, .int 0, .int 0, .int (-1)])), (a1, .inr (6, [.ref a4, .int 0, .ref a2, .ref a3, .ref a5, .ref a6, .int 1, .ref a7])), (a2, .inl (cy 0, 41, .inl (upd (fun _ => 0) 0 0)))] := hD
  refine W.widen (k := 0) (n := 0) (Nat.le_of_ble_eq_true rfl) (Nat.le_of_ble_eq_true rfl) ?_
  obtain rfl : r_3 = 0 := hw
  refine lv_if_eq (tgt := 68) hx hb dX6_first_41 (by decide) (fun _ => ?_) (fun c4 => absurd (by decide +kernel) c4)
  refine lv_aload_n hx hb dX6_first_68 rfl (lv_at hl 0 rfl) ?_
  refine lv_bipush (v := 40) hx hb dX6_first_69 (by decide +kernel) ?_
  have hPc := hP.sub (ws' := [(a0, .inr (8, [.ref a1, .int 0, .int 0, .int (-1)])), (a1, .inr (6, [.ref a4, .int 0, .ref a2, .ref a3, .ref a5, .ref a6, .int 1, .ref a7])), (a2, .inl (cy 0, 41, .inl (upd (fun _ => 0) 0 0)))]) [1, 2, 3] rfl
  have hDc := hD.sub (ws' := [(a0, .inr (8, [.ref a1, .int 0, .int 0, .int (-1)])), (a1, .inr (6, [.ref a4, .int 0, .ref a2, .ref a3, .ref a5, .ref a6, .int 1, .ref a7])), (a2, .inl (cy 0, 41, .inl (upd (fun _ => 0) 0 0)))]) [1, 2, 3] (by decide) rfl
  have hFc := va_free (wc := [(a0, .inr (8, [.ref a1, .int 0, .int 0, .int (-1)])), (a1, .inr (6, [.ref a4, .int 0, .ref a2, .ref a3, .ref a5, .ref a6, .int 1, .ref a7])), (a2, .inl (cy 0, 41, .inl (upd (fun _ => 0) 0 0)))]) hD hS hA [1, 2, 3] rfl
  refine va_calli (va_runV (As := [.int 40]) (rest := []) ⟨hx, hb, hml, hown, hts⟩ (C_X6_takes_4 l D cy sz0 sa a0 a1 a2 a4 a3 a5 a6 a7 H.size) (cwV 1 hts (goodIn_app (goodIn_r _ [15, 16, 17, 4] rfl (by decide +kernel)) (goodIn_app (goodIn_app (goodIn_r wq_X6_takes_40 [18, 1, 2, 3, 4, 5, 6, 7, 8, 9, 10, 11, 12, 13, 14] rfl (by decide +kernel)) (goodIn_sub (fun _ h => (List.mem_append_left _ (List.mem_append_right _ h))) (by decide +kernel))) (goodIn_sub (fun _ h => (List.mem_append_right _ h)) (by decide +kernel)))) rfl rfl rfl (by decide +kernel) ⟨Nat.le_of_ble_eq_true rfl, Nat.le_of_ble_eq_true rfl⟩) ⟨PcW.blind, va_recv hK hPc (ci := 8) (q0 := 0) rfl rfl, PcW.mk hE hS hAF hPc hDc⟩ rfl rfl hl.1 rfl (lv_room (Nat.le_of_ble_eq_true rfl)) dX6_first_71 ⟨Nat.le_of_ble_eq_true rfl, Nat.le_of_ble_eq_true rfl⟩) hS (fun q _ h => hFc q h) hFc (fun r_5 u t H1 locs ht hvm hw hB hz1 hk1 hS => ?_)
  obtain ⟨hP1, hD1⟩ := hB
  rw [ht] at hP1
  have hP1 : va_P D vwCl [(a0, .inr (8, [.ref a1, .int 0, .int 0, .int (-1)])), (a1, .inr (6, [.ref a4, .int 0, .ref a2, .ref a3, .ref a5, .ref a6, .int 1, .ref a7])), (a2, .inl (cy 0, 41, .inl (upd (fun _ => 0) 0 0)))] H1 := hP1
  obtain ⟨hP, hD⟩ := va_join (wr := [(a3, .inl (cy 0, 41, .inl (upd (fun _ => 0) 0 0)))]) (w1 := [(a0, .inr (8, [.ref a1, .int 0, .int 0, .int (-1)])), (a1, .inr (6, [.ref a4, .int 0, .ref a2, .ref a3, .ref a5, .ref a6, .int 1, .ref a7])), (a2, .inl (cy 0, 41, .inl (upd (fun _ => 0) 0 0)))]) hP hD [1, 2, 3] [0] rfl rfl (by decide) (by decide) hk1 hFc hP1 hD1
  clear hP1 hD1 hPc hDc hFc hk1 hz1
  generalize H1 = H at hP hS ⊢
  have hP : va_P D vwCl [(a3, .inl (cy 0, 41, .inl (upd (fun _ => 0) 0 0))), (a0, .inr (8, [.ref a1, .int 0, .int 0, .int (-1)])), (a1, .inr (6, [.ref a4, .int 0, .ref a2, .ref a3, .ref a5, .ref a6, .int 1, .ref a7])), (a2, .inl (cy 0, 41, .inl (upd (fun _ => 0) 0 0)))] H := hP
  have hD : va_D A [(a3, .inl (cy 0, 41, .inl (upd (fun _ => 0) 0 0))), (a0, .inr (8, [.ref a1, .int 0, .int 0, .int (-1)])), (a1, .inr (6, [.ref a4, .int 0, .ref a2, .ref a3, .ref a5, .ref a6, .int 1, .ref a7])), (a2, .inl (cy 0, 41, .inl (upd (fun _ => 0) 0 0)))] := hD
  refine W.widen (k := 0) (n := 0) (Nat.le_of_ble_eq_true rfl) (Nat.le_of_ble_eq_true rfl) ?_
  obtain rfl : r_5 = 0 := hw
  refine lv_if_eq (tgt := 83) hx hb dX6_first_74 (by decide) (fun _ => ?_) (fun c6 => absurd (by decide +kernel) c6)
  refine lv_aload_n hx hb dX6_first_83 rfl (lv_at hl 0 rfl) ?_
  have hPc := hP.sub (ws' := [(a0, .inr (8, [.ref a1, .int 0, .int 0, .int (-1)])), (a1, .inr (6, [.ref a4, .int 0, .ref a2, .ref a3, .ref a5, .ref a6, .int 1, .ref a7])), (a2, .inl (cy 0, 41, .inl (upd (fun _ => 0) 0 0)))]) [1, 2, 3] rfl
  have hDc := hD.sub (ws' := [(a0, .inr (8, [.ref a1, .int 0, .int 0, .int (-1)])), (a1, .inr (6, [.ref a4, .int 0, .ref a2, .ref a3, .ref a5, .ref a6, .int 1, .ref a7])), (a2, .inl (cy 0, 41, .inl (upd (fun _ => 0) 0 0)))]) [1, 2, 3] (by decide) rfl
  have hFc := va_free (wc := [(a0, .inr (8, [.ref a1, .int 0, .int 0, .int (-1)])), (a1, .inr (6, [.ref a4, .int 0, .ref a2, .ref a3, .ref a5, .ref a6, .int 1, .ref a7])), (a2, .inl (cy 0, 41, .inl (upd (fun _ => 0) 0 0)))]) hD hS hA [1, 2, 3] rfl
  refine va_calli (va_runV (As := []) (rest := []) ⟨hx, hb, hml, hown, hts⟩ (C_X6_kind_1 l D cy sz0 sa a0 a1 a2 a4 a3 a5 a6 a7 H.size) (cwV 0 hts (goodIn_app (goodIn_r _ [1, 2, 3, 4] rfl (by decide +kernel)) (goodIn_app (goodIn_app (goodIn_r wq_X6_kind_10 [5, 6, 7, 8, 9, 10, 11, 12, 13, 14] rfl (by decide +kernel)) (goodIn_sub (fun _ h => (List.mem_append_left _ (List.mem_append_right _ h))) (by decide +kernel))) (goodIn_sub (fun _ h => (List.mem_append_right _ h)) (by decide +kernel)))) rfl rfl rfl (by decide +kernel) ⟨Nat.le_of_ble_eq_true rfl, Nat.le_of_ble_eq_true rfl⟩) ⟨PcW.blind, va_recv hK hPc (ci := 8) (q0 := 0) rfl rfl, PcW.mk hE hS hAF hPc hDc⟩ rfl rfl hl.1 rfl (lv_room (Nat.le_of_ble_eq_true rfl)) dX6_first_84 ⟨Nat.le_of_ble_eq_true rfl, Nat.le_of_ble_eq_true rfl⟩) hS (fun q _ h => hFc q h) hFc (fun r_7 u t H1 locs ht hvm hw hB hz1 hk1 hS => ?_)
  obtain ⟨hP1, hD1⟩ := hB
  rw [ht] at hP1
  have hP1 : va_P D vwCl [(a0, .inr (8, [.ref a1, .int 0, .int 0, .int (-1)])), (a1, .inr (6, [.ref a4, .int 0, .ref a2, .ref a3, .ref a5, .ref a6, .int 1, .ref a7])), (a2, .inl (cy 0, 41, .inl (upd (fun _ => 0) 0 0)))] H1 := hP1
  obtain ⟨hP, hD⟩ := va_join (wr := [(a3, .inl (cy 0, 41, .inl (upd (fun _ => 0) 0 0)))]) (w1 := [(a0, .inr (8, [.ref a1, .int 0, .int 0, .int (-1)])), (a1, .inr (6, [.ref a4, .int 0, .ref a2, .ref a3, .ref a5, .ref a6, .int 1, .ref a7])), (a2, .inl (cy 0, 41, .inl (upd (fun _ => 0) 0 0)))]) hP hD [1, 2, 3] [0] rfl rfl (by decide) (by decide) hk1 hFc hP1 hD1
  clear hP1 hD1 hPc hDc hFc hk1 hz1
  generalize H1 = H at hP hS ⊢
  have hP : va_P D vwCl [(a3, .inl (cy 0, 41, .inl (upd (fun _ => 0) 0 0))), (a0, .inr (8, [.ref a1, .int 0, .int 0, .int (-1)])), (a1, .inr (6, [.ref a4, .int 0, .ref a2, .ref a3, .ref a5, .ref a6, .int 1, .ref a7])), (a2, .inl (cy 0, 41, .inl (upd (fun _ => 0) 0 0)))] H := hP
  have hD : va_D A [(a3, .inl (cy 0, 41, .inl (upd (fun _ => 0) 0 0))), (a0, .inr (8, [.ref a1, .int 0, .int 0, .int (-1)])), (a1, .inr (6, [.ref a4, .int 0, .ref a2, .ref a3, .ref a5, .ref a6, .int 1, .ref a7])), (a2, .inl (cy 0, 41, .inl (upd (fun _ => 0) 0 0)))] := hD
  refine W.widen (k := 0) (n := 0) (Nat.le_of_ble_eq_true rfl) (Nat.le_of_ble_eq_true rfl) ?_
  obtain rfl : r_7 = 0 := hw
  refine lv_iconst (v := 2) hx hb dX6_first_87 (by decide +kernel) ?_
  refine lv_icmp_ne (tgt := 99) hx hb dX6_first_88 (by decide) (fun _ => ?_) (fun c8 => absurd c8 (by decide +kernel))
  refine lv_aload_n hx hb dX6_first_99 rfl (lv_at hl 0 rfl) ?_
  refine lv_iconst (v := 2) hx hb dX6_first_100 (by decide +kernel) ?_
  have hPc := hP.sub (ws' := [(a0, .inr (8, [.ref a1, .int 0, .int 0, .int (-1)])), (a1, .inr (6, [.ref a4, .int 0, .ref a2, .ref a3, .ref a5, .ref a6, .int 1, .ref a7])), (a3, .inl (cy 0, 41, .inl (upd (fun _ => 0) 0 0)))]) [1, 2, 0] rfl
  have hDc := hD.sub (ws' := [(a0, .inr (8, [.ref a1, .int 0, .int 0, .int (-1)])), (a1, .inr (6, [.ref a4, .int 0, .ref a2, .ref a3, .ref a5, .ref a6, .int 1, .ref a7])), (a3, .inl (cy 0, 41, .inl (upd (fun _ => 0) 0 0)))]) [1, 2, 0] (by decide) rfl
  have hFc := va_free (wc := [(a0, .inr (8, [.ref a1, .int 0, .int 0, .int (-1)])), (a1, .inr (6, [.ref a4, .int 0, .ref a2, .ref a3, .ref a5, .ref a6, .int 1, .ref a7])), (a3, .inl (cy 0, 41, .inl (upd (fun _ => 0) 0 0)))]) hD hS hA [1, 2, 0] rfl
  refine va_callq (va_runV (As := [.int 2]) (rest := []) ⟨hx, hb, hml, hown, hts⟩ (C_X6_refuse_1 l D cy sz0 sa a0 a1 a3 a4 a2 a5 a6 a7 H.size) (cwV 1 hts (goodIn_app (goodIn_r _ [19, 20, 21, 4] rfl (by decide +kernel)) (goodIn_app (goodIn_app (goodIn_r wq_X6_refuse_10 [22, 23, 6, 7, 24, 25, 26, 11, 27, 13, 28, 29] rfl (by decide +kernel)) (goodIn_sub (fun _ h => (List.mem_append_left _ (List.mem_append_right _ h))) (by decide +kernel))) (goodIn_sub (fun _ h => (List.mem_append_right _ h)) (by decide +kernel)))) rfl rfl rfl (by decide +kernel) ⟨Nat.le_of_ble_eq_true rfl, Nat.le_of_ble_eq_true rfl⟩) ⟨PcW.blind, va_recv hK hPc (ci := 8) (q0 := 0) rfl rfl, PcW.mk hE hS hAF hPc hDc⟩ rfl rfl hl.1 rfl (lv_room (Nat.le_of_ble_eq_true rfl)) dX6_first_101 ⟨Nat.le_of_ble_eq_true rfl, Nat.le_of_ble_eq_true rfl⟩) hS (fun q _ h => hFc q h) hFc (fun r_9 u t H1 locs ht hvm hw hB hz1 hk1 hS => ?_)
  obtain ⟨hP1, hD1⟩ := hB
  rw [ht] at hP1
  have hP1 : va_P D vwCl [(a0, .inr (8, [.ref a1, .int 0, .int 2, .int 0])), (a1, .inr (6, [.ref a4, .int 0, .ref a2, .ref a3, .ref a5, .ref a6, .int 1, .ref a7])), (a3, .inl (cy 0, 41, .inl (upd (fun _ => 0) 0 0)))] H1 := hP1
  obtain ⟨hP, hD⟩ := va_join (wr := [(a2, .inl (cy 0, 41, .inl (upd (fun _ => 0) 0 0)))]) (w1 := [(a0, .inr (8, [.ref a1, .int 0, .int 2, .int 0])), (a1, .inr (6, [.ref a4, .int 0, .ref a2, .ref a3, .ref a5, .ref a6, .int 1, .ref a7])), (a3, .inl (cy 0, 41, .inl (upd (fun _ => 0) 0 0)))]) hP hD [1, 2, 0] [3] rfl rfl (by decide) (by decide) hk1 hFc hP1 hD1
  clear hP1 hD1 hPc hDc hFc hk1 hz1
  generalize H1 = H at hP hS ⊢
  have hP : va_P D vwCl [(a2, .inl (cy 0, 41, .inl (upd (fun _ => 0) 0 0))), (a0, .inr (8, [.ref a1, .int 0, .int 2, .int 0])), (a1, .inr (6, [.ref a4, .int 0, .ref a2, .ref a3, .ref a5, .ref a6, .int 1, .ref a7])), (a3, .inl (cy 0, 41, .inl (upd (fun _ => 0) 0 0)))] H := hP
  have hD : va_D A [(a2, .inl (cy 0, 41, .inl (upd (fun _ => 0) 0 0))), (a0, .inr (8, [.ref a1, .int 0, .int 2, .int 0])), (a1, .inr (6, [.ref a4, .int 0, .ref a2, .ref a3, .ref a5, .ref a6, .int 1, .ref a7])), (a3, .inl (cy 0, 41, .inl (upd (fun _ => 0) 0 0)))] := hD
  refine W.widen (k := 0) (n := 0) (Nat.le_of_ble_eq_true rfl) (Nat.le_of_ble_eq_true rfl) ?_
  obtain rfl : r_9 = none := hw
  refine W.eq (g2 := F0 m 104 ls [.null]) rfl ?_
  refine W.widen (k := 0) (n := 0) (Nat.le_of_ble_eq_true rfl) (Nat.le_of_ble_eq_true rfl) ?_
  have hP9 := hP.sub (ws' := [(a0, .inr (8, [.ref a1, .int 0, .int 2, .int 0])), (a1, .inr (6, [.ref a4, .int 0, .ref a2, .ref a3, .ref a5, .ref a6, .int 1, .ref a7])), (a2, .inl (cy 0, 41, .inl (upd (fun _ => 0) 0 0))), (a3, .inl (cy 0, 41, .inl (upd (fun _ => 0) 0 0)))]) [1, 2, 0, 3] rfl
  have hD9 := hD.sub (ws' := [(a0, .inr (8, [.ref a1, .int 0, .int 2, .int 0])), (a1, .inr (6, [.ref a4, .int 0, .ref a2, .ref a3, .ref a5, .ref a6, .int 1, .ref a7])), (a2, .inl (cy 0, 41, .inl (upd (fun _ => 0) 0 0))), (a3, .inl (cy 0, 41, .inl (upd (fun _ => 0) 0 0)))]) [1, 2, 0, 3] (by decide) rfl
  exact W.aret (v := .null) hx hb hr (Or.inl ⟨_, rfl⟩) (Or.inl rfl) (fun t ht hW => ⟨⟨none, (), rfl, rfl, ⟨by rw [ht]; exact hP9, hD9⟩⟩, hS.F ht⟩) hS.2.2 dX6_first_104

def wq_X6_chain_10 : List Cond := [.code yX6_chain cX6_chain 5 (some (.object "PhraseDesk$Node")), .methodLink RX6 81 yX6_first, .instanceMethod yX6_first, .selects RX6 yX6_first yX6_first, .initialized RX6, .code yX6_first cX6_first 2 (some (.object "PhraseDesk$Node")), .methodLink RX6 43 yX6_kind, .instanceMethod yX6_kind, .selects RX6 yX6_kind yX6_kind, .code yX6_kind cX6_kind 1 (some .int), .fieldLink RX6 12 "PhraseDesk$Parser" "lexer" "LPhraseDesk$Lexer;", .fieldLink RX6 18 "PhraseDesk$Parser" "at" "I", .methodLink RX6 136 yX4_kindAt, .instanceMethod yX4_kindAt, .selects RX4 yX4_kindAt yX4_kindAt, .initialized RX4, .code yX4_kindAt cX4_kindAt 2 (some .int), .fieldLink RX4 42 "PhraseDesk$Lexer" "count" "I", .fieldLink RX4 15 "PhraseDesk$Lexer" "kinds" "[I", .methodLink RX6 63 yX6_takes, .instanceMethod yX6_takes, .selects RX6 yX6_takes yX6_takes, .code yX6_takes cX6_takes 2 (some .boolean), .methodLink RX6 56 yX6_refuse, .instanceMethod yX6_refuse, .selects RX6 yX6_refuse yX6_refuse, .code yX6_refuse cX6_refuse 2 (some (.object "PhraseDesk$Node")), .fieldLink RX6 22 "PhraseDesk$Parser" "error" "I", .methodLink RX6 139 yX4_placeAt, .instanceMethod yX4_placeAt, .selects RX4 yX4_placeAt yX4_placeAt, .code yX4_placeAt cX4_placeAt 2 (some .int), .fieldLink RX4 19 "PhraseDesk$Lexer" "places" "[I", .fieldLink RX6 29 "PhraseDesk$Parser" "place" "I"]
def wq_X6_chain_1 : List Cond := wq_X6_chain_10 ++ wsX60 ++ wsX40
set_option maxHeartbeats 4000000 in
set_option maxRecDepth 100000 in
theorem C_X6_chain_1 (l : Launch) (D : va_G) (cy : Nat → ClassId) (sz0 : Nat) (sa : Nat → Nat) (a0 a1 a2 a3 a4 a5 a6 a7 : Nat) (sz : Nat)  : Met l yX6_chain wq_X6_chain_1 ({ frames := 4, cells := 0, slots := 0, locals := 83 }) (PcW D cy sz0 sa [.ref a0, .int 0] [(a0, .inr (8, [.ref a1, .int 0, .int 0, .int (-1)])), (a1, .inr (6, [.ref a4, .int 0, .ref a2, .ref a3, .ref a5, .ref a6, .int 1, .ref a7])), (a2, .inl (cy 0, 41, .inl (upd (fun _ => 0) 0 0))), (a3, .inl (cy 0, 41, .inl (upd (fun _ => 0) 0 0)))] sz) (va_Qq (fun (r : Option Nat) (u : Unit) => r = none) (fun (u : Unit) (t : State) => BW D [(a0, .inr (8, [.ref a1, .int 0, .int 2, .int 0])), (a1, .inr (6, [.ref a4, .int 0, .ref a2, .ref a3, .ref a5, .ref a6, .int 1, .ref a7])), (a2, .inl (cy 0, 41, .inl (upd (fun _ => 0) 0 0))), (a3, .inl (cy 0, 41, .inl (upd (fun _ => 0) 0 0)))] (va_A [(a0, .inr (8, [.ref a1, .int 0, .int 0, .int (-1)])), (a1, .inr (6, [.ref a4, .int 0, .ref a2, .ref a3, .ref a5, .ref a6, .int 1, .ref a7])), (a2, .inl (cy 0, 41, .inl (upd (fun _ => 0) 0 0))), (a3, .inl (cy 0, 41, .inl (upd (fun _ => 0) 0 0)))] sz) t) (va_A [(a0, .inr (8, [.ref a1, .int 0, .int 0, .int (-1)])), (a1, .inr (6, [.ref a4, .int 0, .ref a2, .ref a3, .ref a5, .ref a6, .int 1, .ref a7])), (a2, .inl (cy 0, 41, .inl (upd (fun _ => 0) 0 0))), (a3, .inl (cy 0, 41, .inl (upd (fun _ => 0) 0 0)))] sz)) 0 0 (va_A [(a0, .inr (8, [.ref a1, .int 0, .int 0, .int (-1)])), (a1, .inr (6, [.ref a4, .int 0, .ref a2, .ref a3, .ref a5, .ref a6, .int 1, .ref a7])), (a2, .inl (cy 0, 41, .inl (upd (fun _ => 0) 0 0))), (a3, .inl (cy 0, 41, .inl (upd (fun _ => 0) 0 0)))] sz) := by
  refine Met.ofW (cc := cX6_chain) (maxL := 5) (ret := (some (.object "PhraseDesk$Node"))) (by decide) rfl ?_
  intro p e s m args below meth c s₁ B hml hv
  obtain ⟨rfl, hsz, hP, hD0, hE⟩ := hv
  have hx := B.exec
  have hb := B.bytes
  have hr := B.returns
  have hts := atoms_spec (ws := wq_X6_chain_1) B.pre
  have hown : s.vm.findClass RX6 = some m.cls := findClass_of_methodNamed B.named
  have hlocks := B.notSynchronized
  subst hsz
  have hK := hE.1
  have hAm := hE.2.2.1
  have hWm := hE.2.2.2
  have hAO := hWm.2.2.2.1
  have hD := hD0.self (sz := s.heap.size)
  have hAF := frA hD0 hE.2.1
  generalize hAe : va_A [(a0, .inr (8, [.ref a1, .int 0, .int 0, .int (-1)])), (a1, .inr (6, [.ref a4, .int 0, .ref a2, .ref a3, .ref a5, .ref a6, .int 1, .ref a7])), (a2, .inl (cy 0, 41, .inl (upd (fun _ => 0) 0 0))), (a3, .inl (cy 0, 41, .inl (upd (fun _ => 0) 0 0)))] s.heap.size = A at hD hAF ⊢
  have hA : ∀ q : Nat, s.heap.size ≤ q → A q := fun q h => by rw [← hAe]; exact Or.inr h
  have hS : va_S A s.heap s.heap [] := va_S.rf
  have hl := lv_entry ([.ref a0, .int 0]) (n := 5) (Nat.le_of_ble_eq_true rfl)
  rw [lg_entry_eq]
  generalize (lg_sl ([.ref a0, .int 0]) ++ List.replicate (5 - (lg_sl ([.ref a0, .int 0])).length) Slot.unset).toArray = ls at hl ⊢
  have hl : lv_has ls 5 [(0, .ref a0), (1, .int 0)] := hl
  have hP : va_P D vwCl [(a0, .inr (8, [.ref a1, .int 0, .int 0, .int (-1)])), (a1, .inr (6, [.ref a4, .int 0, .ref a2, .ref a3, .ref a5, .ref a6, .int 1, .ref a7])), (a2, .inl (cy 0, 41, .inl (upd (fun _ => 0) 0 0))), (a3, .inl (cy 0, 41, .inl (upd (fun _ => 0) 0 0)))] s.heap := hP
  refine lv_aload_n hx hb dX6_chain_0 rfl (lv_at hl 0 rfl) ?_
  refine lv_iload_n hx hb dX6_chain_1 rfl (lv_at hl 1 rfl) ?_
  have hPc := hP.sub (ws' := [(a0, .inr (8, [.ref a1, .int 0, .int 0, .int (-1)])), (a1, .inr (6, [.ref a4, .int 0, .ref a2, .ref a3, .ref a5, .ref a6, .int 1, .ref a7])), (a2, .inl (cy 0, 41, .inl (upd (fun _ => 0) 0 0))), (a3, .inl (cy 0, 41, .inl (upd (fun _ => 0) 0 0)))]) [0, 1, 2, 3] rfl
  have hDc := hD.sub (ws' := [(a0, .inr (8, [.ref a1, .int 0, .int 0, .int (-1)])), (a1, .inr (6, [.ref a4, .int 0, .ref a2, .ref a3, .ref a5, .ref a6, .int 1, .ref a7])), (a2, .inl (cy 0, 41, .inl (upd (fun _ => 0) 0 0))), (a3, .inl (cy 0, 41, .inl (upd (fun _ => 0) 0 0)))]) [0, 1, 2, 3] (by decide) rfl
  have hFc := va_free (wc := [(a0, .inr (8, [.ref a1, .int 0, .int 0, .int (-1)])), (a1, .inr (6, [.ref a4, .int 0, .ref a2, .ref a3, .ref a5, .ref a6, .int 1, .ref a7])), (a2, .inl (cy 0, 41, .inl (upd (fun _ => 0) 0 0))), (a3, .inl (cy 0, 41, .inl (upd (fun _ => 0) 0 0)))]) hD hS hA [0, 1, 2, 3] rfl
  refine va_callq (va_runV (As := [.int 0]) (rest := []) ⟨hx, hb, hml, hown, hts⟩ (C_X6_first_1 l D cy sz0 sa a0 a1 a2 a3 a4 a5 a6 a7 s.heap.size) (cwV 1 hts (goodIn_app (goodIn_r _ [1, 2, 3, 4] rfl (by decide +kernel)) (goodIn_app (goodIn_app (goodIn_r wq_X6_first_10 [5, 6, 7, 8, 4, 9, 10, 11, 12, 13, 14, 15, 16, 17, 18, 19, 20, 21, 22, 23, 24, 25, 26, 27, 28, 29, 30, 31, 32, 33] rfl (by decide +kernel)) (goodIn_sub (fun _ h => (List.mem_append_left _ (List.mem_append_right _ h))) (by decide +kernel))) (goodIn_sub (fun _ h => (List.mem_append_right _ h)) (by decide +kernel)))) rfl rfl rfl (by decide +kernel) ⟨Nat.le_of_ble_eq_true rfl, Nat.le_of_ble_eq_true rfl⟩) ⟨PcW.blind, va_recv hK hPc (ci := 8) (q0 := 0) rfl rfl, PcW.mk hE hS hAF hPc hDc⟩ rfl rfl hl.1 rfl (lv_room (Nat.le_of_ble_eq_true rfl)) dX6_chain_2 ⟨Nat.le_of_ble_eq_true rfl, Nat.le_of_ble_eq_true rfl⟩) hS (fun q _ h => hFc q h) hFc (fun r_1 u t H1 locs ht hvm hw hB hz1 hk1 hS => ?_)
  obtain ⟨hP1, hD1⟩ := hB
  rw [ht] at hP1
  have hP1 : va_P D vwCl [(a0, .inr (8, [.ref a1, .int 0, .int 2, .int 0])), (a1, .inr (6, [.ref a4, .int 0, .ref a2, .ref a3, .ref a5, .ref a6, .int 1, .ref a7])), (a2, .inl (cy 0, 41, .inl (upd (fun _ => 0) 0 0))), (a3, .inl (cy 0, 41, .inl (upd (fun _ => 0) 0 0)))] H1 := hP1
  obtain ⟨hP, hD⟩ := va_join (wr := []) (w1 := [(a0, .inr (8, [.ref a1, .int 0, .int 2, .int 0])), (a1, .inr (6, [.ref a4, .int 0, .ref a2, .ref a3, .ref a5, .ref a6, .int 1, .ref a7])), (a2, .inl (cy 0, 41, .inl (upd (fun _ => 0) 0 0))), (a3, .inl (cy 0, 41, .inl (upd (fun _ => 0) 0 0)))]) hP hD [0, 1, 2, 3] [] rfl rfl (by decide) (by decide) hk1 hFc hP1 hD1
  clear hP1 hD1 hPc hDc hFc hk1 hz1
  generalize H1 = H at hP hS ⊢
  have hP : va_P D vwCl [(a0, .inr (8, [.ref a1, .int 0, .int 2, .int 0])), (a1, .inr (6, [.ref a4, .int 0, .ref a2, .ref a3, .ref a5, .ref a6, .int 1, .ref a7])), (a2, .inl (cy 0, 41, .inl (upd (fun _ => 0) 0 0))), (a3, .inl (cy 0, 41, .inl (upd (fun _ => 0) 0 0)))] H := hP
  have hD : va_D A [(a0, .inr (8, [.ref a1, .int 0, .int 2, .int 0])), (a1, .inr (6, [.ref a4, .int 0, .ref a2, .ref a3, .ref a5, .ref a6, .int 1, .ref a7])), (a2, .inl (cy 0, 41, .inl (upd (fun _ => 0) 0 0))), (a3, .inl (cy 0, 41, .inl (upd (fun _ => 0) 0 0)))] := hD
  refine W.widen (k := 0) (n := 0) (Nat.le_of_ble_eq_true rfl) (Nat.le_of_ble_eq_true rfl) ?_
  obtain rfl : r_1 = none := hw
  refine W.eq (g2 := F0 m 5 ls [.null]) rfl ?_
  refine lv_astore_nN (lv' := [(2, .null), (0, .ref a0), (1, .int 0)]) hx hb dX6_chain_5 rfl hl (by decide) rfl (fun ls hl => ?_)
  refine lv_iconst (v := 0) hx hb dX6_chain_6 (by decide +kernel) ?_
  refine lv_istore_n (lv' := [(3, .int 0), (2, .null), (0, .ref a0), (1, .int 0)]) hx hb dX6_chain_7 rfl hl (by decide) rfl (fun ls hl => ?_)
  refine lv_iload_n hx hb dX6_chain_8 rfl (lv_at hl 0 rfl) ?_
  refine lv_bipush (v := 40) hx hb dX6_chain_9 (by decide +kernel) ?_
  refine lv_icmp_ge (tgt := 83) hx hb dX6_chain_11 (by decide) (fun c2 => absurd c2 (by decide +kernel)) (fun _ => ?_)
  refine lv_aload_nN hx hb dX6_chain_14 rfl (lv_at hl 1 rfl) ?_
  refine lv_ifnullN (tgt := 83) hx hb dX6_chain_15 (by decide) ?_
  refine lv_aload_nN hx hb dX6_chain_83 rfl (lv_at hl 1 rfl) ?_
  refine W.widen (k := 0) (n := 0) (Nat.le_of_ble_eq_true rfl) (Nat.le_of_ble_eq_true rfl) ?_
  have hP9 := hP.sub (ws' := [(a0, .inr (8, [.ref a1, .int 0, .int 2, .int 0])), (a1, .inr (6, [.ref a4, .int 0, .ref a2, .ref a3, .ref a5, .ref a6, .int 1, .ref a7])), (a2, .inl (cy 0, 41, .inl (upd (fun _ => 0) 0 0))), (a3, .inl (cy 0, 41, .inl (upd (fun _ => 0) 0 0)))]) [0, 1, 2, 3] rfl
  have hD9 := hD.sub (ws' := [(a0, .inr (8, [.ref a1, .int 0, .int 2, .int 0])), (a1, .inr (6, [.ref a4, .int 0, .ref a2, .ref a3, .ref a5, .ref a6, .int 1, .ref a7])), (a2, .inl (cy 0, 41, .inl (upd (fun _ => 0) 0 0))), (a3, .inl (cy 0, 41, .inl (upd (fun _ => 0) 0 0)))]) [0, 1, 2, 3] (by decide) rfl
  exact W.aret (v := .null) hx hb hr (Or.inl ⟨_, rfl⟩) (Or.inl rfl) (fun t ht hW => ⟨⟨none, (), rfl, rfl, ⟨by rw [ht]; exact hP9, hD9⟩⟩, hS.F ht⟩) hS.2.2 dX6_chain_84

def wq_X6_sign_10 : List Cond := [.code yX6_sign cX6_sign 4 (some (.object "PhraseDesk$Node")), .methodLink RX6 63 yX6_takes, .instanceMethod yX6_takes, .selects RX6 yX6_takes yX6_takes, .initialized RX6, .code yX6_takes cX6_takes 2 (some .boolean), .methodLink RX6 43 yX6_kind, .instanceMethod yX6_kind, .selects RX6 yX6_kind yX6_kind, .code yX6_kind cX6_kind 1 (some .int), .fieldLink RX6 12 "PhraseDesk$Parser" "lexer" "LPhraseDesk$Lexer;", .fieldLink RX6 18 "PhraseDesk$Parser" "at" "I", .methodLink RX6 136 yX4_kindAt, .instanceMethod yX4_kindAt, .selects RX4 yX4_kindAt yX4_kindAt, .initialized RX4, .code yX4_kindAt cX4_kindAt 2 (some .int), .fieldLink RX4 42 "PhraseDesk$Lexer" "count" "I", .fieldLink RX4 15 "PhraseDesk$Lexer" "kinds" "[I", .methodLink RX6 78 yX6_chain, .instanceMethod yX6_chain, .selects RX6 yX6_chain yX6_chain, .code yX6_chain cX6_chain 5 (some (.object "PhraseDesk$Node")), .methodLink RX6 81 yX6_first, .instanceMethod yX6_first, .selects RX6 yX6_first yX6_first, .code yX6_first cX6_first 2 (some (.object "PhraseDesk$Node")), .methodLink RX6 56 yX6_refuse, .instanceMethod yX6_refuse, .selects RX6 yX6_refuse yX6_refuse, .code yX6_refuse cX6_refuse 2 (some (.object "PhraseDesk$Node")), .fieldLink RX6 22 "PhraseDesk$Parser" "error" "I", .methodLink RX6 139 yX4_placeAt, .instanceMethod yX4_placeAt, .selects RX4 yX4_placeAt yX4_placeAt, .code yX4_placeAt cX4_placeAt 2 (some .int), .fieldLink RX4 19 "PhraseDesk$Lexer" "places" "[I", .fieldLink RX6 29 "PhraseDesk$Parser" "place" "I"]
def wq_X6_sign_1 : List Cond := wq_X6_sign_10 ++ wsX60 ++ wsX40
set_option maxHeartbeats 4000000 in
set_option maxRecDepth 100000 in
theorem C_X6_sign_1 (l : Launch) (D : va_G) (cy : Nat → ClassId) (sz0 : Nat) (sa : Nat → Nat) (a0 a1 a2 a3 a4 a5 a6 a7 : Nat) (sz : Nat)  : Met l yX6_sign wq_X6_sign_1 ({ frames := 5, cells := 0, slots := 0, locals := 107 }) (PcW D cy sz0 sa [.ref a0, .int 0] [(a0, .inr (8, [.ref a1, .int 0, .int 0, .int (-1)])), (a1, .inr (6, [.ref a4, .int 0, .ref a2, .ref a3, .ref a5, .ref a6, .int 1, .ref a7])), (a2, .inl (cy 0, 41, .inl (upd (fun _ => 0) 0 0))), (a3, .inl (cy 0, 41, .inl (upd (fun _ => 0) 0 0)))] sz) (va_Qq (fun (r : Option Nat) (u : Unit) => r = none) (fun (u : Unit) (t : State) => BW D [(a0, .inr (8, [.ref a1, .int 0, .int 2, .int 0])), (a1, .inr (6, [.ref a4, .int 0, .ref a2, .ref a3, .ref a5, .ref a6, .int 1, .ref a7])), (a2, .inl (cy 0, 41, .inl (upd (fun _ => 0) 0 0))), (a3, .inl (cy 0, 41, .inl (upd (fun _ => 0) 0 0)))] (va_A [(a0, .inr (8, [.ref a1, .int 0, .int 0, .int (-1)])), (a1, .inr (6, [.ref a4, .int 0, .ref a2, .ref a3, .ref a5, .ref a6, .int 1, .ref a7])), (a2, .inl (cy 0, 41, .inl (upd (fun _ => 0) 0 0))), (a3, .inl (cy 0, 41, .inl (upd (fun _ => 0) 0 0)))] sz) t) (va_A [(a0, .inr (8, [.ref a1, .int 0, .int 0, .int (-1)])), (a1, .inr (6, [.ref a4, .int 0, .ref a2, .ref a3, .ref a5, .ref a6, .int 1, .ref a7])), (a2, .inl (cy 0, 41, .inl (upd (fun _ => 0) 0 0))), (a3, .inl (cy 0, 41, .inl (upd (fun _ => 0) 0 0)))] sz)) 0 0 (va_A [(a0, .inr (8, [.ref a1, .int 0, .int 0, .int (-1)])), (a1, .inr (6, [.ref a4, .int 0, .ref a2, .ref a3, .ref a5, .ref a6, .int 1, .ref a7])), (a2, .inl (cy 0, 41, .inl (upd (fun _ => 0) 0 0))), (a3, .inl (cy 0, 41, .inl (upd (fun _ => 0) 0 0)))] sz) := by
  refine Met.ofW (cc := cX6_sign) (maxL := 4) (ret := (some (.object "PhraseDesk$Node"))) (by decide) rfl ?_
  intro p e s m args below meth c s₁ B hml hv
  obtain ⟨rfl, hsz, hP, hD0, hE⟩ := hv
  have hx := B.exec
  have hb := B.bytes
  have hr := B.returns
  have hts := atoms_spec (ws := wq_X6_sign_1) B.pre
  have hown : s.vm.findClass RX6 = some m.cls := findClass_of_methodNamed B.named
  have hlocks := B.notSynchronized
  subst hsz
  have hK := hE.1
  have hAm := hE.2.2.1
  have hWm := hE.2.2.2
  have hAO := hWm.2.2.2.1
  have hD := hD0.self (sz := s.heap.size)
  have hAF := frA hD0 hE.2.1
  generalize hAe : va_A [(a0, .inr (8, [.ref a1, .int 0, .int 0, .int (-1)])), (a1, .inr (6, [.ref a4, .int 0, .ref a2, .ref a3, .ref a5, .ref a6, .int 1, .ref a7])), (a2, .inl (cy 0, 41, .inl (upd (fun _ => 0) 0 0))), (a3, .inl (cy 0, 41, .inl (upd (fun _ => 0) 0 0)))] s.heap.size = A at hD hAF ⊢
  have hA : ∀ q : Nat, s.heap.size ≤ q → A q := fun q h => by rw [← hAe]; exact Or.inr h
  have hS : va_S A s.heap s.heap [] := va_S.rf
  have hl := lv_entry ([.ref a0, .int 0]) (n := 4) (Nat.le_of_ble_eq_true rfl)
  rw [lg_entry_eq]
  generalize (lg_sl ([.ref a0, .int 0]) ++ List.replicate (4 - (lg_sl ([.ref a0, .int 0])).length) Slot.unset).toArray = ls at hl ⊢
  have hl : lv_has ls 4 [(0, .ref a0), (1, .int 0)] := hl
  have hP : va_P D vwCl [(a0, .inr (8, [.ref a1, .int 0, .int 0, .int (-1)])), (a1, .inr (6, [.ref a4, .int 0, .ref a2, .ref a3, .ref a5, .ref a6, .int 1, .ref a7])), (a2, .inl (cy 0, 41, .inl (upd (fun _ => 0) 0 0))), (a3, .inl (cy 0, 41, .inl (upd (fun _ => 0) 0 0)))] s.heap := hP
  refine lv_aload_n hx hb dX6_sign_0 rfl (lv_at hl 0 rfl) ?_
  refine lv_bipush (v := 45) hx hb dX6_sign_1 (by decide +kernel) ?_
  have hPc := hP.sub (ws' := [(a0, .inr (8, [.ref a1, .int 0, .int 0, .int (-1)])), (a1, .inr (6, [.ref a4, .int 0, .ref a2, .ref a3, .ref a5, .ref a6, .int 1, .ref a7])), (a2, .inl (cy 0, 41, .inl (upd (fun _ => 0) 0 0)))]) [0, 1, 2] rfl
  have hDc := hD.sub (ws' := [(a0, .inr (8, [.ref a1, .int 0, .int 0, .int (-1)])), (a1, .inr (6, [.ref a4, .int 0, .ref a2, .ref a3, .ref a5, .ref a6, .int 1, .ref a7])), (a2, .inl (cy 0, 41, .inl (upd (fun _ => 0) 0 0)))]) [0, 1, 2] (by decide) rfl
  have hFc := va_free (wc := [(a0, .inr (8, [.ref a1, .int 0, .int 0, .int (-1)])), (a1, .inr (6, [.ref a4, .int 0, .ref a2, .ref a3, .ref a5, .ref a6, .int 1, .ref a7])), (a2, .inl (cy 0, 41, .inl (upd (fun _ => 0) 0 0)))]) hD hS hA [0, 1, 2] rfl
  refine va_calli (va_runV (As := [.int 45]) (rest := []) ⟨hx, hb, hml, hown, hts⟩ (C_X6_takes_1 l D cy sz0 sa a0 a1 a2 a4 a3 a5 a6 a7 s.heap.size) (cwV 1 hts (goodIn_app (goodIn_r _ [1, 2, 3, 4] rfl (by decide +kernel)) (goodIn_app (goodIn_app (goodIn_r wq_X6_takes_10 [5, 6, 7, 8, 4, 9, 10, 11, 12, 13, 14, 15, 16, 17, 18] rfl (by decide +kernel)) (goodIn_sub (fun _ h => (List.mem_append_left _ (List.mem_append_right _ h))) (by decide +kernel))) (goodIn_sub (fun _ h => (List.mem_append_right _ h)) (by decide +kernel)))) rfl rfl rfl (by decide +kernel) ⟨Nat.le_of_ble_eq_true rfl, Nat.le_of_ble_eq_true rfl⟩) ⟨PcW.blind, va_recv hK hPc (ci := 8) (q0 := 0) rfl rfl, PcW.mk hE hS hAF hPc hDc⟩ rfl rfl hl.1 rfl (lv_room (Nat.le_of_ble_eq_true rfl)) dX6_sign_3 ⟨Nat.le_of_ble_eq_true rfl, Nat.le_of_ble_eq_true rfl⟩) hS (fun q _ h => hFc q h) hFc (fun r_1 u t H1 locs ht hvm hw hB hz1 hk1 hS => ?_)
  obtain ⟨hP1, hD1⟩ := hB
  rw [ht] at hP1
  have hP1 : va_P D vwCl [(a0, .inr (8, [.ref a1, .int 0, .int 0, .int (-1)])), (a1, .inr (6, [.ref a4, .int 0, .ref a2, .ref a3, .ref a5, .ref a6, .int 1, .ref a7])), (a2, .inl (cy 0, 41, .inl (upd (fun _ => 0) 0 0)))] H1 := hP1
  obtain ⟨hP, hD⟩ := va_join (wr := [(a3, .inl (cy 0, 41, .inl (upd (fun _ => 0) 0 0)))]) (w1 := [(a0, .inr (8, [.ref a1, .int 0, .int 0, .int (-1)])), (a1, .inr (6, [.ref a4, .int 0, .ref a2, .ref a3, .ref a5, .ref a6, .int 1, .ref a7])), (a2, .inl (cy 0, 41, .inl (upd (fun _ => 0) 0 0)))]) hP hD [0, 1, 2] [3] rfl rfl (by decide) (by decide) hk1 hFc hP1 hD1
  clear hP1 hD1 hPc hDc hFc hk1 hz1
  generalize H1 = H at hP hS ⊢
  have hP : va_P D vwCl [(a3, .inl (cy 0, 41, .inl (upd (fun _ => 0) 0 0))), (a0, .inr (8, [.ref a1, .int 0, .int 0, .int (-1)])), (a1, .inr (6, [.ref a4, .int 0, .ref a2, .ref a3, .ref a5, .ref a6, .int 1, .ref a7])), (a2, .inl (cy 0, 41, .inl (upd (fun _ => 0) 0 0)))] H := hP
  have hD : va_D A [(a3, .inl (cy 0, 41, .inl (upd (fun _ => 0) 0 0))), (a0, .inr (8, [.ref a1, .int 0, .int 0, .int (-1)])), (a1, .inr (6, [.ref a4, .int 0, .ref a2, .ref a3, .ref a5, .ref a6, .int 1, .ref a7])), (a2, .inl (cy 0, 41, .inl (upd (fun _ => 0) 0 0)))] := hD
  refine W.widen (k := 0) (n := 0) (Nat.le_of_ble_eq_true rfl) (Nat.le_of_ble_eq_true rfl) ?_
  obtain rfl : r_1 = 0 := hw
  refine lv_if_eq (tgt := 14) hx hb dX6_sign_6 (by decide) (fun _ => ?_) (fun c2 => absurd (by decide +kernel) c2)
  refine lv_aload_n hx hb dX6_sign_14 rfl (lv_at hl 0 rfl) ?_
  refine lv_bipush (v := 33) hx hb dX6_sign_15 (by decide +kernel) ?_
  have hPc := hP.sub (ws' := [(a0, .inr (8, [.ref a1, .int 0, .int 0, .int (-1)])), (a1, .inr (6, [.ref a4, .int 0, .ref a2, .ref a3, .ref a5, .ref a6, .int 1, .ref a7])), (a2, .inl (cy 0, 41, .inl (upd (fun _ => 0) 0 0)))]) [1, 2, 3] rfl
  have hDc := hD.sub (ws' := [(a0, .inr (8, [.ref a1, .int 0, .int 0, .int (-1)])), (a1, .inr (6, [.ref a4, .int 0, .ref a2, .ref a3, .ref a5, .ref a6, .int 1, .ref a7])), (a2, .inl (cy 0, 41, .inl (upd (fun _ => 0) 0 0)))]) [1, 2, 3] (by decide) rfl
  have hFc := va_free (wc := [(a0, .inr (8, [.ref a1, .int 0, .int 0, .int (-1)])), (a1, .inr (6, [.ref a4, .int 0, .ref a2, .ref a3, .ref a5, .ref a6, .int 1, .ref a7])), (a2, .inl (cy 0, 41, .inl (upd (fun _ => 0) 0 0)))]) hD hS hA [1, 2, 3] rfl
  refine va_calli (va_runV (As := [.int 33]) (rest := []) ⟨hx, hb, hml, hown, hts⟩ (C_X6_takes_2 l D cy sz0 sa a0 a1 a2 a4 a3 a5 a6 a7 H.size) (cwV 1 hts (goodIn_app (goodIn_r _ [1, 2, 3, 4] rfl (by decide +kernel)) (goodIn_app (goodIn_app (goodIn_r wq_X6_takes_20 [5, 6, 7, 8, 4, 9, 10, 11, 12, 13, 14, 15, 16, 17, 18] rfl (by decide +kernel)) (goodIn_sub (fun _ h => (List.mem_append_left _ (List.mem_append_right _ h))) (by decide +kernel))) (goodIn_sub (fun _ h => (List.mem_append_right _ h)) (by decide +kernel)))) rfl rfl rfl (by decide +kernel) ⟨Nat.le_of_ble_eq_true rfl, Nat.le_of_ble_eq_true rfl⟩) ⟨PcW.blind, va_recv hK hPc (ci := 8) (q0 := 0) rfl rfl, PcW.mk hE hS hAF hPc hDc⟩ rfl rfl hl.1 rfl (lv_room (Nat.le_of_ble_eq_true rfl)) dX6_sign_17 ⟨Nat.le_of_ble_eq_true rfl, Nat.le_of_ble_eq_true rfl⟩) hS (fun q _ h => hFc q h) hFc (fun r_3 u t H1 locs ht hvm hw hB hz1 hk1 hS => ?_)
  obtain ⟨hP1, hD1⟩ := hB
  rw [ht] at hP1
  have hP1 : va_P D vwCl [(a0, .inr (8, [.ref a1, .int 0, .int 0, .int (-1)])), (a1, .inr (6, [.ref a4, .int 0, .ref a2, .ref a3, .ref a5, .ref a6, .int 1, .ref a7])), (a2, .inl (cy 0, 41, .inl (upd (fun _ => 0) 0 0)))] H1 := hP1
  obtain ⟨hP, hD⟩ := va_join (wr := [(a3, .inl (cy 0, 41, .inl (upd (fun _ => 0) 0 0)))]) (w1 := [(a0, .inr (8, [.ref a1, .int 0, .int 0, .int (-1)])), (a1, .inr (6, [.ref a4, .int 0, .ref a2, .ref a3, .ref a5, .ref a6, .int 1, .ref a7])), (a2, .inl (cy 0, 41, .inl (upd (fun _ => 0) 0 0)))]) hP hD [1, 2, 3] [0] rfl rfl (by decide) (by decide) hk1 hFc hP1 hD1
  clear hP1 hD1 hPc hDc hFc hk1 hz1
  generalize H1 = H at hP hS ⊢
  have hP : va_P D vwCl [(a3, .inl (cy 0, 41, .inl (upd (fun _ => 0) 0 0))), (a0, .inr (8, [.ref a1, .int 0, .int 0, .int (-1)])), (a1, .inr (6, [.ref a4, .int 0, .ref a2, .ref a3, .ref a5, .ref a6, .int 1, .ref a7])), (a2, .inl (cy 0, 41, .inl (upd (fun _ => 0) 0 0)))] H := hP
  have hD : va_D A [(a3, .inl (cy 0, 41, .inl (upd (fun _ => 0) 0 0))), (a0, .inr (8, [.ref a1, .int 0, .int 0, .int (-1)])), (a1, .inr (6, [.ref a4, .int 0, .ref a2, .ref a3, .ref a5, .ref a6, .int 1, .ref a7])), (a2, .inl (cy 0, 41, .inl (upd (fun _ => 0) 0 0)))] := hD
  refine W.widen (k := 0) (n := 0) (Nat.le_of_ble_eq_true rfl) (Nat.le_of_ble_eq_true rfl) ?_
  obtain rfl : r_3 = 0 := hw
  refine lv_if_eq (tgt := 28) hx hb dX6_sign_20 (by decide) (fun _ => ?_) (fun c4 => absurd (by decide +kernel) c4)
  refine lv_iconst (v := (-1)) hx hb dX6_sign_28 (by decide +kernel) ?_
  refine lv_istore_n (lv' := [(2, .int (-1)), (0, .ref a0), (1, .int 0)]) hx hb dX6_sign_29 rfl hl (by decide) rfl (fun ls hl => ?_)
  refine lv_aload_n hx hb dX6_sign_30 rfl (lv_at hl 1 rfl) ?_
  refine lv_iload_n hx hb dX6_sign_31 rfl (lv_at hl 2 rfl) ?_
  have hPc := hP.sub (ws' := [(a0, .inr (8, [.ref a1, .int 0, .int 0, .int (-1)])), (a1, .inr (6, [.ref a4, .int 0, .ref a2, .ref a3, .ref a5, .ref a6, .int 1, .ref a7])), (a2, .inl (cy 0, 41, .inl (upd (fun _ => 0) 0 0))), (a3, .inl (cy 0, 41, .inl (upd (fun _ => 0) 0 0)))]) [1, 2, 3, 0] rfl
  have hDc := hD.sub (ws' := [(a0, .inr (8, [.ref a1, .int 0, .int 0, .int (-1)])), (a1, .inr (6, [.ref a4, .int 0, .ref a2, .ref a3, .ref a5, .ref a6, .int 1, .ref a7])), (a2, .inl (cy 0, 41, .inl (upd (fun _ => 0) 0 0))), (a3, .inl (cy 0, 41, .inl (upd (fun _ => 0) 0 0)))]) [1, 2, 3, 0] (by decide) rfl
  have hFc := va_free (wc := [(a0, .inr (8, [.ref a1, .int 0, .int 0, .int (-1)])), (a1, .inr (6, [.ref a4, .int 0, .ref a2, .ref a3, .ref a5, .ref a6, .int 1, .ref a7])), (a2, .inl (cy 0, 41, .inl (upd (fun _ => 0) 0 0))), (a3, .inl (cy 0, 41, .inl (upd (fun _ => 0) 0 0)))]) hD hS hA [1, 2, 3, 0] rfl
  refine va_callq (va_runV (As := [.int 0]) (rest := []) ⟨hx, hb, hml, hown, hts⟩ (C_X6_chain_1 l D cy sz0 sa a0 a1 a2 a3 a4 a5 a6 a7 H.size) (cwV 1 hts (goodIn_app (goodIn_r _ [19, 20, 21, 4] rfl (by decide +kernel)) (goodIn_app (goodIn_app (goodIn_r wq_X6_chain_10 [22, 23, 24, 25, 4, 26, 6, 7, 8, 9, 10, 11, 12, 13, 14, 15, 16, 17, 18, 1, 2, 3, 5, 27, 28, 29, 30, 31, 32, 33, 34, 35, 36, 37] rfl (by decide +kernel)) (goodIn_sub (fun _ h => (List.mem_append_left _ (List.mem_append_right _ h))) (by decide +kernel))) (goodIn_sub (fun _ h => (List.mem_append_right _ h)) (by decide +kernel)))) rfl rfl rfl (by decide +kernel) ⟨Nat.le_of_ble_eq_true rfl, Nat.le_of_ble_eq_true rfl⟩) ⟨PcW.blind, va_recv hK hPc (ci := 8) (q0 := 0) rfl rfl, PcW.mk hE hS hAF hPc hDc⟩ rfl rfl hl.1 rfl (lv_room (Nat.le_of_ble_eq_true rfl)) dX6_sign_32 ⟨Nat.le_of_ble_eq_true rfl, Nat.le_of_ble_eq_true rfl⟩) hS (fun q _ h => hFc q h) hFc (fun r_5 u t H1 locs ht hvm hw hB hz1 hk1 hS => ?_)
  obtain ⟨hP1, hD1⟩ := hB
  rw [ht] at hP1
  have hP1 : va_P D vwCl [(a0, .inr (8, [.ref a1, .int 0, .int 2, .int 0])), (a1, .inr (6, [.ref a4, .int 0, .ref a2, .ref a3, .ref a5, .ref a6, .int 1, .ref a7])), (a2, .inl (cy 0, 41, .inl (upd (fun _ => 0) 0 0))), (a3, .inl (cy 0, 41, .inl (upd (fun _ => 0) 0 0)))] H1 := hP1
  obtain ⟨hP, hD⟩ := va_join (wr := []) (w1 := [(a0, .inr (8, [.ref a1, .int 0, .int 2, .int 0])), (a1, .inr (6, [.ref a4, .int 0, .ref a2, .ref a3, .ref a5, .ref a6, .int 1, .ref a7])), (a2, .inl (cy 0, 41, .inl (upd (fun _ => 0) 0 0))), (a3, .inl (cy 0, 41, .inl (upd (fun _ => 0) 0 0)))]) hP hD [1, 2, 3, 0] [] rfl rfl (by decide) (by decide) hk1 hFc hP1 hD1
  clear hP1 hD1 hPc hDc hFc hk1 hz1
  generalize H1 = H at hP hS ⊢
  have hP : va_P D vwCl [(a0, .inr (8, [.ref a1, .int 0, .int 2, .int 0])), (a1, .inr (6, [.ref a4, .int 0, .ref a2, .ref a3, .ref a5, .ref a6, .int 1, .ref a7])), (a2, .inl (cy 0, 41, .inl (upd (fun _ => 0) 0 0))), (a3, .inl (cy 0, 41, .inl (upd (fun _ => 0) 0 0)))] H := hP
  have hD : va_D A [(a0, .inr (8, [.ref a1, .int 0, .int 2, .int 0])), (a1, .inr (6, [.ref a4, .int 0, .ref a2, .ref a3, .ref a5, .ref a6, .int 1, .ref a7])), (a2, .inl (cy 0, 41, .inl (upd (fun _ => 0) 0 0))), (a3, .inl (cy 0, 41, .inl (upd (fun _ => 0) 0 0)))] := hD
  refine W.widen (k := 0) (n := 0) (Nat.le_of_ble_eq_true rfl) (Nat.le_of_ble_eq_true rfl) ?_
  obtain rfl : r_5 = none := hw
  refine W.eq (g2 := F0 m 35 ls [.null]) rfl ?_
  refine lv_astore_nN (lv' := [(3, .null), (2, .int (-1)), (0, .ref a0), (1, .int 0)]) hx hb dX6_sign_35 rfl hl (by decide) rfl (fun ls hl => ?_)
  refine lv_aload_nN hx hb dX6_sign_36 rfl (lv_at hl 0 rfl) ?_
  refine lv_ifnullN (tgt := 45) hx hb dX6_sign_37 (by decide) ?_
  refine lv_aload_nN hx hb dX6_sign_45 rfl (lv_at hl 0 rfl) ?_
  refine lv_goto (tgt := 56) hx hb dX6_sign_46 (by decide) ?_
  refine W.widen (k := 0) (n := 0) (Nat.le_of_ble_eq_true rfl) (Nat.le_of_ble_eq_true rfl) ?_
  have hP9 := hP.sub (ws' := [(a0, .inr (8, [.ref a1, .int 0, .int 2, .int 0])), (a1, .inr (6, [.ref a4, .int 0, .ref a2, .ref a3, .ref a5, .ref a6, .int 1, .ref a7])), (a2, .inl (cy 0, 41, .inl (upd (fun _ => 0) 0 0))), (a3, .inl (cy 0, 41, .inl (upd (fun _ => 0) 0 0)))]) [0, 1, 2, 3] rfl
  have hD9 := hD.sub (ws' := [(a0, .inr (8, [.ref a1, .int 0, .int 2, .int 0])), (a1, .inr (6, [.ref a4, .int 0, .ref a2, .ref a3, .ref a5, .ref a6, .int 1, .ref a7])), (a2, .inl (cy 0, 41, .inl (upd (fun _ => 0) 0 0))), (a3, .inl (cy 0, 41, .inl (upd (fun _ => 0) 0 0)))]) [0, 1, 2, 3] (by decide) rfl
  exact W.aret (v := .null) hx hb hr (Or.inl ⟨_, rfl⟩) (Or.inl rfl) (fun t ht hW => ⟨⟨none, (), rfl, rfl, ⟨by rw [ht]; exact hP9, hD9⟩⟩, hS.F ht⟩) hS.2.2 dX6_sign_56

def wq_X6_level_10 : List Cond := [.code yX6_level cX6_level 7 (some (.object "PhraseDesk$Node")), .methodLink RX6 71 yX6_sign, .instanceMethod yX6_sign, .selects RX6 yX6_sign yX6_sign, .initialized RX6, .code yX6_sign cX6_sign 4 (some (.object "PhraseDesk$Node")), .methodLink RX6 63 yX6_takes, .instanceMethod yX6_takes, .selects RX6 yX6_takes yX6_takes, .code yX6_takes cX6_takes 2 (some .boolean), .methodLink RX6 43 yX6_kind, .instanceMethod yX6_kind, .selects RX6 yX6_kind yX6_kind, .code yX6_kind cX6_kind 1 (some .int), .fieldLink RX6 12 "PhraseDesk$Parser" "lexer" "LPhraseDesk$Lexer;", .fieldLink RX6 18 "PhraseDesk$Parser" "at" "I", .methodLink RX6 136 yX4_kindAt, .instanceMethod yX4_kindAt, .selects RX4 yX4_kindAt yX4_kindAt, .initialized RX4, .code yX4_kindAt cX4_kindAt 2 (some .int), .fieldLink RX4 42 "PhraseDesk$Lexer" "count" "I", .fieldLink RX4 15 "PhraseDesk$Lexer" "kinds" "[I", .methodLink RX6 78 yX6_chain, .instanceMethod yX6_chain, .selects RX6 yX6_chain yX6_chain, .code yX6_chain cX6_chain 5 (some (.object "PhraseDesk$Node")), .methodLink RX6 81 yX6_first, .instanceMethod yX6_first, .selects RX6 yX6_first yX6_first, .code yX6_first cX6_first 2 (some (.object "PhraseDesk$Node")), .methodLink RX6 56 yX6_refuse, .instanceMethod yX6_refuse, .selects RX6 yX6_refuse yX6_refuse, .code yX6_refuse cX6_refuse 2 (some (.object "PhraseDesk$Node")), .fieldLink RX6 22 "PhraseDesk$Parser" "error" "I", .methodLink RX6 139 yX4_placeAt, .instanceMethod yX4_placeAt, .selects RX4 yX4_placeAt yX4_placeAt, .code yX4_placeAt cX4_placeAt 2 (some .int), .fieldLink RX4 19 "PhraseDesk$Lexer" "places" "[I", .fieldLink RX6 29 "PhraseDesk$Parser" "place" "I"]
def wq_X6_level_1 : List Cond := wq_X6_level_10 ++ wsX60 ++ wsX40
set_option maxHeartbeats 4000000 in
set_option maxRecDepth 100000 in
theorem C_X6_level_1 (l : Launch) (D : va_G) (cy : Nat → ClassId) (sz0 : Nat) (sa : Nat → Nat) (a0 a1 a2 a3 a4 a5 a6 a7 : Nat) (sz : Nat)  : Met l yX6_level wq_X6_level_1 ({ frames := 6, cells := 0, slots := 0, locals := 130 }) (PcW D cy sz0 sa [.ref a0, .int 5, .int 0] [(a0, .inr (8, [.ref a1, .int 0, .int 0, .int (-1)])), (a1, .inr (6, [.ref a4, .int 0, .ref a2, .ref a3, .ref a5, .ref a6, .int 1, .ref a7])), (a2, .inl (cy 0, 41, .inl (upd (fun _ => 0) 0 0))), (a3, .inl (cy 0, 41, .inl (upd (fun _ => 0) 0 0)))] sz) (va_Qq (fun (r : Option Nat) (u : Unit) => r = none) (fun (u : Unit) (t : State) => BW D [(a0, .inr (8, [.ref a1, .int 0, .int 2, .int 0])), (a1, .inr (6, [.ref a4, .int 0, .ref a2, .ref a3, .ref a5, .ref a6, .int 1, .ref a7])), (a2, .inl (cy 0, 41, .inl (upd (fun _ => 0) 0 0))), (a3, .inl (cy 0, 41, .inl (upd (fun _ => 0) 0 0)))] (va_A [(a0, .inr (8, [.ref a1, .int 0, .int 0, .int (-1)])), (a1, .inr (6, [.ref a4, .int 0, .ref a2, .ref a3, .ref a5, .ref a6, .int 1, .ref a7])), (a2, .inl (cy 0, 41, .inl (upd (fun _ => 0) 0 0))), (a3, .inl (cy 0, 41, .inl (upd (fun _ => 0) 0 0)))] sz) t) (va_A [(a0, .inr (8, [.ref a1, .int 0, .int 0, .int (-1)])), (a1, .inr (6, [.ref a4, .int 0, .ref a2, .ref a3, .ref a5, .ref a6, .int 1, .ref a7])), (a2, .inl (cy 0, 41, .inl (upd (fun _ => 0) 0 0))), (a3, .inl (cy 0, 41, .inl (upd (fun _ => 0) 0 0)))] sz)) 0 0 (va_A [(a0, .inr (8, [.ref a1, .int 0, .int 0, .int (-1)])), (a1, .inr (6, [.ref a4, .int 0, .ref a2, .ref a3, .ref a5, .ref a6, .int 1, .ref a7])), (a2, .inl (cy 0, 41, .inl (upd (fun _ => 0) 0 0))), (a3, .inl (cy 0, 41, .inl (upd (fun _ => 0) 0 0)))] sz) := by
  refine Met.ofW (cc := cX6_level) (maxL := 7) (ret := (some (.object "PhraseDesk$Node"))) (by decide) rfl ?_
  intro p e s m args below meth c s₁ B hml hv
  obtain ⟨rfl, hsz, hP, hD0, hE⟩ := hv
  have hx := B.exec
  have hb := B.bytes
  have hr := B.returns
  have hts := atoms_spec (ws := wq_X6_level_1) B.pre
  have hown : s.vm.findClass RX6 = some m.cls := findClass_of_methodNamed B.named
  have hlocks := B.notSynchronized
  subst hsz
  have hK := hE.1
  have hAm := hE.2.2.1
  have hWm := hE.2.2.2
  have hAO := hWm.2.2.2.1
  have hD := hD0.self (sz := s.heap.size)
  have hAF := frA hD0 hE.2.1
  generalize hAe : va_A [(a0, .inr (8, [.ref a1, .int 0, .int 0, .int (-1)])), (a1, .inr (6, [.ref a4, .int 0, .ref a2, .ref a3, .ref a5, .ref a6, .int 1, .ref a7])), (a2, .inl (cy 0, 41, .inl (upd (fun _ => 0) 0 0))), (a3, .inl (cy 0, 41, .inl (upd (fun _ => 0) 0 0)))] s.heap.size = A at hD hAF ⊢
  have hA : ∀ q : Nat, s.heap.size ≤ q → A q := fun q h => by rw [← hAe]; exact Or.inr h
  have hS : va_S A s.heap s.heap [] := va_S.rf
  have hl := lv_entry ([.ref a0, .int 5, .int 0]) (n := 7) (Nat.le_of_ble_eq_true rfl)
  rw [lg_entry_eq]
  generalize (lg_sl ([.ref a0, .int 5, .int 0]) ++ List.replicate (7 - (lg_sl ([.ref a0, .int 5, .int 0])).length) Slot.unset).toArray = ls at hl ⊢
  have hl : lv_has ls 7 [(0, .ref a0), (1, .int 5), (2, .int 0)] := hl
  have hP : va_P D vwCl [(a0, .inr (8, [.ref a1, .int 0, .int 0, .int (-1)])), (a1, .inr (6, [.ref a4, .int 0, .ref a2, .ref a3, .ref a5, .ref a6, .int 1, .ref a7])), (a2, .inl (cy 0, 41, .inl (upd (fun _ => 0) 0 0))), (a3, .inl (cy 0, 41, .inl (upd (fun _ => 0) 0 0)))] s.heap := hP
  refine lv_iload_n hx hb dX6_level_0 rfl (lv_at hl 1 rfl) ?_
  refine lv_iconst (v := 4) hx hb dX6_level_1 (by decide +kernel) ?_
  refine lv_icmp_le (tgt := 11) hx hb dX6_level_2 (by decide) (fun c1 => absurd c1 (by decide +kernel)) (fun _ => ?_)
  refine lv_aload_n hx hb dX6_level_5 rfl (lv_at hl 0 rfl) ?_
  refine lv_iload_n hx hb dX6_level_6 rfl (lv_at hl 2 rfl) ?_
  have hPc := hP.sub (ws' := [(a0, .inr (8, [.ref a1, .int 0, .int 0, .int (-1)])), (a1, .inr (6, [.ref a4, .int 0, .ref a2, .ref a3, .ref a5, .ref a6, .int 1, .ref a7])), (a2, .inl (cy 0, 41, .inl (upd (fun _ => 0) 0 0))), (a3, .inl (cy 0, 41, .inl (upd (fun _ => 0) 0 0)))]) [0, 1, 2, 3] rfl
  have hDc := hD.sub (ws' := [(a0, .inr (8, [.ref a1, .int 0, .int 0, .int (-1)])), (a1, .inr (6, [.ref a4, .int 0, .ref a2, .ref a3, .ref a5, .ref a6, .int 1, .ref a7])), (a2, .inl (cy 0, 41, .inl (upd (fun _ => 0) 0 0))), (a3, .inl (cy 0, 41, .inl (upd (fun _ => 0) 0 0)))]) [0, 1, 2, 3] (by decide) rfl
  have hFc := va_free (wc := [(a0, .inr (8, [.ref a1, .int 0, .int 0, .int (-1)])), (a1, .inr (6, [.ref a4, .int 0, .ref a2, .ref a3, .ref a5, .ref a6, .int 1, .ref a7])), (a2, .inl (cy 0, 41, .inl (upd (fun _ => 0) 0 0))), (a3, .inl (cy 0, 41, .inl (upd (fun _ => 0) 0 0)))]) hD hS hA [0, 1, 2, 3] rfl
  refine va_callq (va_runV (As := [.int 0]) (rest := []) ⟨hx, hb, hml, hown, hts⟩ (C_X6_sign_1 l D cy sz0 sa a0 a1 a2 a3 a4 a5 a6 a7 s.heap.size) (cwV 1 hts (goodIn_app (goodIn_r _ [1, 2, 3, 4] rfl (by decide +kernel)) (goodIn_app (goodIn_app (goodIn_r wq_X6_sign_10 [5, 6, 7, 8, 4, 9, 10, 11, 12, 13, 14, 15, 16, 17, 18, 19, 20, 21, 22, 23, 24, 25, 26, 27, 28, 29, 30, 31, 32, 33, 34, 35, 36, 37, 38, 39, 40, 41] rfl (by decide +kernel)) (goodIn_sub (fun _ h => (List.mem_append_left _ (List.mem_append_right _ h))) (by decide +kernel))) (goodIn_sub (fun _ h => (List.mem_append_right _ h)) (by decide +kernel)))) rfl rfl rfl (by decide +kernel) ⟨Nat.le_of_ble_eq_true rfl, Nat.le_of_ble_eq_true rfl⟩) ⟨PcW.blind, va_recv hK hPc (ci := 8) (q0 := 0) rfl rfl, PcW.mk hE hS hAF hPc hDc⟩ rfl rfl hl.1 rfl (lv_room (Nat.le_of_ble_eq_true rfl)) dX6_level_7 ⟨Nat.le_of_ble_eq_true rfl, Nat.le_of_ble_eq_true rfl⟩) hS (fun q _ h => hFc q h) hFc (fun r_2 u t H1 locs ht hvm hw hB hz1 hk1 hS => ?_)
  obtain ⟨hP1, hD1⟩ := hB
  rw [ht] at hP1
  have hP1 : va_P D vwCl [(a0, .inr (8, [.ref a1, .int 0, .int 2, .int 0])), (a1, .inr (6, [.ref a4, .int 0, .ref a2, .ref a3, .ref a5, .ref a6, .int 1, .ref a7])), (a2, .inl (cy 0, 41, .inl (upd (fun _ => 0) 0 0))), (a3, .inl (cy 0, 41, .inl (upd (fun _ => 0) 0 0)))] H1 := hP1
  obtain ⟨hP, hD⟩ := va_join (wr := []) (w1 := [(a0, .inr (8, [.ref a1, .int 0, .int 2, .int 0])), (a1, .inr (6, [.ref a4, .int 0, .ref a2, .ref a3, .ref a5, .ref a6, .int 1, .ref a7])), (a2, .inl (cy 0, 41, .inl (upd (fun _ => 0) 0 0))), (a3, .inl (cy 0, 41, .inl (upd (fun _ => 0) 0 0)))]) hP hD [0, 1, 2, 3] [] rfl rfl (by decide) (by decide) hk1 hFc hP1 hD1
  clear hP1 hD1 hPc hDc hFc hk1 hz1
  generalize H1 = H at hP hS ⊢
  have hP : va_P D vwCl [(a0, .inr (8, [.ref a1, .int 0, .int 2, .int 0])), (a1, .inr (6, [.ref a4, .int 0, .ref a2, .ref a3, .ref a5, .ref a6, .int 1, .ref a7])), (a2, .inl (cy 0, 41, .inl (upd (fun _ => 0) 0 0))), (a3, .inl (cy 0, 41, .inl (upd (fun _ => 0) 0 0)))] H := hP
  have hD : va_D A [(a0, .inr (8, [.ref a1, .int 0, .int 2, .int 0])), (a1, .inr (6, [.ref a4, .int 0, .ref a2, .ref a3, .ref a5, .ref a6, .int 1, .ref a7])), (a2, .inl (cy 0, 41, .inl (upd (fun _ => 0) 0 0))), (a3, .inl (cy 0, 41, .inl (upd (fun _ => 0) 0 0)))] := hD
  refine W.widen (k := 0) (n := 0) (Nat.le_of_ble_eq_true rfl) (Nat.le_of_ble_eq_true rfl) ?_
  obtain rfl : r_2 = none := hw
  refine W.eq (g2 := F0 m 10 ls [.null]) rfl ?_
  refine W.widen (k := 0) (n := 0) (Nat.le_of_ble_eq_true rfl) (Nat.le_of_ble_eq_true rfl) ?_
  have hP9 := hP.sub (ws' := [(a0, .inr (8, [.ref a1, .int 0, .int 2, .int 0])), (a1, .inr (6, [.ref a4, .int 0, .ref a2, .ref a3, .ref a5, .ref a6, .int 1, .ref a7])), (a2, .inl (cy 0, 41, .inl (upd (fun _ => 0) 0 0))), (a3, .inl (cy 0, 41, .inl (upd (fun _ => 0) 0 0)))]) [0, 1, 2, 3] rfl
  have hD9 := hD.sub (ws' := [(a0, .inr (8, [.ref a1, .int 0, .int 2, .int 0])), (a1, .inr (6, [.ref a4, .int 0, .ref a2, .ref a3, .ref a5, .ref a6, .int 1, .ref a7])), (a2, .inl (cy 0, 41, .inl (upd (fun _ => 0) 0 0))), (a3, .inl (cy 0, 41, .inl (upd (fun _ => 0) 0 0)))]) [0, 1, 2, 3] (by decide) rfl
  exact W.aret (v := .null) hx hb hr (Or.inl ⟨_, rfl⟩) (Or.inl rfl) (fun t ht hW => ⟨⟨none, (), rfl, rfl, ⟨by rw [ht]; exact hP9, hD9⟩⟩, hS.F ht⟩) hS.2.2 dX6_level_10

def wq_X6_level_20 : List Cond := [.code yX6_level cX6_level 7 (some (.object "PhraseDesk$Node")), .methodLink RX6 59 yX6_level, .instanceMethod yX6_level, .selects RX6 yX6_level yX6_level, .initialized RX6, .methodLink RX6 71 yX6_sign, .instanceMethod yX6_sign, .selects RX6 yX6_sign yX6_sign, .code yX6_sign cX6_sign 4 (some (.object "PhraseDesk$Node")), .methodLink RX6 63 yX6_takes, .instanceMethod yX6_takes, .selects RX6 yX6_takes yX6_takes, .code yX6_takes cX6_takes 2 (some .boolean), .methodLink RX6 43 yX6_kind, .instanceMethod yX6_kind, .selects RX6 yX6_kind yX6_kind, .code yX6_kind cX6_kind 1 (some .int), .fieldLink RX6 12 "PhraseDesk$Parser" "lexer" "LPhraseDesk$Lexer;", .fieldLink RX6 18 "PhraseDesk$Parser" "at" "I", .methodLink RX6 136 yX4_kindAt, .instanceMethod yX4_kindAt, .selects RX4 yX4_kindAt yX4_kindAt, .initialized RX4, .code yX4_kindAt cX4_kindAt 2 (some .int), .fieldLink RX4 42 "PhraseDesk$Lexer" "count" "I", .fieldLink RX4 15 "PhraseDesk$Lexer" "kinds" "[I", .methodLink RX6 78 yX6_chain, .instanceMethod yX6_chain, .selects RX6 yX6_chain yX6_chain, .code yX6_chain cX6_chain 5 (some (.object "PhraseDesk$Node")), .methodLink RX6 81 yX6_first, .instanceMethod yX6_first, .selects RX6 yX6_first yX6_first, .code yX6_first cX6_first 2 (some (.object "PhraseDesk$Node")), .methodLink RX6 56 yX6_refuse, .instanceMethod yX6_refuse, .selects RX6 yX6_refuse yX6_refuse, .code yX6_refuse cX6_refuse 2 (some (.object "PhraseDesk$Node")), .fieldLink RX6 22 "PhraseDesk$Parser" "error" "I", .methodLink RX6 139 yX4_placeAt, .instanceMethod yX4_placeAt, .selects RX4 yX4_placeAt yX4_placeAt, .code yX4_placeAt cX4_placeAt 2 (some .int), .fieldLink RX4 19 "PhraseDesk$Lexer" "places" "[I", .fieldLink RX6 29 "PhraseDesk$Parser" "place" "I"]
def wq_X6_level_2 : List Cond := wq_X6_level_20 ++ wsX60 ++ wsX40
set_option maxHeartbeats 4000000 in
set_option maxRecDepth 100000 in
theorem C_X6_level_2 (l : Launch) (D : va_G) (cy : Nat → ClassId) (sz0 : Nat) (sa : Nat → Nat) (a0 a1 a2 a3 a4 a5 a6 a7 : Nat) (sz : Nat)  : Met l yX6_level wq_X6_level_2 ({ frames := 7, cells := 0, slots := 0, locals := 156 }) (PcW D cy sz0 sa [.ref a0, .int 4, .int 0] [(a0, .inr (8, [.ref a1, .int 0, .int 0, .int (-1)])), (a1, .inr (6, [.ref a4, .int 0, .ref a2, .ref a3, .ref a5, .ref a6, .int 1, .ref a7])), (a2, .inl (cy 0, 41, .inl (upd (fun _ => 0) 0 0))), (a3, .inl (cy 0, 41, .inl (upd (fun _ => 0) 0 0)))] sz) (va_Qq (fun (r : Option Nat) (u : Unit) => r = none) (fun (u : Unit) (t : State) => BW D [(a0, .inr (8, [.ref a1, .int 0, .int 2, .int 0])), (a1, .inr (6, [.ref a4, .int 0, .ref a2, .ref a3, .ref a5, .ref a6, .int 1, .ref a7])), (a2, .inl (cy 0, 41, .inl (upd (fun _ => 0) 0 0))), (a3, .inl (cy 0, 41, .inl (upd (fun _ => 0) 0 0)))] (va_A [(a0, .inr (8, [.ref a1, .int 0, .int 0, .int (-1)])), (a1, .inr (6, [.ref a4, .int 0, .ref a2, .ref a3, .ref a5, .ref a6, .int 1, .ref a7])), (a2, .inl (cy 0, 41, .inl (upd (fun _ => 0) 0 0))), (a3, .inl (cy 0, 41, .inl (upd (fun _ => 0) 0 0)))] sz) t) (va_A [(a0, .inr (8, [.ref a1, .int 0, .int 0, .int (-1)])), (a1, .inr (6, [.ref a4, .int 0, .ref a2, .ref a3, .ref a5, .ref a6, .int 1, .ref a7])), (a2, .inl (cy 0, 41, .inl (upd (fun _ => 0) 0 0))), (a3, .inl (cy 0, 41, .inl (upd (fun _ => 0) 0 0)))] sz)) 0 0 (va_A [(a0, .inr (8, [.ref a1, .int 0, .int 0, .int (-1)])), (a1, .inr (6, [.ref a4, .int 0, .ref a2, .ref a3, .ref a5, .ref a6, .int 1, .ref a7])), (a2, .inl (cy 0, 41, .inl (upd (fun _ => 0) 0 0))), (a3, .inl (cy 0, 41, .inl (upd (fun _ => 0) 0 0)))] sz) := by
  refine Met.ofW (cc := cX6_level) (maxL := 7) (ret := (some (.object "PhraseDesk$Node"))) (by decide) rfl ?_
  intro p e s m args below meth c s₁ B hml hv
  obtain ⟨rfl, hsz, hP, hD0, hE⟩ := hv
  have hx := B.exec
  have hb := B.bytes
  have hr := B.returns
  have hts := atoms_spec (ws := wq_X6_level_2) B.pre
  have hown : s.vm.findClass RX6 = some m.cls := findClass_of_methodNamed B.named
  have hlocks := B.notSynchronized
  subst hsz
  have hK := hE.1
  have hAm := hE.2.2.1
  have hWm := hE.2.2.2
  have hAO := hWm.2.2.2.1
  have hD := hD0.self (sz := s.heap.size)
  have hAF := frA hD0 hE.2.1
  generalize hAe : va_A [(a0, .inr (8, [.ref a1, .int 0, .int 0, .int (-1)])), (a1, .inr (6, [.ref a4, .int 0, .ref a2, .ref a3, .ref a5, .ref a6, .int 1, .ref a7])), (a2, .inl (cy 0, 41, .inl (upd (fun _ => 0) 0 0))), (a3, .inl (cy 0, 41, .inl (upd (fun _ => 0) 0 0)))] s.heap.size = A at hD hAF ⊢
  have hA : ∀ q : Nat, s.heap.size ≤ q → A q := fun q h => by rw [← hAe]; exact Or.inr h
  have hS : va_S A s.heap s.heap [] := va_S.rf
  have hl := lv_entry ([.ref a0, .int 4, .int 0]) (n := 7) (Nat.le_of_ble_eq_true rfl)
  rw [lg_entry_eq]
  generalize (lg_sl ([.ref a0, .int 4, .int 0]) ++ List.replicate (7 - (lg_sl ([.ref a0, .int 4, .int 0])).length) Slot.unset).toArray = ls at hl ⊢
  have hl : lv_has ls 7 [(0, .ref a0), (1, .int 4), (2, .int 0)] := hl
  have hP : va_P D vwCl [(a0, .inr (8, [.ref a1, .int 0, .int 0, .int (-1)])), (a1, .inr (6, [.ref a4, .int 0, .ref a2, .ref a3, .ref a5, .ref a6, .int 1, .ref a7])), (a2, .inl (cy 0, 41, .inl (upd (fun _ => 0) 0 0))), (a3, .inl (cy 0, 41, .inl (upd (fun _ => 0) 0 0)))] s.heap := hP
  refine lv_iload_n hx hb dX6_level_0 rfl (lv_at hl 1 rfl) ?_
  refine lv_iconst (v := 4) hx hb dX6_level_1 (by decide +kernel) ?_
  refine lv_icmp_le (tgt := 11) hx hb dX6_level_2 (by decide) (fun _ => ?_) (fun c1 => absurd (by decide +kernel) c1)
  refine lv_aload_n hx hb dX6_level_11 rfl (lv_at hl 0 rfl) ?_
  refine lv_iload_n hx hb dX6_level_12 rfl (lv_at hl 1 rfl) ?_
  refine lv_iconst (v := 1) hx hb dX6_level_13 (by decide +kernel) ?_
  refine lv_iadd hx hb dX6_level_14 ?_
  refine lv_topi (fun x2 ex2 => ?_)
  obtain rfl : x2 = 5 := ex2.trans (by decide +kernel)
  refine lv_iload_n hx hb dX6_level_15 rfl (lv_at hl 2 rfl) ?_
  have hPc := hP.sub (ws' := [(a0, .inr (8, [.ref a1, .int 0, .int 0, .int (-1)])), (a1, .inr (6, [.ref a4, .int 0, .ref a2, .ref a3, .ref a5, .ref a6, .int 1, .ref a7])), (a2, .inl (cy 0, 41, .inl (upd (fun _ => 0) 0 0))), (a3, .inl (cy 0, 41, .inl (upd (fun _ => 0) 0 0)))]) [0, 1, 2, 3] rfl
  have hDc := hD.sub (ws' := [(a0, .inr (8, [.ref a1, .int 0, .int 0, .int (-1)])), (a1, .inr (6, [.ref a4, .int 0, .ref a2, .ref a3, .ref a5, .ref a6, .int 1, .ref a7])), (a2, .inl (cy 0, 41, .inl (upd (fun _ => 0) 0 0))), (a3, .inl (cy 0, 41, .inl (upd (fun _ => 0) 0 0)))]) [0, 1, 2, 3] (by decide) rfl
  have hFc := va_free (wc := [(a0, .inr (8, [.ref a1, .int 0, .int 0, .int (-1)])), (a1, .inr (6, [.ref a4, .int 0, .ref a2, .ref a3, .ref a5, .ref a6, .int 1, .ref a7])), (a2, .inl (cy 0, 41, .inl (upd (fun _ => 0) 0 0))), (a3, .inl (cy 0, 41, .inl (upd (fun _ => 0) 0 0)))]) hD hS hA [0, 1, 2, 3] rfl
  refine va_callq (va_runV (As := [.int 5, .int 0]) (rest := []) ⟨hx, hb, hml, hown, hts⟩ (C_X6_level_1 l D cy sz0 sa a0 a1 a2 a3 a4 a5 a6 a7 s.heap.size) (cwV 2 hts (goodIn_app (goodIn_r _ [1, 2, 3, 4] rfl (by decide +kernel)) (goodIn_app (goodIn_app (goodIn_r wq_X6_level_10 [0, 5, 6, 7, 4, 8, 9, 10, 11, 12, 13, 14, 15, 16, 17, 18, 19, 20, 21, 22, 23, 24, 25, 26, 27, 28, 29, 30, 31, 32, 33, 34, 35, 36, 37, 38, 39, 40, 41, 42, 43, 44] rfl (by decide +kernel)) (goodIn_sub (fun _ h => (List.mem_append_left _ (List.mem_append_right _ h))) (by decide +kernel))) (goodIn_sub (fun _ h => (List.mem_append_right _ h)) (by decide +kernel)))) rfl rfl rfl (by decide +kernel) ⟨Nat.le_of_ble_eq_true rfl, Nat.le_of_ble_eq_true rfl⟩) ⟨PcW.blind, va_recv hK hPc (ci := 8) (q0 := 0) rfl rfl, PcW.mk hE hS hAF hPc hDc⟩ rfl rfl hl.1 rfl (lv_room (Nat.le_of_ble_eq_true rfl)) dX6_level_16 ⟨Nat.le_of_ble_eq_true rfl, Nat.le_of_ble_eq_true rfl⟩) hS (fun q _ h => hFc q h) hFc (fun r_3 u t H1 locs ht hvm hw hB hz1 hk1 hS => ?_)
  obtain ⟨hP1, hD1⟩ := hB
  rw [ht] at hP1
  have hP1 : va_P D vwCl [(a0, .inr (8, [.ref a1, .int 0, .int 2, .int 0])), (a1, .inr (6, [.ref a4, .int 0, .ref a2, .ref a3, .ref a5, .ref a6, .int 1, .ref a7])), (a2, .inl (cy 0, 41, .inl (upd (fun _ => 0) 0 0))), (a3, .inl (cy 0, 41, .inl (upd (fun _ => 0) 0 0)))] H1 := hP1
  obtain ⟨hP, hD⟩ := va_join (wr := []) (w1 := [(a0, .inr (8, [.ref a1, .int 0, .int 2, .int 0])), (a1, .inr (6, [.ref a4, .int 0, .ref a2, .ref a3, .ref a5, .ref a6, .int 1, .ref a7])), (a2, .inl (cy 0, 41, .inl (upd (fun _ => 0) 0 0))), (a3, .inl (cy 0, 41, .inl (upd (fun _ => 0) 0 0)))]) hP hD [0, 1, 2, 3] [] rfl rfl (by decide) (by decide) hk1 hFc hP1 hD1
  clear hP1 hD1 hPc hDc hFc hk1 hz1
  generalize H1 = H at hP hS ⊢
  have hP : va_P D vwCl [(a0, .inr (8, [.ref a1, .int 0, .int 2, .int 0])), (a1, .inr (6, [.ref a4, .int 0, .ref a2, .ref a3, .ref a5, .ref a6, .int 1, .ref a7])), (a2, .inl (cy 0, 41, .inl (upd (fun _ => 0) 0 0))), (a3, .inl (cy 0, 41, .inl (upd (fun _ => 0) 0 0)))] H := hP
  have hD : va_D A [(a0, .inr (8, [.ref a1, .int 0, .int 2, .int 0])), (a1, .inr (6, [.ref a4, .int 0, .ref a2, .ref a3, .ref a5, .ref a6, .int 1, .ref a7])), (a2, .inl (cy 0, 41, .inl (upd (fun _ => 0) 0 0))), (a3, .inl (cy 0, 41, .inl (upd (fun _ => 0) 0 0)))] := hD
  refine W.widen (k := 0) (n := 0) (Nat.le_of_ble_eq_true rfl) (Nat.le_of_ble_eq_true rfl) ?_
  obtain rfl : r_3 = none := hw
  refine W.eq (g2 := F0 m 19 ls [.null]) rfl ?_
  refine lv_astore_nN (lv' := [(3, .null), (0, .ref a0), (1, .int 4), (2, .int 0)]) hx hb dX6_level_19 rfl hl (by decide) rfl (fun ls hl => ?_)
  refine lv_iconst (v := 0) hx hb dX6_level_20 (by decide +kernel) ?_
  refine lv_istore (lv' := [(4, .int 0), (3, .null), (0, .ref a0), (1, .int 4), (2, .int 0)]) hx hb dX6_level_21 hl (by decide) rfl (fun ls hl => ?_)
  refine lv_iload hx hb dX6_level_23 (lv_at hl 0 rfl) ?_
  refine lv_bipush (v := 40) hx hb dX6_level_25 (by decide +kernel) ?_
  refine lv_icmp_ge (tgt := 104) hx hb dX6_level_27 (by decide) (fun c4 => absurd c4 (by decide +kernel)) (fun _ => ?_)
  refine lv_aload_nN hx hb dX6_level_30 rfl (lv_at hl 1 rfl) ?_
  refine lv_ifnullN (tgt := 104) hx hb dX6_level_31 (by decide) ?_
  refine lv_aload_nN hx hb dX6_level_104 rfl (lv_at hl 1 rfl) ?_
  refine W.widen (k := 0) (n := 0) (Nat.le_of_ble_eq_true rfl) (Nat.le_of_ble_eq_true rfl) ?_
  have hP9 := hP.sub (ws' := [(a0, .inr (8, [.ref a1, .int 0, .int 2, .int 0])), (a1, .inr (6, [.ref a4, .int 0, .ref a2, .ref a3, .ref a5, .ref a6, .int 1, .ref a7])), (a2, .inl (cy 0, 41, .inl (upd (fun _ => 0) 0 0))), (a3, .inl (cy 0, 41, .inl (upd (fun _ => 0) 0 0)))]) [0, 1, 2, 3] rfl
  have hD9 := hD.sub (ws' := [(a0, .inr (8, [.ref a1, .int 0, .int 2, .int 0])), (a1, .inr (6, [.ref a4, .int 0, .ref a2, .ref a3, .ref a5, .ref a6, .int 1, .ref a7])), (a2, .inl (cy 0, 41, .inl (upd (fun _ => 0) 0 0))), (a3, .inl (cy 0, 41, .inl (upd (fun _ => 0) 0 0)))]) [0, 1, 2, 3] (by decide) rfl
  exact W.aret (v := .null) hx hb hr (Or.inl ⟨_, rfl⟩) (Or.inl rfl) (fun t ht hW => ⟨⟨none, (), rfl, rfl, ⟨by rw [ht]; exact hP9, hD9⟩⟩, hS.F ht⟩) hS.2.2 dX6_level_105

def wq_X6_level_30 : List Cond := [.code yX6_level cX6_level 7 (some (.object "PhraseDesk$Node")), .methodLink RX6 59 yX6_level, .instanceMethod yX6_level, .selects RX6 yX6_level yX6_level, .initialized RX6, .methodLink RX6 71 yX6_sign, .instanceMethod yX6_sign, .selects RX6 yX6_sign yX6_sign, .code yX6_sign cX6_sign 4 (some (.object "PhraseDesk$Node")), .methodLink RX6 63 yX6_takes, .instanceMethod yX6_takes, .selects RX6 yX6_takes yX6_takes, .code yX6_takes cX6_takes 2 (some .boolean), .methodLink RX6 43 yX6_kind, .instanceMethod yX6_kind, .selects RX6 yX6_kind yX6_kind, .code yX6_kind cX6_kind 1 (some .int), .fieldLink RX6 12 "PhraseDesk$Parser" "lexer" "LPhraseDesk$Lexer;", .fieldLink RX6 18 "PhraseDesk$Parser" "at" "I", .methodLink RX6 136 yX4_kindAt, .instanceMethod yX4_kindAt, .selects RX4 yX4_kindAt yX4_kindAt, .initialized RX4, .code yX4_kindAt cX4_kindAt 2 (some .int), .fieldLink RX4 42 "PhraseDesk$Lexer" "count" "I", .fieldLink RX4 15 "PhraseDesk$Lexer" "kinds" "[I", .methodLink RX6 78 yX6_chain, .instanceMethod yX6_chain, .selects RX6 yX6_chain yX6_chain, .code yX6_chain cX6_chain 5 (some (.object "PhraseDesk$Node")), .methodLink RX6 81 yX6_first, .instanceMethod yX6_first, .selects RX6 yX6_first yX6_first, .code yX6_first cX6_first 2 (some (.object "PhraseDesk$Node")), .methodLink RX6 56 yX6_refuse, .instanceMethod yX6_refuse, .selects RX6 yX6_refuse yX6_refuse, .code yX6_refuse cX6_refuse 2 (some (.object "PhraseDesk$Node")), .fieldLink RX6 22 "PhraseDesk$Parser" "error" "I", .methodLink RX6 139 yX4_placeAt, .instanceMethod yX4_placeAt, .selects RX4 yX4_placeAt yX4_placeAt, .code yX4_placeAt cX4_placeAt 2 (some .int), .fieldLink RX4 19 "PhraseDesk$Lexer" "places" "[I", .fieldLink RX6 29 "PhraseDesk$Parser" "place" "I"]
def wq_X6_level_3 : List Cond := wq_X6_level_30 ++ wsX60 ++ wsX40
set_option maxHeartbeats 4000000 in
set_option maxRecDepth 100000 in
theorem C_X6_level_3 (l : Launch) (D : va_G) (cy : Nat → ClassId) (sz0 : Nat) (sa : Nat → Nat) (a0 a1 a2 a3 a4 a5 a6 a7 : Nat) (sz : Nat)  : Met l yX6_level wq_X6_level_3 ({ frames := 8, cells := 0, slots := 0, locals := 182 }) (PcW D cy sz0 sa [.ref a0, .int 3, .int 0] [(a0, .inr (8, [.ref a1, .int 0, .int 0, .int (-1)])), (a1, .inr (6, [.ref a4, .int 0, .ref a2, .ref a3, .ref a5, .ref a6, .int 1, .ref a7])), (a2, .inl (cy 0, 41, .inl (upd (fun _ => 0) 0 0))), (a3, .inl (cy 0, 41, .inl (upd (fun _ => 0) 0 0)))] sz) (va_Qq (fun (r : Option Nat) (u : Unit) => r = none) (fun (u : Unit) (t : State) => BW D [(a0, .inr (8, [.ref a1, .int 0, .int 2, .int 0])), (a1, .inr (6, [.ref a4, .int 0, .ref a2, .ref a3, .ref a5, .ref a6, .int 1, .ref a7])), (a2, .inl (cy 0, 41, .inl (upd (fun _ => 0) 0 0))), (a3, .inl (cy 0, 41, .inl (upd (fun _ => 0) 0 0)))] (va_A [(a0, .inr (8, [.ref a1, .int 0, .int 0, .int (-1)])), (a1, .inr (6, [.ref a4, .int 0, .ref a2, .ref a3, .ref a5, .ref a6, .int 1, .ref a7])), (a2, .inl (cy 0, 41, .inl (upd (fun _ => 0) 0 0))), (a3, .inl (cy 0, 41, .inl (upd (fun _ => 0) 0 0)))] sz) t) (va_A [(a0, .inr (8, [.ref a1, .int 0, .int 0, .int (-1)])), (a1, .inr (6, [.ref a4, .int 0, .ref a2, .ref a3, .ref a5, .ref a6, .int 1, .ref a7])), (a2, .inl (cy 0, 41, .inl (upd (fun _ => 0) 0 0))), (a3, .inl (cy 0, 41, .inl (upd (fun _ => 0) 0 0)))] sz)) 0 0 (va_A [(a0, .inr (8, [.ref a1, .int 0, .int 0, .int (-1)])), (a1, .inr (6, [.ref a4, .int 0, .ref a2, .ref a3, .ref a5, .ref a6, .int 1, .ref a7])), (a2, .inl (cy 0, 41, .inl (upd (fun _ => 0) 0 0))), (a3, .inl (cy 0, 41, .inl (upd (fun _ => 0) 0 0)))] sz) := by
  refine Met.ofW (cc := cX6_level) (maxL := 7) (ret := (some (.object "PhraseDesk$Node"))) (by decide) rfl ?_
  intro p e s m args below meth c s₁ B hml hv
  obtain ⟨rfl, hsz, hP, hD0, hE⟩ := hv
  have hx := B.exec
  have hb := B.bytes
  have hr := B.returns
  have hts := atoms_spec (ws := wq_X6_level_3) B.pre
  have hown : s.vm.findClass RX6 = some m.cls := findClass_of_methodNamed B.named
  have hlocks := B.notSynchronized
  subst hsz
  have hK := hE.1
  have hAm := hE.2.2.1
  have hWm := hE.2.2.2
  have hAO := hWm.2.2.2.1
  have hD := hD0.self (sz := s.heap.size)
  have hAF := frA hD0 hE.2.1
  generalize hAe : va_A [(a0, .inr (8, [.ref a1, .int 0, .int 0, .int (-1)])), (a1, .inr (6, [.ref a4, .int 0, .ref a2, .ref a3, .ref a5, .ref a6, .int 1, .ref a7])), (a2, .inl (cy 0, 41, .inl (upd (fun _ => 0) 0 0))), (a3, .inl (cy 0, 41, .inl (upd (fun _ => 0) 0 0)))] s.heap.size = A at hD hAF ⊢
  have hA : ∀ q : Nat, s.heap.size ≤ q → A q := fun q h => by rw [← hAe]; exact Or.inr h
  have hS : va_S A s.heap s.heap [] := va_S.rf
  have hl := lv_entry ([.ref a0, .int 3, .int 0]) (n := 7) (Nat.le_of_ble_eq_true rfl)
  rw [lg_entry_eq]
  generalize (lg_sl ([.ref a0, .int 3, .int 0]) ++ List.replicate (7 - (lg_sl ([.ref a0, .int 3, .int 0])).length) Slot.unset).toArray = ls at hl ⊢
  have hl : lv_has ls 7 [(0, .ref a0), (1, .int 3), (2, .int 0)] := hl
  have hP : va_P D vwCl [(a0, .inr (8, [.ref a1, .int 0, .int 0, .int (-1)])), (a1, .inr (6, [.ref a4, .int 0, .ref a2, .ref a3, .ref a5, .ref a6, .int 1, .ref a7])), (a2, .inl (cy 0, 41, .inl (upd (fun _ => 0) 0 0))), (a3, .inl (cy 0, 41, .inl (upd (fun _ => 0) 0 0)))] s.heap := hP
  refine lv_iload_n hx hb dX6_level_0 rfl (lv_at hl 1 rfl) ?_
  refine lv_iconst (v := 4) hx hb dX6_level_1 (by decide +kernel) ?_
  refine lv_icmp_le (tgt := 11) hx hb dX6_level_2 (by decide) (fun _ => ?_) (fun c1 => absurd (by decide +kernel) c1)
  refine lv_aload_n hx hb dX6_level_11 rfl (lv_at hl 0 rfl) ?_
  refine lv_iload_n hx hb dX6_level_12 rfl (lv_at hl 1 rfl) ?_
  refine lv_iconst (v := 1) hx hb dX6_level_13 (by decide +kernel) ?_
  refine lv_iadd hx hb dX6_level_14 ?_
  refine lv_topi (fun x2 ex2 => ?_)
  obtain rfl : x2 = 4 := ex2.trans (by decide +kernel)
  refine lv_iload_n hx hb dX6_level_15 rfl (lv_at hl 2 rfl) ?_
  have hPc := hP.sub (ws' := [(a0, .inr (8, [.ref a1, .int 0, .int 0, .int (-1)])), (a1, .inr (6, [.ref a4, .int 0, .ref a2, .ref a3, .ref a5, .ref a6, .int 1, .ref a7])), (a2, .inl (cy 0, 41, .inl (upd (fun _ => 0) 0 0))), (a3, .inl (cy 0, 41, .inl (upd (fun _ => 0) 0 0)))]) [0, 1, 2, 3] rfl
  have hDc := hD.sub (ws' := [(a0, .inr (8, [.ref a1, .int 0, .int 0, .int (-1)])), (a1, .inr (6, [.ref a4, .int 0, .ref a2, .ref a3, .ref a5, .ref a6, .int 1, .ref a7])), (a2, .inl (cy 0, 41, .inl (upd (fun _ => 0) 0 0))), (a3, .inl (cy 0, 41, .inl (upd (fun _ => 0) 0 0)))]) [0, 1, 2, 3] (by decide) rfl
  have hFc := va_free (wc := [(a0, .inr (8, [.ref a1, .int 0, .int 0, .int (-1)])), (a1, .inr (6, [.ref a4, .int 0, .ref a2, .ref a3, .ref a5, .ref a6, .int 1, .ref a7])), (a2, .inl (cy 0, 41, .inl (upd (fun _ => 0) 0 0))), (a3, .inl (cy 0, 41, .inl (upd (fun _ => 0) 0 0)))]) hD hS hA [0, 1, 2, 3] rfl
  refine va_callq (va_runV (As := [.int 4, .int 0]) (rest := []) ⟨hx, hb, hml, hown, hts⟩ (C_X6_level_2 l D cy sz0 sa a0 a1 a2 a3 a4 a5 a6 a7 s.heap.size) (cwV 2 hts (goodIn_app (goodIn_r _ [1, 2, 3, 4] rfl (by decide +kernel)) (goodIn_app (goodIn_app (goodIn_r wq_X6_level_20 [0, 1, 2, 3, 4, 5, 6, 7, 8, 9, 10, 11, 12, 13, 14, 15, 16, 17, 18, 19, 20, 21, 22, 23, 24, 25, 26, 27, 28, 29, 30, 31, 32, 33, 34, 35, 36, 37, 38, 39, 40, 41, 42, 43, 44] rfl (by decide +kernel)) (goodIn_sub (fun _ h => (List.mem_append_left _ (List.mem_append_right _ h))) (by decide +kernel))) (goodIn_sub (fun _ h => (List.mem_append_right _ h)) (by decide +kernel)))) rfl rfl rfl (by decide +kernel) ⟨Nat.le_of_ble_eq_true rfl, Nat.le_of_ble_eq_true rfl⟩) ⟨PcW.blind, va_recv hK hPc (ci := 8) (q0 := 0) rfl rfl, PcW.mk hE hS hAF hPc hDc⟩ rfl rfl hl.1 rfl (lv_room (Nat.le_of_ble_eq_true rfl)) dX6_level_16 ⟨Nat.le_of_ble_eq_true rfl, Nat.le_of_ble_eq_true rfl⟩) hS (fun q _ h => hFc q h) hFc (fun r_3 u t H1 locs ht hvm hw hB hz1 hk1 hS => ?_)
  obtain ⟨hP1, hD1⟩ := hB
  rw [ht] at hP1
  have hP1 : va_P D vwCl [(a0, .inr (8, [.ref a1, .int 0, .int 2, .int 0])), (a1, .inr (6, [.ref a4, .int 0, .ref a2, .ref a3, .ref a5, .ref a6, .int 1, .ref a7])), (a2, .inl (cy 0, 41, .inl (upd (fun _ => 0) 0 0))), (a3, .inl (cy 0, 41, .inl (upd (fun _ => 0) 0 0)))] H1 := hP1
  obtain ⟨hP, hD⟩ := va_join (wr := []) (w1 := [(a0, .inr (8, [.ref a1, .int 0, .int 2, .int 0])), (a1, .inr (6, [.ref a4, .int 0, .ref a2, .ref a3, .ref a5, .ref a6, .int 1, .ref a7])), (a2, .inl (cy 0, 41, .inl (upd (fun _ => 0) 0 0))), (a3, .inl (cy 0, 41, .inl (upd (fun _ => 0) 0 0)))]) hP hD [0, 1, 2, 3] [] rfl rfl (by decide) (by decide) hk1 hFc hP1 hD1
  clear hP1 hD1 hPc hDc hFc hk1 hz1
  generalize H1 = H at hP hS ⊢
  have hP : va_P D vwCl [(a0, .inr (8, [.ref a1, .int 0, .int 2, .int 0])), (a1, .inr (6, [.ref a4, .int 0, .ref a2, .ref a3, .ref a5, .ref a6, .int 1, .ref a7])), (a2, .inl (cy 0, 41, .inl (upd (fun _ => 0) 0 0))), (a3, .inl (cy 0, 41, .inl (upd (fun _ => 0) 0 0)))] H := hP
  have hD : va_D A [(a0, .inr (8, [.ref a1, .int 0, .int 2, .int 0])), (a1, .inr (6, [.ref a4, .int 0, .ref a2, .ref a3, .ref a5, .ref a6, .int 1, .ref a7])), (a2, .inl (cy 0, 41, .inl (upd (fun _ => 0) 0 0))), (a3, .inl (cy 0, 41, .inl (upd (fun _ => 0) 0 0)))] := hD
  refine W.widen (k := 0) (n := 0) (Nat.le_of_ble_eq_true rfl) (Nat.le_of_ble_eq_true rfl) ?_
  obtain rfl : r_3 = none := hw
  refine W.eq (g2 := F0 m 19 ls [.null]) rfl ?_
  refine lv_astore_nN (lv' := [(3, .null), (0, .ref a0), (1, .int 3), (2, .int 0)]) hx hb dX6_level_19 rfl hl (by decide) rfl (fun ls hl => ?_)
  refine lv_iconst (v := 0) hx hb dX6_level_20 (by decide +kernel) ?_
  refine lv_istore (lv' := [(4, .int 0), (3, .null), (0, .ref a0), (1, .int 3), (2, .int 0)]) hx hb dX6_level_21 hl (by decide) rfl (fun ls hl => ?_)
  refine lv_iload hx hb dX6_level_23 (lv_at hl 0 rfl) ?_
  refine lv_bipush (v := 40) hx hb dX6_level_25 (by decide +kernel) ?_
  refine lv_icmp_ge (tgt := 104) hx hb dX6_level_27 (by decide) (fun c4 => absurd c4 (by decide +kernel)) (fun _ => ?_)
  refine lv_aload_nN hx hb dX6_level_30 rfl (lv_at hl 1 rfl) ?_
  refine lv_ifnullN (tgt := 104) hx hb dX6_level_31 (by decide) ?_
  refine lv_aload_nN hx hb dX6_level_104 rfl (lv_at hl 1 rfl) ?_
  refine W.widen (k := 0) (n := 0) (Nat.le_of_ble_eq_true rfl) (Nat.le_of_ble_eq_true rfl) ?_
  have hP9 := hP.sub (ws' := [(a0, .inr (8, [.ref a1, .int 0, .int 2, .int 0])), (a1, .inr (6, [.ref a4, .int 0, .ref a2, .ref a3, .ref a5, .ref a6, .int 1, .ref a7])), (a2, .inl (cy 0, 41, .inl (upd (fun _ => 0) 0 0))), (a3, .inl (cy 0, 41, .inl (upd (fun _ => 0) 0 0)))]) [0, 1, 2, 3] rfl
  have hD9 := hD.sub (ws' := [(a0, .inr (8, [.ref a1, .int 0, .int 2, .int 0])), (a1, .inr (6, [.ref a4, .int 0, .ref a2, .ref a3, .ref a5, .ref a6, .int 1, .ref a7])), (a2, .inl (cy 0, 41, .inl (upd (fun _ => 0) 0 0))), (a3, .inl (cy 0, 41, .inl (upd (fun _ => 0) 0 0)))]) [0, 1, 2, 3] (by decide) rfl
  exact W.aret (v := .null) hx hb hr (Or.inl ⟨_, rfl⟩) (Or.inl rfl) (fun t ht hW => ⟨⟨none, (), rfl, rfl, ⟨by rw [ht]; exact hP9, hD9⟩⟩, hS.F ht⟩) hS.2.2 dX6_level_105

def wq_X6_level_40 : List Cond := [.code yX6_level cX6_level 7 (some (.object "PhraseDesk$Node")), .methodLink RX6 59 yX6_level, .instanceMethod yX6_level, .selects RX6 yX6_level yX6_level, .initialized RX6, .methodLink RX6 71 yX6_sign, .instanceMethod yX6_sign, .selects RX6 yX6_sign yX6_sign, .code yX6_sign cX6_sign 4 (some (.object "PhraseDesk$Node")), .methodLink RX6 63 yX6_takes, .instanceMethod yX6_takes, .selects RX6 yX6_takes yX6_takes, .code yX6_takes cX6_takes 2 (some .boolean), .methodLink RX6 43 yX6_kind, .instanceMethod yX6_kind, .selects RX6 yX6_kind yX6_kind, .code yX6_kind cX6_kind 1 (some .int), .fieldLink RX6 12 "PhraseDesk$Parser" "lexer" "LPhraseDesk$Lexer;", .fieldLink RX6 18 "PhraseDesk$Parser" "at" "I", .methodLink RX6 136 yX4_kindAt, .instanceMethod yX4_kindAt, .selects RX4 yX4_kindAt yX4_kindAt, .initialized RX4, .code yX4_kindAt cX4_kindAt 2 (some .int), .fieldLink RX4 42 "PhraseDesk$Lexer" "count" "I", .fieldLink RX4 15 "PhraseDesk$Lexer" "kinds" "[I", .methodLink RX6 78 yX6_chain, .instanceMethod yX6_chain, .selects RX6 yX6_chain yX6_chain, .code yX6_chain cX6_chain 5 (some (.object "PhraseDesk$Node")), .methodLink RX6 81 yX6_first, .instanceMethod yX6_first, .selects RX6 yX6_first yX6_first, .code yX6_first cX6_first 2 (some (.object "PhraseDesk$Node")), .methodLink RX6 56 yX6_refuse, .instanceMethod yX6_refuse, .selects RX6 yX6_refuse yX6_refuse, .code yX6_refuse cX6_refuse 2 (some (.object "PhraseDesk$Node")), .fieldLink RX6 22 "PhraseDesk$Parser" "error" "I", .methodLink RX6 139 yX4_placeAt, .instanceMethod yX4_placeAt, .selects RX4 yX4_placeAt yX4_placeAt, .code yX4_placeAt cX4_placeAt 2 (some .int), .fieldLink RX4 19 "PhraseDesk$Lexer" "places" "[I", .fieldLink RX6 29 "PhraseDesk$Parser" "place" "I"]
def wq_X6_level_4 : List Cond := wq_X6_level_40 ++ wsX60 ++ wsX40
set_option maxHeartbeats 4000000 in
set_option maxRecDepth 100000 in
theorem C_X6_level_4 (l : Launch) (D : va_G) (cy : Nat → ClassId) (sz0 : Nat) (sa : Nat → Nat) (a0 a1 a2 a3 a4 a5 a6 a7 : Nat) (sz : Nat)  : Met l yX6_level wq_X6_level_4 ({ frames := 9, cells := 0, slots := 0, locals := 208 }) (PcW D cy sz0 sa [.ref a0, .int 2, .int 0] [(a0, .inr (8, [.ref a1, .int 0, .int 0, .int (-1)])), (a1, .inr (6, [.ref a4, .int 0, .ref a2, .ref a3, .ref a5, .ref a6, .int 1, .ref a7])), (a2, .inl (cy 0, 41, .inl (upd (fun _ => 0) 0 0))), (a3, .inl (cy 0, 41, .inl (upd (fun _ => 0) 0 0)))] sz) (va_Qq (fun (r : Option Nat) (u : Unit) => r = none) (fun (u : Unit) (t : State) => BW D [(a0, .inr (8, [.ref a1, .int 0, .int 2, .int 0])), (a1, .inr (6, [.ref a4, .int 0, .ref a2, .ref a3, .ref a5, .ref a6, .int 1, .ref a7])), (a2, .inl (cy 0, 41, .inl (upd (fun _ => 0) 0 0))), (a3, .inl (cy 0, 41, .inl (upd (fun _ => 0) 0 0)))] (va_A [(a0, .inr (8, [.ref a1, .int 0, .int 0, .int (-1)])), (a1, .inr (6, [.ref a4, .int 0, .ref a2, .ref a3, .ref a5, .ref a6, .int 1, .ref a7])), (a2, .inl (cy 0, 41, .inl (upd (fun _ => 0) 0 0))), (a3, .inl (cy 0, 41, .inl (upd (fun _ => 0) 0 0)))] sz) t) (va_A [(a0, .inr (8, [.ref a1, .int 0, .int 0, .int (-1)])), (a1, .inr (6, [.ref a4, .int 0, .ref a2, .ref a3, .ref a5, .ref a6, .int 1, .ref a7])), (a2, .inl (cy 0, 41, .inl (upd (fun _ => 0) 0 0))), (a3, .inl (cy 0, 41, .inl (upd (fun _ => 0) 0 0)))] sz)) 0 0 (va_A [(a0, .inr (8, [.ref a1, .int 0, .int 0, .int (-1)])), (a1, .inr (6, [.ref a4, .int 0, .ref a2, .ref a3, .ref a5, .ref a6, .int 1, .ref a7])), (a2, .inl (cy 0, 41, .inl (upd (fun _ => 0) 0 0))), (a3, .inl (cy 0, 41, .inl (upd (fun _ => 0) 0 0)))] sz) := by
  refine Met.ofW (cc := cX6_level) (maxL := 7) (ret := (some (.object "PhraseDesk$Node"))) (by decide) rfl ?_
  intro p e s m args below meth c s₁ B hml hv
  obtain ⟨rfl, hsz, hP, hD0, hE⟩ := hv
  have hx := B.exec
  have hb := B.bytes
  have hr := B.returns
  have hts := atoms_spec (ws := wq_X6_level_4) B.pre
  have hown : s.vm.findClass RX6 = some m.cls := findClass_of_methodNamed B.named
  have hlocks := B.notSynchronized
  subst hsz
  have hK := hE.1
  have hAm := hE.2.2.1
  have hWm := hE.2.2.2
  have hAO := hWm.2.2.2.1
  have hD := hD0.self (sz := s.heap.size)
  have hAF := frA hD0 hE.2.1
  generalize hAe : va_A [(a0, .inr (8, [.ref a1, .int 0, .int 0, .int (-1)])), (a1, .inr (6, [.ref a4, .int 0, .ref a2, .ref a3, .ref a5, .ref a6, .int 1, .ref a7])), (a2, .inl (cy 0, 41, .inl (upd (fun _ => 0) 0 0))), (a3, .inl (cy 0, 41, .inl (upd (fun _ => 0) 0 0)))] s.heap.size = A at hD hAF ⊢
  have hA : ∀ q : Nat, s.heap.size ≤ q → A q := fun q h => by rw [← hAe]; exact Or.inr h
  have hS : va_S A s.heap s.heap [] := va_S.rf
  have hl := lv_entry ([.ref a0, .int 2, .int 0]) (n := 7) (Nat.le_of_ble_eq_true rfl)
  rw [lg_entry_eq]
  generalize (lg_sl ([.ref a0, .int 2, .int 0]) ++ List.replicate (7 - (lg_sl ([.ref a0, .int 2, .int 0])).length) Slot.unset).toArray = ls at hl ⊢
  have hl : lv_has ls 7 [(0, .ref a0), (1, .int 2), (2, .int 0)] := hl
  have hP : va_P D vwCl [(a0, .inr (8, [.ref a1, .int 0, .int 0, .int (-1)])), (a1, .inr (6, [.ref a4, .int 0, .ref a2, .ref a3, .ref a5, .ref a6, .int 1, .ref a7])), (a2, .inl (cy 0, 41, .inl (upd (fun _ => 0) 0 0))), (a3, .inl (cy 0, 41, .inl (upd (fun _ => 0) 0 0)))] s.heap := hP
  refine lv_iload_n hx hb dX6_level_0 rfl (lv_at hl 1 rfl) ?_
  refine lv_iconst (v := 4) hx hb dX6_level_1 (by decide +kernel) ?_
  refine lv_icmp_le (tgt := 11) hx hb dX6_level_2 (by decide) (fun _ => ?_) (fun c1 => absurd (by decide +kernel) c1)
  refine lv_aload_n hx hb dX6_level_11 rfl (lv_at hl 0 rfl) ?_
  refine lv_iload_n hx hb dX6_level_12 rfl (lv_at hl 1 rfl) ?_
  refine lv_iconst (v := 1) hx hb dX6_level_13 (by decide +kernel) ?_
  refine lv_iadd hx hb dX6_level_14 ?_
  refine lv_topi (fun x2 ex2 => ?_)
  obtain rfl : x2 = 3 := ex2.trans (by decide +kernel)
  refine lv_iload_n hx hb dX6_level_15 rfl (lv_at hl 2 rfl) ?_
  have hPc := hP.sub (ws' := [(a0, .inr (8, [.ref a1, .int 0, .int 0, .int (-1)])), (a1, .inr (6, [.ref a4, .int 0, .ref a2, .ref a3, .ref a5, .ref a6, .int 1, .ref a7])), (a2, .inl (cy 0, 41, .inl (upd (fun _ => 0) 0 0))), (a3, .inl (cy 0, 41, .inl (upd (fun _ => 0) 0 0)))]) [0, 1, 2, 3] rfl
  have hDc := hD.sub (ws' := [(a0, .inr (8, [.ref a1, .int 0, .int 0, .int (-1)])), (a1, .inr (6, [.ref a4, .int 0, .ref a2, .ref a3, .ref a5, .ref a6, .int 1, .ref a7])), (a2, .inl (cy 0, 41, .inl (upd (fun _ => 0) 0 0))), (a3, .inl (cy 0, 41, .inl (upd (fun _ => 0) 0 0)))]) [0, 1, 2, 3] (by decide) rfl
  have hFc := va_free (wc := [(a0, .inr (8, [.ref a1, .int 0, .int 0, .int (-1)])), (a1, .inr (6, [.ref a4, .int 0, .ref a2, .ref a3, .ref a5, .ref a6, .int 1, .ref a7])), (a2, .inl (cy 0, 41, .inl (upd (fun _ => 0) 0 0))), (a3, .inl (cy 0, 41, .inl (upd (fun _ => 0) 0 0)))]) hD hS hA [0, 1, 2, 3] rfl
  refine va_callq (va_runV (As := [.int 3, .int 0]) (rest := []) ⟨hx, hb, hml, hown, hts⟩ (C_X6_level_3 l D cy sz0 sa a0 a1 a2 a3 a4 a5 a6 a7 s.heap.size) (cwV 2 hts (goodIn_app (goodIn_r _ [1, 2, 3, 4] rfl (by decide +kernel)) (goodIn_app (goodIn_app (goodIn_r wq_X6_level_30 [0, 1, 2, 3, 4, 5, 6, 7, 8, 9, 10, 11, 12, 13, 14, 15, 16, 17, 18, 19, 20, 21, 22, 23, 24, 25, 26, 27, 28, 29, 30, 31, 32, 33, 34, 35, 36, 37, 38, 39, 40, 41, 42, 43, 44] rfl (by decide +kernel)) (goodIn_sub (fun _ h => (List.mem_append_left _ (List.mem_append_right _ h))) (by decide +kernel))) (goodIn_sub (fun _ h => (List.mem_append_right _ h)) (by decide +kernel)))) rfl rfl rfl (by decide +kernel) ⟨Nat.le_of_ble_eq_true rfl, Nat.le_of_ble_eq_true rfl⟩) ⟨PcW.blind, va_recv hK hPc (ci := 8) (q0 := 0) rfl rfl, PcW.mk hE hS hAF hPc hDc⟩ rfl rfl hl.1 rfl (lv_room (Nat.le_of_ble_eq_true rfl)) dX6_level_16 ⟨Nat.le_of_ble_eq_true rfl, Nat.le_of_ble_eq_true rfl⟩) hS (fun q _ h => hFc q h) hFc (fun r_3 u t H1 locs ht hvm hw hB hz1 hk1 hS => ?_)
  obtain ⟨hP1, hD1⟩ := hB
  rw [ht] at hP1
  have hP1 : va_P D vwCl [(a0, .inr (8, [.ref a1, .int 0, .int 2, .int 0])), (a1, .inr (6, [.ref a4, .int 0, .ref a2, .ref a3, .ref a5, .ref a6, .int 1, .ref a7])), (a2, .inl (cy 0, 41, .inl (upd (fun _ => 0) 0 0))), (a3, .inl (cy 0, 41, .inl (upd (fun _ => 0) 0 0)))] H1 := hP1
  obtain ⟨hP, hD⟩ := va_join (wr := []) (w1 := [(a0, .inr (8, [.ref a1, .int 0, .int 2, .int 0])), (a1, .inr (6, [.ref a4, .int 0, .ref a2, .ref a3, .ref a5, .ref a6, .int 1, .ref a7])), (a2, .inl (cy 0, 41, .inl (upd (fun _ => 0) 0 0))), (a3, .inl (cy 0, 41, .inl (upd (fun _ => 0) 0 0)))]) hP hD [0, 1, 2, 3] [] rfl rfl (by decide) (by decide) hk1 hFc hP1 hD1
  clear hP1 hD1 hPc hDc hFc hk1 hz1
  generalize H1 = H at hP hS ⊢
  have hP : va_P D vwCl [(a0, .inr (8, [.ref a1, .int 0, .int 2, .int 0])), (a1, .inr (6, [.ref a4, .int 0, .ref a2, .ref a3, .ref a5, .ref a6, .int 1, .ref a7])), (a2, .inl (cy 0, 41, .inl (upd (fun _ => 0) 0 0))), (a3, .inl (cy 0, 41, .inl (upd (fun _ => 0) 0 0)))] H := hP
  have hD : va_D A [(a0, .inr (8, [.ref a1, .int 0, .int 2, .int 0])), (a1, .inr (6, [.ref a4, .int 0, .ref a2, .ref a3, .ref a5, .ref a6, .int 1, .ref a7])), (a2, .inl (cy 0, 41, .inl (upd (fun _ => 0) 0 0))), (a3, .inl (cy 0, 41, .inl (upd (fun _ => 0) 0 0)))] := hD
  refine W.widen (k := 0) (n := 0) (Nat.le_of_ble_eq_true rfl) (Nat.le_of_ble_eq_true rfl) ?_
  obtain rfl : r_3 = none := hw
  refine W.eq (g2 := F0 m 19 ls [.null]) rfl ?_
  refine lv_astore_nN (lv' := [(3, .null), (0, .ref a0), (1, .int 2), (2, .int 0)]) hx hb dX6_level_19 rfl hl (by decide) rfl (fun ls hl => ?_)
  refine lv_iconst (v := 0) hx hb dX6_level_20 (by decide +kernel) ?_
  refine lv_istore (lv' := [(4, .int 0), (3, .null), (0, .ref a0), (1, .int 2), (2, .int 0)]) hx hb dX6_level_21 hl (by decide) rfl (fun ls hl => ?_)
  refine lv_iload hx hb dX6_level_23 (lv_at hl 0 rfl) ?_
  refine lv_bipush (v := 40) hx hb dX6_level_25 (by decide +kernel) ?_
  refine lv_icmp_ge (tgt := 104) hx hb dX6_level_27 (by decide) (fun c4 => absurd c4 (by decide +kernel)) (fun _ => ?_)
  refine lv_aload_nN hx hb dX6_level_30 rfl (lv_at hl 1 rfl) ?_
  refine lv_ifnullN (tgt := 104) hx hb dX6_level_31 (by decide) ?_
  refine lv_aload_nN hx hb dX6_level_104 rfl (lv_at hl 1 rfl) ?_
  refine W.widen (k := 0) (n := 0) (Nat.le_of_ble_eq_true rfl) (Nat.le_of_ble_eq_true rfl) ?_
  have hP9 := hP.sub (ws' := [(a0, .inr (8, [.ref a1, .int 0, .int 2, .int 0])), (a1, .inr (6, [.ref a4, .int 0, .ref a2, .ref a3, .ref a5, .ref a6, .int 1, .ref a7])), (a2, .inl (cy 0, 41, .inl (upd (fun _ => 0) 0 0))), (a3, .inl (cy 0, 41, .inl (upd (fun _ => 0) 0 0)))]) [0, 1, 2, 3] rfl
  have hD9 := hD.sub (ws' := [(a0, .inr (8, [.ref a1, .int 0, .int 2, .int 0])), (a1, .inr (6, [.ref a4, .int 0, .ref a2, .ref a3, .ref a5, .ref a6, .int 1, .ref a7])), (a2, .inl (cy 0, 41, .inl (upd (fun _ => 0) 0 0))), (a3, .inl (cy 0, 41, .inl (upd (fun _ => 0) 0 0)))]) [0, 1, 2, 3] (by decide) rfl
  exact W.aret (v := .null) hx hb hr (Or.inl ⟨_, rfl⟩) (Or.inl rfl) (fun t ht hW => ⟨⟨none, (), rfl, rfl, ⟨by rw [ht]; exact hP9, hD9⟩⟩, hS.F ht⟩) hS.2.2 dX6_level_105

def wq_X6_level_50 : List Cond := [.code yX6_level cX6_level 7 (some (.object "PhraseDesk$Node")), .methodLink RX6 59 yX6_level, .instanceMethod yX6_level, .selects RX6 yX6_level yX6_level, .initialized RX6, .methodLink RX6 71 yX6_sign, .instanceMethod yX6_sign, .selects RX6 yX6_sign yX6_sign, .code yX6_sign cX6_sign 4 (some (.object "PhraseDesk$Node")), .methodLink RX6 63 yX6_takes, .instanceMethod yX6_takes, .selects RX6 yX6_takes yX6_takes, .code yX6_takes cX6_takes 2 (some .boolean), .methodLink RX6 43 yX6_kind, .instanceMethod yX6_kind, .selects RX6 yX6_kind yX6_kind, .code yX6_kind cX6_kind 1 (some .int), .fieldLink RX6 12 "PhraseDesk$Parser" "lexer" "LPhraseDesk$Lexer;", .fieldLink RX6 18 "PhraseDesk$Parser" "at" "I", .methodLink RX6 136 yX4_kindAt, .instanceMethod yX4_kindAt, .selects RX4 yX4_kindAt yX4_kindAt, .initialized RX4, .code yX4_kindAt cX4_kindAt 2 (some .int), .fieldLink RX4 42 "PhraseDesk$Lexer" "count" "I", .fieldLink RX4 15 "PhraseDesk$Lexer" "kinds" "[I", .methodLink RX6 78 yX6_chain, .instanceMethod yX6_chain, .selects RX6 yX6_chain yX6_chain, .code yX6_chain cX6_chain 5 (some (.object "PhraseDesk$Node")), .methodLink RX6 81 yX6_first, .instanceMethod yX6_first, .selects RX6 yX6_first yX6_first, .code yX6_first cX6_first 2 (some (.object "PhraseDesk$Node")), .methodLink RX6 56 yX6_refuse, .instanceMethod yX6_refuse, .selects RX6 yX6_refuse yX6_refuse, .code yX6_refuse cX6_refuse 2 (some (.object "PhraseDesk$Node")), .fieldLink RX6 22 "PhraseDesk$Parser" "error" "I", .methodLink RX6 139 yX4_placeAt, .instanceMethod yX4_placeAt, .selects RX4 yX4_placeAt yX4_placeAt, .code yX4_placeAt cX4_placeAt 2 (some .int), .fieldLink RX4 19 "PhraseDesk$Lexer" "places" "[I", .fieldLink RX6 29 "PhraseDesk$Parser" "place" "I"]
def wq_X6_level_5 : List Cond := wq_X6_level_50 ++ wsX60 ++ wsX40
set_option maxHeartbeats 4000000 in
set_option maxRecDepth 100000 in
theorem C_X6_level_5 (l : Launch) (D : va_G) (cy : Nat → ClassId) (sz0 : Nat) (sa : Nat → Nat) (a0 a1 a2 a3 a4 a5 a6 a7 : Nat) (sz : Nat)  : Met l yX6_level wq_X6_level_5 ({ frames := 10, cells := 0, slots := 0, locals := 234 }) (PcW D cy sz0 sa [.ref a0, .int 1, .int 0] [(a0, .inr (8, [.ref a1, .int 0, .int 0, .int (-1)])), (a1, .inr (6, [.ref a4, .int 0, .ref a2, .ref a3, .ref a5, .ref a6, .int 1, .ref a7])), (a2, .inl (cy 0, 41, .inl (upd (fun _ => 0) 0 0))), (a3, .inl (cy 0, 41, .inl (upd (fun _ => 0) 0 0)))] sz) (va_Qq (fun (r : Option Nat) (u : Unit) => r = none) (fun (u : Unit) (t : State) => BW D [(a0, .inr (8, [.ref a1, .int 0, .int 2, .int 0])), (a1, .inr (6, [.ref a4, .int 0, .ref a2, .ref a3, .ref a5, .ref a6, .int 1, .ref a7])), (a2, .inl (cy 0, 41, .inl (upd (fun _ => 0) 0 0))), (a3, .inl (cy 0, 41, .inl (upd (fun _ => 0) 0 0)))] (va_A [(a0, .inr (8, [.ref a1, .int 0, .int 0, .int (-1)])), (a1, .inr (6, [.ref a4, .int 0, .ref a2, .ref a3, .ref a5, .ref a6, .int 1, .ref a7])), (a2, .inl (cy 0, 41, .inl (upd (fun _ => 0) 0 0))), (a3, .inl (cy 0, 41, .inl (upd (fun _ => 0) 0 0)))] sz) t) (va_A [(a0, .inr (8, [.ref a1, .int 0, .int 0, .int (-1)])), (a1, .inr (6, [.ref a4, .int 0, .ref a2, .ref a3, .ref a5, .ref a6, .int 1, .ref a7])), (a2, .inl (cy 0, 41, .inl (upd (fun _ => 0) 0 0))), (a3, .inl (cy 0, 41, .inl (upd (fun _ => 0) 0 0)))] sz)) 0 0 (va_A [(a0, .inr (8, [.ref a1, .int 0, .int 0, .int (-1)])), (a1, .inr (6, [.ref a4, .int 0, .ref a2, .ref a3, .ref a5, .ref a6, .int 1, .ref a7])), (a2, .inl (cy 0, 41, .inl (upd (fun _ => 0) 0 0))), (a3, .inl (cy 0, 41, .inl (upd (fun _ => 0) 0 0)))] sz) := by
  refine Met.ofW (cc := cX6_level) (maxL := 7) (ret := (some (.object "PhraseDesk$Node"))) (by decide) rfl ?_
  intro p e s m args below meth c s₁ B hml hv
  obtain ⟨rfl, hsz, hP, hD0, hE⟩ := hv
  have hx := B.exec
  have hb := B.bytes
  have hr := B.returns
  have hts := atoms_spec (ws := wq_X6_level_5) B.pre
  have hown : s.vm.findClass RX6 = some m.cls := findClass_of_methodNamed B.named
  have hlocks := B.notSynchronized
  subst hsz
  have hK := hE.1
  have hAm := hE.2.2.1
  have hWm := hE.2.2.2
  have hAO := hWm.2.2.2.1
  have hD := hD0.self (sz := s.heap.size)
  have hAF := frA hD0 hE.2.1
  generalize hAe : va_A [(a0, .inr (8, [.ref a1, .int 0, .int 0, .int (-1)])), (a1, .inr (6, [.ref a4, .int 0, .ref a2, .ref a3, .ref a5, .ref a6, .int 1, .ref a7])), (a2, .inl (cy 0, 41, .inl (upd (fun _ => 0) 0 0))), (a3, .inl (cy 0, 41, .inl (upd (fun _ => 0) 0 0)))] s.heap.size = A at hD hAF ⊢
  have hA : ∀ q : Nat, s.heap.size ≤ q → A q := fun q h => by rw [← hAe]; exact Or.inr h
  have hS : va_S A s.heap s.heap [] := va_S.rf
  have hl := lv_entry ([.ref a0, .int 1, .int 0]) (n := 7) (Nat.le_of_ble_eq_true rfl)
  rw [lg_entry_eq]
  generalize (lg_sl ([.ref a0, .int 1, .int 0]) ++ List.replicate (7 - (lg_sl ([.ref a0, .int 1, .int 0])).length) Slot.unset).toArray = ls at hl ⊢
  have hl : lv_has ls 7 [(0, .ref a0), (1, .int 1), (2, .int 0)] := hl
  have hP : va_P D vwCl [(a0, .inr (8, [.ref a1, .int 0, .int 0, .int (-1)])), (a1, .inr (6, [.ref a4, .int 0, .ref a2, .ref a3, .ref a5, .ref a6, .int 1, .ref a7])), (a2, .inl (cy 0, 41, .inl (upd (fun _ => 0) 0 0))), (a3, .inl (cy 0, 41, .inl (upd (fun _ => 0) 0 0)))] s.heap := hP
  refine lv_iload_n hx hb dX6_level_0 rfl (lv_at hl 1 rfl) ?_
  refine lv_iconst (v := 4) hx hb dX6_level_1 (by decide +kernel) ?_
  refine lv_icmp_le (tgt := 11) hx hb dX6_level_2 (by decide) (fun _ => ?_) (fun c1 => absurd (by decide +kernel) c1)
  refine lv_aload_n hx hb dX6_level_11 rfl (lv_at hl 0 rfl) ?_
  refine lv_iload_n hx hb dX6_level_12 rfl (lv_at hl 1 rfl) ?_
  refine lv_iconst (v := 1) hx hb dX6_level_13 (by decide +kernel) ?_
  refine lv_iadd hx hb dX6_level_14 ?_
  refine lv_topi (fun x2 ex2 => ?_)
  obtain rfl : x2 = 2 := ex2.trans (by decide +kernel)
  refine lv_iload_n hx hb dX6_level_15 rfl (lv_at hl 2 rfl) ?_
  have hPc := hP.sub (ws' := [(a0, .inr (8, [.ref a1, .int 0, .int 0, .int (-1)])), (a1, .inr (6, [.ref a4, .int 0, .ref a2, .ref a3, .ref a5, .ref a6, .int 1, .ref a7])), (a2, .inl (cy 0, 41, .inl (upd (fun _ => 0) 0 0))), (a3, .inl (cy 0, 41, .inl (upd (fun _ => 0) 0 0)))]) [0, 1, 2, 3] rfl
  have hDc := hD.sub (ws' := [(a0, .inr (8, [.ref a1, .int 0, .int 0, .int (-1)])), (a1, .inr (6, [.ref a4, .int 0, .ref a2, .ref a3, .ref a5, .ref a6, .int 1, .ref a7])), (a2, .inl (cy 0, 41, .inl (upd (fun _ => 0) 0 0))), (a3, .inl (cy 0, 41, .inl (upd (fun _ => 0) 0 0)))]) [0, 1, 2, 3] (by decide) rfl
  have hFc := va_free (wc := [(a0, .inr (8, [.ref a1, .int 0, .int 0, .int (-1)])), (a1, .inr (6, [.ref a4, .int 0, .ref a2, .ref a3, .ref a5, .ref a6, .int 1, .ref a7])), (a2, .inl (cy 0, 41, .inl (upd (fun _ => 0) 0 0))), (a3, .inl (cy 0, 41, .inl (upd (fun _ => 0) 0 0)))]) hD hS hA [0, 1, 2, 3] rfl
  refine va_callq (va_runV (As := [.int 2, .int 0]) (rest := []) ⟨hx, hb, hml, hown, hts⟩ (C_X6_level_4 l D cy sz0 sa a0 a1 a2 a3 a4 a5 a6 a7 s.heap.size) (cwV 2 hts (goodIn_app (goodIn_r _ [1, 2, 3, 4] rfl (by decide +kernel)) (goodIn_app (goodIn_app (goodIn_r wq_X6_level_40 [0, 1, 2, 3, 4, 5, 6, 7, 8, 9, 10, 11, 12, 13, 14, 15, 16, 17, 18, 19, 20, 21, 22, 23, 24, 25, 26, 27, 28, 29, 30, 31, 32, 33, 34, 35, 36, 37, 38, 39, 40, 41, 42, 43, 44] rfl (by decide +kernel)) (goodIn_sub (fun _ h => (List.mem_append_left _ (List.mem_append_right _ h))) (by decide +kernel))) (goodIn_sub (fun _ h => (List.mem_append_right _ h)) (by decide +kernel)))) rfl rfl rfl (by decide +kernel) ⟨Nat.le_of_ble_eq_true rfl, Nat.le_of_ble_eq_true rfl⟩) ⟨PcW.blind, va_recv hK hPc (ci := 8) (q0 := 0) rfl rfl, PcW.mk hE hS hAF hPc hDc⟩ rfl rfl hl.1 rfl (lv_room (Nat.le_of_ble_eq_true rfl)) dX6_level_16 ⟨Nat.le_of_ble_eq_true rfl, Nat.le_of_ble_eq_true rfl⟩) hS (fun q _ h => hFc q h) hFc (fun r_3 u t H1 locs ht hvm hw hB hz1 hk1 hS => ?_)
  obtain ⟨hP1, hD1⟩ := hB
  rw [ht] at hP1
  have hP1 : va_P D vwCl [(a0, .inr (8, [.ref a1, .int 0, .int 2, .int 0])), (a1, .inr (6, [.ref a4, .int 0, .ref a2, .ref a3, .ref a5, .ref a6, .int 1, .ref a7])), (a2, .inl (cy 0, 41, .inl (upd (fun _ => 0) 0 0))), (a3, .inl (cy 0, 41, .inl (upd (fun _ => 0) 0 0)))] H1 := hP1
  obtain ⟨hP, hD⟩ := va_join (wr := []) (w1 := [(a0, .inr (8, [.ref a1, .int 0, .int 2, .int 0])), (a1, .inr (6, [.ref a4, .int 0, .ref a2, .ref a3, .ref a5, .ref a6, .int 1, .ref a7])), (a2, .inl (cy 0, 41, .inl (upd (fun _ => 0) 0 0))), (a3, .inl (cy 0, 41, .inl (upd (fun _ => 0) 0 0)))]) hP hD [0, 1, 2, 3] [] rfl rfl (by decide) (by decide) hk1 hFc hP1 hD1
  clear hP1 hD1 hPc hDc hFc hk1 hz1
  generalize H1 = H at hP hS ⊢
  have hP : va_P D vwCl [(a0, .inr (8, [.ref a1, .int 0, .int 2, .int 0])), (a1, .inr (6, [.ref a4, .int 0, .ref a2, .ref a3, .ref a5, .ref a6, .int 1, .ref a7])), (a2, .inl (cy 0, 41, .inl (upd (fun _ => 0) 0 0))), (a3, .inl (cy 0, 41, .inl (upd (fun _ => 0) 0 0)))] H := hP
  have hD : va_D A [(a0, .inr (8, [.ref a1, .int 0, .int 2, .int 0])), (a1, .inr (6, [.ref a4, .int 0, .ref a2, .ref a3, .ref a5, .ref a6, .int 1, .ref a7])), (a2, .inl (cy 0, 41, .inl (upd (fun _ => 0) 0 0))), (a3, .inl (cy 0, 41, .inl (upd (fun _ => 0) 0 0)))] := hD
  refine W.widen (k := 0) (n := 0) (Nat.le_of_ble_eq_true rfl) (Nat.le_of_ble_eq_true rfl) ?_
  obtain rfl : r_3 = none := hw
  refine W.eq (g2 := F0 m 19 ls [.null]) rfl ?_
  refine lv_astore_nN (lv' := [(3, .null), (0, .ref a0), (1, .int 1), (2, .int 0)]) hx hb dX6_level_19 rfl hl (by decide) rfl (fun ls hl => ?_)
  refine lv_iconst (v := 0) hx hb dX6_level_20 (by decide +kernel) ?_
  refine lv_istore (lv' := [(4, .int 0), (3, .null), (0, .ref a0), (1, .int 1), (2, .int 0)]) hx hb dX6_level_21 hl (by decide) rfl (fun ls hl => ?_)
  refine lv_iload hx hb dX6_level_23 (lv_at hl 0 rfl) ?_
  refine lv_bipush (v := 40) hx hb dX6_level_25 (by decide +kernel) ?_
  refine lv_icmp_ge (tgt := 104) hx hb dX6_level_27 (by decide) (fun c4 => absurd c4 (by decide +kernel)) (fun _ => ?_)
  refine lv_aload_nN hx hb dX6_level_30 rfl (lv_at hl 1 rfl) ?_
  refine lv_ifnullN (tgt := 104) hx hb dX6_level_31 (by decide) ?_
  refine lv_aload_nN hx hb dX6_level_104 rfl (lv_at hl 1 rfl) ?_
  refine W.widen (k := 0) (n := 0) (Nat.le_of_ble_eq_true rfl) (Nat.le_of_ble_eq_true rfl) ?_
  have hP9 := hP.sub (ws' := [(a0, .inr (8, [.ref a1, .int 0, .int 2, .int 0])), (a1, .inr (6, [.ref a4, .int 0, .ref a2, .ref a3, .ref a5, .ref a6, .int 1, .ref a7])), (a2, .inl (cy 0, 41, .inl (upd (fun _ => 0) 0 0))), (a3, .inl (cy 0, 41, .inl (upd (fun _ => 0) 0 0)))]) [0, 1, 2, 3] rfl
  have hD9 := hD.sub (ws' := [(a0, .inr (8, [.ref a1, .int 0, .int 2, .int 0])), (a1, .inr (6, [.ref a4, .int 0, .ref a2, .ref a3, .ref a5, .ref a6, .int 1, .ref a7])), (a2, .inl (cy 0, 41, .inl (upd (fun _ => 0) 0 0))), (a3, .inl (cy 0, 41, .inl (upd (fun _ => 0) 0 0)))]) [0, 1, 2, 3] (by decide) rfl
  exact W.aret (v := .null) hx hb hr (Or.inl ⟨_, rfl⟩) (Or.inl rfl) (fun t ht hW => ⟨⟨none, (), rfl, rfl, ⟨by rw [ht]; exact hP9, hD9⟩⟩, hS.F ht⟩) hS.2.2 dX6_level_105

def wq_X6_level_60 : List Cond := [.code yX6_level cX6_level 7 (some (.object "PhraseDesk$Node")), .methodLink RX6 59 yX6_level, .instanceMethod yX6_level, .selects RX6 yX6_level yX6_level, .initialized RX6, .methodLink RX6 71 yX6_sign, .instanceMethod yX6_sign, .selects RX6 yX6_sign yX6_sign, .code yX6_sign cX6_sign 4 (some (.object "PhraseDesk$Node")), .methodLink RX6 63 yX6_takes, .instanceMethod yX6_takes, .selects RX6 yX6_takes yX6_takes, .code yX6_takes cX6_takes 2 (some .boolean), .methodLink RX6 43 yX6_kind, .instanceMethod yX6_kind, .selects RX6 yX6_kind yX6_kind, .code yX6_kind cX6_kind 1 (some .int), .fieldLink RX6 12 "PhraseDesk$Parser" "lexer" "LPhraseDesk$Lexer;", .fieldLink RX6 18 "PhraseDesk$Parser" "at" "I", .methodLink RX6 136 yX4_kindAt, .instanceMethod yX4_kindAt, .selects RX4 yX4_kindAt yX4_kindAt, .initialized RX4, .code yX4_kindAt cX4_kindAt 2 (some .int), .fieldLink RX4 42 "PhraseDesk$Lexer" "count" "I", .fieldLink RX4 15 "PhraseDesk$Lexer" "kinds" "[I", .methodLink RX6 78 yX6_chain, .instanceMethod yX6_chain, .selects RX6 yX6_chain yX6_chain, .code yX6_chain cX6_chain 5 (some (.object "PhraseDesk$Node")), .methodLink RX6 81 yX6_first, .instanceMethod yX6_first, .selects RX6 yX6_first yX6_first, .code yX6_first cX6_first 2 (some (.object "PhraseDesk$Node")), .methodLink RX6 56 yX6_refuse, .instanceMethod yX6_refuse, .selects RX6 yX6_refuse yX6_refuse, .code yX6_refuse cX6_refuse 2 (some (.object "PhraseDesk$Node")), .fieldLink RX6 22 "PhraseDesk$Parser" "error" "I", .methodLink RX6 139 yX4_placeAt, .instanceMethod yX4_placeAt, .selects RX4 yX4_placeAt yX4_placeAt, .code yX4_placeAt cX4_placeAt 2 (some .int), .fieldLink RX4 19 "PhraseDesk$Lexer" "places" "[I", .fieldLink RX6 29 "PhraseDesk$Parser" "place" "I"]
def wq_X6_level_6 : List Cond := wq_X6_level_60 ++ wsX60 ++ wsX40
set_option maxHeartbeats 4000000 in
set_option maxRecDepth 100000 in
theorem C_X6_level_6 (l : Launch) (D : va_G) (cy : Nat → ClassId) (sz0 : Nat) (sa : Nat → Nat) (a0 a1 a2 a3 a4 a5 a6 a7 : Nat) (sz : Nat)  : Met l yX6_level wq_X6_level_6 ({ frames := 11, cells := 0, slots := 0, locals := 260 }) (PcW D cy sz0 sa [.ref a0, .int 0, .int 0] [(a0, .inr (8, [.ref a1, .int 0, .int 0, .int (-1)])), (a1, .inr (6, [.ref a4, .int 0, .ref a2, .ref a3, .ref a5, .ref a6, .int 1, .ref a7])), (a2, .inl (cy 0, 41, .inl (upd (fun _ => 0) 0 0))), (a3, .inl (cy 0, 41, .inl (upd (fun _ => 0) 0 0)))] sz) (va_Qq (fun (r : Option Nat) (u : Unit) => r = none) (fun (u : Unit) (t : State) => BW D [(a0, .inr (8, [.ref a1, .int 0, .int 2, .int 0])), (a1, .inr (6, [.ref a4, .int 0, .ref a2, .ref a3, .ref a5, .ref a6, .int 1, .ref a7])), (a2, .inl (cy 0, 41, .inl (upd (fun _ => 0) 0 0))), (a3, .inl (cy 0, 41, .inl (upd (fun _ => 0) 0 0)))] (va_A [(a0, .inr (8, [.ref a1, .int 0, .int 0, .int (-1)])), (a1, .inr (6, [.ref a4, .int 0, .ref a2, .ref a3, .ref a5, .ref a6, .int 1, .ref a7])), (a2, .inl (cy 0, 41, .inl (upd (fun _ => 0) 0 0))), (a3, .inl (cy 0, 41, .inl (upd (fun _ => 0) 0 0)))] sz) t) (va_A [(a0, .inr (8, [.ref a1, .int 0, .int 0, .int (-1)])), (a1, .inr (6, [.ref a4, .int 0, .ref a2, .ref a3, .ref a5, .ref a6, .int 1, .ref a7])), (a2, .inl (cy 0, 41, .inl (upd (fun _ => 0) 0 0))), (a3, .inl (cy 0, 41, .inl (upd (fun _ => 0) 0 0)))] sz)) 0 0 (va_A [(a0, .inr (8, [.ref a1, .int 0, .int 0, .int (-1)])), (a1, .inr (6, [.ref a4, .int 0, .ref a2, .ref a3, .ref a5, .ref a6, .int 1, .ref a7])), (a2, .inl (cy 0, 41, .inl (upd (fun _ => 0) 0 0))), (a3, .inl (cy 0, 41, .inl (upd (fun _ => 0) 0 0)))] sz) := by
  refine Met.ofW (cc := cX6_level) (maxL := 7) (ret := (some (.object "PhraseDesk$Node"))) (by decide) rfl ?_
  intro p e s m args below meth c s₁ B hml hv
  obtain ⟨rfl, hsz, hP, hD0, hE⟩ := hv
  have hx := B.exec
  have hb := B.bytes
  have hr := B.returns
  have hts := atoms_spec (ws := wq_X6_level_6) B.pre
  have hown : s.vm.findClass RX6 = some m.cls := findClass_of_methodNamed B.named
  have hlocks := B.notSynchronized
  subst hsz
  have hK := hE.1
  have hAm := hE.2.2.1
  have hWm := hE.2.2.2
  have hAO := hWm.2.2.2.1
  have hD := hD0.self (sz := s.heap.size)
  have hAF := frA hD0 hE.2.1
  generalize hAe : va_A [(a0, .inr (8, [.ref a1, .int 0, .int 0, .int (-1)])), (a1, .inr (6, [.ref a4, .int 0, .ref a2, .ref a3, .ref a5, .ref a6, .int 1, .ref a7])), (a2, .inl (cy 0, 41, .inl (upd (fun _ => 0) 0 0))), (a3, .inl (cy 0, 41, .inl (upd (fun _ => 0) 0 0)))] s.heap.size = A at hD hAF ⊢
  have hA : ∀ q : Nat, s.heap.size ≤ q → A q := fun q h => by rw [← hAe]; exact Or.inr h
  have hS : va_S A s.heap s.heap [] := va_S.rf
  have hl := lv_entry ([.ref a0, .int 0, .int 0]) (n := 7) (Nat.le_of_ble_eq_true rfl)
  rw [lg_entry_eq]
  generalize (lg_sl ([.ref a0, .int 0, .int 0]) ++ List.replicate (7 - (lg_sl ([.ref a0, .int 0, .int 0])).length) Slot.unset).toArray = ls at hl ⊢
  have hl : lv_has ls 7 [(0, .ref a0), (1, .int 0), (2, .int 0)] := hl
  have hP : va_P D vwCl [(a0, .inr (8, [.ref a1, .int 0, .int 0, .int (-1)])), (a1, .inr (6, [.ref a4, .int 0, .ref a2, .ref a3, .ref a5, .ref a6, .int 1, .ref a7])), (a2, .inl (cy 0, 41, .inl (upd (fun _ => 0) 0 0))), (a3, .inl (cy 0, 41, .inl (upd (fun _ => 0) 0 0)))] s.heap := hP
  refine lv_iload_n hx hb dX6_level_0 rfl (lv_at hl 1 rfl) ?_
  refine lv_iconst (v := 4) hx hb dX6_level_1 (by decide +kernel) ?_
  refine lv_icmp_le (tgt := 11) hx hb dX6_level_2 (by decide) (fun _ => ?_) (fun c1 => absurd (by decide +kernel) c1)
  refine lv_aload_n hx hb dX6_level_11 rfl (lv_at hl 0 rfl) ?_
  refine lv_iload_n hx hb dX6_level_12 rfl (lv_at hl 1 rfl) ?_
  refine lv_iconst (v := 1) hx hb dX6_level_13 (by decide +kernel) ?_
  refine lv_iadd hx hb dX6_level_14 ?_
  refine lv_topi (fun x2 ex2 => ?_)
  obtain rfl : x2 = 1 := ex2.trans (by decide +kernel)
  refine lv_iload_n hx hb dX6_level_15 rfl (lv_at hl 2 rfl) ?_
  have hPc := hP.sub (ws' := [(a0, .inr (8, [.ref a1, .int 0, .int 0, .int (-1)])), (a1, .inr (6, [.ref a4, .int 0, .ref a2, .ref a3, .ref a5, .ref a6, .int 1, .ref a7])), (a2, .inl (cy 0, 41, .inl (upd (fun _ => 0) 0 0))), (a3, .inl (cy 0, 41, .inl (upd (fun _ => 0) 0 0)))]) [0, 1, 2, 3] rfl
  have hDc := hD.sub (ws' := [(a0, .inr (8, [.ref a1, .int 0, .int 0, .int (-1)])), (a1, .inr (6, [.ref a4, .int 0, .ref a2, .ref a3, .ref a5, .ref a6, .int 1, .ref a7])), (a2, .inl (cy 0, 41, .inl (upd (fun _ => 0) 0 0))), (a3, .inl (cy 0, 41, .inl (upd (fun _ => 0) 0 0)))]) [0, 1, 2, 3] (by decide) rfl
  have hFc := va_free (wc := [(a0, .inr (8, [.ref a1, .int 0, .int 0, .int (-1)])), (a1, .inr (6, [.ref a4, .int 0, .ref a2, .ref a3, .ref a5, .ref a6, .int 1, .ref a7])), (a2, .inl (cy 0, 41, .inl (upd (fun _ => 0) 0 0))), (a3, .inl (cy 0, 41, .inl (upd (fun _ => 0) 0 0)))]) hD hS hA [0, 1, 2, 3] rfl
  refine va_callq (va_runV (As := [.int 1, .int 0]) (rest := []) ⟨hx, hb, hml, hown, hts⟩ (C_X6_level_5 l D cy sz0 sa a0 a1 a2 a3 a4 a5 a6 a7 s.heap.size) (cwV 2 hts (goodIn_app (goodIn_r _ [1, 2, 3, 4] rfl (by decide +kernel)) (goodIn_app (goodIn_app (goodIn_r wq_X6_level_50 [0, 1, 2, 3, 4, 5, 6, 7, 8, 9, 10, 11, 12, 13, 14, 15, 16, 17, 18, 19, 20, 21, 22, 23, 24, 25, 26, 27, 28, 29, 30, 31, 32, 33, 34, 35, 36, 37, 38, 39, 40, 41, 42, 43, 44] rfl (by decide +kernel)) (goodIn_sub (fun _ h => (List.mem_append_left _ (List.mem_append_right _ h))) (by decide +kernel))) (goodIn_sub (fun _ h => (List.mem_append_right _ h)) (by decide +kernel)))) rfl rfl rfl (by decide +kernel) ⟨Nat.le_of_ble_eq_true rfl, Nat.le_of_ble_eq_true rfl⟩) ⟨PcW.blind, va_recv hK hPc (ci := 8) (q0 := 0) rfl rfl, PcW.mk hE hS hAF hPc hDc⟩ rfl rfl hl.1 rfl (lv_room (Nat.le_of_ble_eq_true rfl)) dX6_level_16 ⟨Nat.le_of_ble_eq_true rfl, Nat.le_of_ble_eq_true rfl⟩) hS (fun q _ h => hFc q h) hFc (fun r_3 u t H1 locs ht hvm hw hB hz1 hk1 hS => ?_)
  obtain ⟨hP1, hD1⟩ := hB
  rw [ht] at hP1
  have hP1 : va_P D vwCl [(a0, .inr (8, [.ref a1, .int 0, .int 2, .int 0])), (a1, .inr (6, [.ref a4, .int 0, .ref a2, .ref a3, .ref a5, .ref a6, .int 1, .ref a7])), (a2, .inl (cy 0, 41, .inl (upd (fun _ => 0) 0 0))), (a3, .inl (cy 0, 41, .inl (upd (fun _ => 0) 0 0)))] H1 := hP1
  obtain ⟨hP, hD⟩ := va_join (wr := []) (w1 := [(a0, .inr (8, [.ref a1, .int 0, .int 2, .int 0])), (a1, .inr (6, [.ref a4, .int 0, .ref a2, .ref a3, .ref a5, .ref a6, .int 1, .ref a7])), (a2, .inl (cy 0, 41, .inl (upd (fun _ => 0) 0 0))), (a3, .inl (cy 0, 41, .inl (upd (fun _ => 0) 0 0)))]) hP hD [0, 1, 2, 3] [] rfl rfl (by decide) (by decide) hk1 hFc hP1 hD1
  clear hP1 hD1 hPc hDc hFc hk1 hz1
  generalize H1 = H at hP hS ⊢
  have hP : va_P D vwCl [(a0, .inr (8, [.ref a1, .int 0, .int 2, .int 0])), (a1, .inr (6, [.ref a4, .int 0, .ref a2, .ref a3, .ref a5, .ref a6, .int 1, .ref a7])), (a2, .inl (cy 0, 41, .inl (upd (fun _ => 0) 0 0))), (a3, .inl (cy 0, 41, .inl (upd (fun _ => 0) 0 0)))] H := hP
  have hD : va_D A [(a0, .inr (8, [.ref a1, .int 0, .int 2, .int 0])), (a1, .inr (6, [.ref a4, .int 0, .ref a2, .ref a3, .ref a5, .ref a6, .int 1, .ref a7])), (a2, .inl (cy 0, 41, .inl (upd (fun _ => 0) 0 0))), (a3, .inl (cy 0, 41, .inl (upd (fun _ => 0) 0 0)))] := hD
  refine W.widen (k := 0) (n := 0) (Nat.le_of_ble_eq_true rfl) (Nat.le_of_ble_eq_true rfl) ?_
  obtain rfl : r_3 = none := hw
  refine W.eq (g2 := F0 m 19 ls [.null]) rfl ?_
  refine lv_astore_nN (lv' := [(3, .null), (0, .ref a0), (1, .int 0), (2, .int 0)]) hx hb dX6_level_19 rfl hl (by decide) rfl (fun ls hl => ?_)
  refine lv_iconst (v := 0) hx hb dX6_level_20 (by decide +kernel) ?_
  refine lv_istore (lv' := [(4, .int 0), (3, .null), (0, .ref a0), (1, .int 0), (2, .int 0)]) hx hb dX6_level_21 hl (by decide) rfl (fun ls hl => ?_)
  refine lv_iload hx hb dX6_level_23 (lv_at hl 0 rfl) ?_
  refine lv_bipush (v := 40) hx hb dX6_level_25 (by decide +kernel) ?_
  refine lv_icmp_ge (tgt := 104) hx hb dX6_level_27 (by decide) (fun c4 => absurd c4 (by decide +kernel)) (fun _ => ?_)
  refine lv_aload_nN hx hb dX6_level_30 rfl (lv_at hl 1 rfl) ?_
  refine lv_ifnullN (tgt := 104) hx hb dX6_level_31 (by decide) ?_
  refine lv_aload_nN hx hb dX6_level_104 rfl (lv_at hl 1 rfl) ?_
  refine W.widen (k := 0) (n := 0) (Nat.le_of_ble_eq_true rfl) (Nat.le_of_ble_eq_true rfl) ?_
  have hP9 := hP.sub (ws' := [(a0, .inr (8, [.ref a1, .int 0, .int 2, .int 0])), (a1, .inr (6, [.ref a4, .int 0, .ref a2, .ref a3, .ref a5, .ref a6, .int 1, .ref a7])), (a2, .inl (cy 0, 41, .inl (upd (fun _ => 0) 0 0))), (a3, .inl (cy 0, 41, .inl (upd (fun _ => 0) 0 0)))]) [0, 1, 2, 3] rfl
  have hD9 := hD.sub (ws' := [(a0, .inr (8, [.ref a1, .int 0, .int 2, .int 0])), (a1, .inr (6, [.ref a4, .int 0, .ref a2, .ref a3, .ref a5, .ref a6, .int 1, .ref a7])), (a2, .inl (cy 0, 41, .inl (upd (fun _ => 0) 0 0))), (a3, .inl (cy 0, 41, .inl (upd (fun _ => 0) 0 0)))]) [0, 1, 2, 3] (by decide) rfl
  exact W.aret (v := .null) hx hb hr (Or.inl ⟨_, rfl⟩) (Or.inl rfl) (fun t ht hW => ⟨⟨none, (), rfl, rfl, ⟨by rw [ht]; exact hP9, hD9⟩⟩, hS.F ht⟩) hS.2.2 dX6_level_105

def wq_X6_choice_10 : List Cond := [.code yX6_choice cX6_choice 4 (some (.object "PhraseDesk$Node")), .methodLink RX6 59 yX6_level, .instanceMethod yX6_level, .selects RX6 yX6_level yX6_level, .initialized RX6, .code yX6_level cX6_level 7 (some (.object "PhraseDesk$Node")), .methodLink RX6 71 yX6_sign, .instanceMethod yX6_sign, .selects RX6 yX6_sign yX6_sign, .code yX6_sign cX6_sign 4 (some (.object "PhraseDesk$Node")), .methodLink RX6 63 yX6_takes, .instanceMethod yX6_takes, .selects RX6 yX6_takes yX6_takes, .code yX6_takes cX6_takes 2 (some .boolean), .methodLink RX6 43 yX6_kind, .instanceMethod yX6_kind, .selects RX6 yX6_kind yX6_kind, .code yX6_kind cX6_kind 1 (some .int), .fieldLink RX6 12 "PhraseDesk$Parser" "lexer" "LPhraseDesk$Lexer;", .fieldLink RX6 18 "PhraseDesk$Parser" "at" "I", .methodLink RX6 136 yX4_kindAt, .instanceMethod yX4_kindAt, .selects RX4 yX4_kindAt yX4_kindAt, .initialized RX4, .code yX4_kindAt cX4_kindAt 2 (some .int), .fieldLink RX4 42 "PhraseDesk$Lexer" "count" "I", .fieldLink RX4 15 "PhraseDesk$Lexer" "kinds" "[I", .methodLink RX6 78 yX6_chain, .instanceMethod yX6_chain, .selects RX6 yX6_chain yX6_chain, .code yX6_chain cX6_chain 5 (some (.object "PhraseDesk$Node")), .methodLink RX6 81 yX6_first, .instanceMethod yX6_first, .selects RX6 yX6_first yX6_first, .code yX6_first cX6_first 2 (some (.object "PhraseDesk$Node")), .methodLink RX6 56 yX6_refuse, .instanceMethod yX6_refuse, .selects RX6 yX6_refuse yX6_refuse, .code yX6_refuse cX6_refuse 2 (some (.object "PhraseDesk$Node")), .fieldLink RX6 22 "PhraseDesk$Parser" "error" "I", .methodLink RX6 139 yX4_placeAt, .instanceMethod yX4_placeAt, .selects RX4 yX4_placeAt yX4_placeAt, .code yX4_placeAt cX4_placeAt 2 (some .int), .fieldLink RX4 19 "PhraseDesk$Lexer" "places" "[I", .fieldLink RX6 29 "PhraseDesk$Parser" "place" "I"]
def wq_X6_choice_1 : List Cond := wq_X6_choice_10 ++ wsX60 ++ wsX40
set_option maxHeartbeats 4000000 in
set_option maxRecDepth 100000 in
theorem C_X6_choice_1 (l : Launch) (D : va_G) (cy : Nat → ClassId) (sz0 : Nat) (sa : Nat → Nat) (a0 a1 a2 a3 a4 a5 a6 a7 : Nat) (sz : Nat)  : Met l yX6_choice wq_X6_choice_1 ({ frames := 12, cells := 0, slots := 0, locals := 286 }) (PcW D cy sz0 sa [.ref a0, .int 0] [(a0, .inr (8, [.ref a1, .int 0, .int 0, .int (-1)])), (a1, .inr (6, [.ref a4, .int 0, .ref a2, .ref a3, .ref a5, .ref a6, .int 1, .ref a7])), (a2, .inl (cy 0, 41, .inl (upd (fun _ => 0) 0 0))), (a3, .inl (cy 0, 41, .inl (upd (fun _ => 0) 0 0)))] sz) (va_Qq (fun (r : Option Nat) (u : Unit) => r = none) (fun (u : Unit) (t : State) => BW D [(a0, .inr (8, [.ref a1, .int 0, .int 2, .int 0])), (a1, .inr (6, [.ref a4, .int 0, .ref a2, .ref a3, .ref a5, .ref a6, .int 1, .ref a7])), (a2, .inl (cy 0, 41, .inl (upd (fun _ => 0) 0 0))), (a3, .inl (cy 0, 41, .inl (upd (fun _ => 0) 0 0)))] (va_A [(a0, .inr (8, [.ref a1, .int 0, .int 0, .int (-1)])), (a1, .inr (6, [.ref a4, .int 0, .ref a2, .ref a3, .ref a5, .ref a6, .int 1, .ref a7])), (a2, .inl (cy 0, 41, .inl (upd (fun _ => 0) 0 0))), (a3, .inl (cy 0, 41, .inl (upd (fun _ => 0) 0 0)))] sz) t) (va_A [(a0, .inr (8, [.ref a1, .int 0, .int 0, .int (-1)])), (a1, .inr (6, [.ref a4, .int 0, .ref a2, .ref a3, .ref a5, .ref a6, .int 1, .ref a7])), (a2, .inl (cy 0, 41, .inl (upd (fun _ => 0) 0 0))), (a3, .inl (cy 0, 41, .inl (upd (fun _ => 0) 0 0)))] sz)) 0 0 (va_A [(a0, .inr (8, [.ref a1, .int 0, .int 0, .int (-1)])), (a1, .inr (6, [.ref a4, .int 0, .ref a2, .ref a3, .ref a5, .ref a6, .int 1, .ref a7])), (a2, .inl (cy 0, 41, .inl (upd (fun _ => 0) 0 0))), (a3, .inl (cy 0, 41, .inl (upd (fun _ => 0) 0 0)))] sz) := by
  refine Met.ofW (cc := cX6_choice) (maxL := 4) (ret := (some (.object "PhraseDesk$Node"))) (by decide) rfl ?_
  intro p e s m args below meth c s₁ B hml hv
  obtain ⟨rfl, hsz, hP, hD0, hE⟩ := hv
  have hx := B.exec
  have hb := B.bytes
  have hr := B.returns
  have hts := atoms_spec (ws := wq_X6_choice_1) B.pre
  have hown : s.vm.findClass RX6 = some m.cls := findClass_of_methodNamed B.named
  have hlocks := B.notSynchronized
  subst hsz
  have hK := hE.1
  have hAm := hE.2.2.1
  have hWm := hE.2.2.2
  have hAO := hWm.2.2.2.1
  have hD := hD0.self (sz := s.heap.size)
  have hAF := frA hD0 hE.2.1
  generalize hAe : va_A [(a0, .inr (8, [.ref a1, .int 0, .int 0, .int (-1)])), (a1, .inr (6, [.ref a4, .int 0, .ref a2, .ref a3, .ref a5, .ref a6, .int 1, .ref a7])), (a2, .inl (cy 0, 41, .inl (upd (fun _ => 0) 0 0))), (a3, .inl (cy 0, 41, .inl (upd (fun _ => 0) 0 0)))] s.heap.size = A at hD hAF ⊢
  have hA : ∀ q : Nat, s.heap.size ≤ q → A q := fun q h => by rw [← hAe]; exact Or.inr h
  have hS : va_S A s.heap s.heap [] := va_S.rf
  have hl := lv_entry ([.ref a0, .int 0]) (n := 4) (Nat.le_of_ble_eq_true rfl)
  rw [lg_entry_eq]
  generalize (lg_sl ([.ref a0, .int 0]) ++ List.replicate (4 - (lg_sl ([.ref a0, .int 0])).length) Slot.unset).toArray = ls at hl ⊢
  have hl : lv_has ls 4 [(0, .ref a0), (1, .int 0)] := hl
  have hP : va_P D vwCl [(a0, .inr (8, [.ref a1, .int 0, .int 0, .int (-1)])), (a1, .inr (6, [.ref a4, .int 0, .ref a2, .ref a3, .ref a5, .ref a6, .int 1, .ref a7])), (a2, .inl (cy 0, 41, .inl (upd (fun _ => 0) 0 0))), (a3, .inl (cy 0, 41, .inl (upd (fun _ => 0) 0 0)))] s.heap := hP
  refine lv_iload_n hx hb dX6_choice_0 rfl (lv_at hl 1 rfl) ?_
  refine lv_iconst (v := 4) hx hb dX6_choice_1 (by decide +kernel) ?_
  refine lv_icmp_le (tgt := 11) hx hb dX6_choice_2 (by decide) (fun _ => ?_) (fun c1 => absurd (by decide +kernel) c1)
  refine lv_aload_n hx hb dX6_choice_11 rfl (lv_at hl 0 rfl) ?_
  refine lv_iconst (v := 0) hx hb dX6_choice_12 (by decide +kernel) ?_
  refine lv_iload_n hx hb dX6_choice_13 rfl (lv_at hl 1 rfl) ?_
  have hPc := hP.sub (ws' := [(a0, .inr (8, [.ref a1, .int 0, .int 0, .int (-1)])), (a1, .inr (6, [.ref a4, .int 0, .ref a2, .ref a3, .ref a5, .ref a6, .int 1, .ref a7])), (a2, .inl (cy 0, 41, .inl (upd (fun _ => 0) 0 0))), (a3, .inl (cy 0, 41, .inl (upd (fun _ => 0) 0 0)))]) [0, 1, 2, 3] rfl
  have hDc := hD.sub (ws' := [(a0, .inr (8, [.ref a1, .int 0, .int 0, .int (-1)])), (a1, .inr (6, [.ref a4, .int 0, .ref a2, .ref a3, .ref a5, .ref a6, .int 1, .ref a7])), (a2, .inl (cy 0, 41, .inl (upd (fun _ => 0) 0 0))), (a3, .inl (cy 0, 41, .inl (upd (fun _ => 0) 0 0)))]) [0, 1, 2, 3] (by decide) rfl
  have hFc := va_free (wc := [(a0, .inr (8, [.ref a1, .int 0, .int 0, .int (-1)])), (a1, .inr (6, [.ref a4, .int 0, .ref a2, .ref a3, .ref a5, .ref a6, .int 1, .ref a7])), (a2, .inl (cy 0, 41, .inl (upd (fun _ => 0) 0 0))), (a3, .inl (cy 0, 41, .inl (upd (fun _ => 0) 0 0)))]) hD hS hA [0, 1, 2, 3] rfl
  refine va_callq (va_runV (As := [.int 0, .int 0]) (rest := []) ⟨hx, hb, hml, hown, hts⟩ (C_X6_level_6 l D cy sz0 sa a0 a1 a2 a3 a4 a5 a6 a7 s.heap.size) (cwV 2 hts (goodIn_app (goodIn_r _ [1, 2, 3, 4] rfl (by decide +kernel)) (goodIn_app (goodIn_app (goodIn_r wq_X6_level_60 [5, 1, 2, 3, 4, 6, 7, 8, 9, 10, 11, 12, 13, 14, 15, 16, 17, 18, 19, 20, 21, 22, 23, 24, 25, 26, 27, 28, 29, 30, 31, 32, 33, 34, 35, 36, 37, 38, 39, 40, 41, 42, 43, 44, 45] rfl (by decide +kernel)) (goodIn_sub (fun _ h => (List.mem_append_left _ (List.mem_append_right _ h))) (by decide +kernel))) (goodIn_sub (fun _ h => (List.mem_append_right _ h)) (by decide +kernel)))) rfl rfl rfl (by decide +kernel) ⟨Nat.le_of_ble_eq_true rfl, Nat.le_of_ble_eq_true rfl⟩) ⟨PcW.blind, va_recv hK hPc (ci := 8) (q0 := 0) rfl rfl, PcW.mk hE hS hAF hPc hDc⟩ rfl rfl hl.1 rfl (lv_room (Nat.le_of_ble_eq_true rfl)) dX6_choice_14 ⟨Nat.le_of_ble_eq_true rfl, Nat.le_of_ble_eq_true rfl⟩) hS (fun q _ h => hFc q h) hFc (fun r_2 u t H1 locs ht hvm hw hB hz1 hk1 hS => ?_)
  obtain ⟨hP1, hD1⟩ := hB
  rw [ht] at hP1
  have hP1 : va_P D vwCl [(a0, .inr (8, [.ref a1, .int 0, .int 2, .int 0])), (a1, .inr (6, [.ref a4, .int 0, .ref a2, .ref a3, .ref a5, .ref a6, .int 1, .ref a7])), (a2, .inl (cy 0, 41, .inl (upd (fun _ => 0) 0 0))), (a3, .inl (cy 0, 41, .inl (upd (fun _ => 0) 0 0)))] H1 := hP1
  obtain ⟨hP, hD⟩ := va_join (wr := []) (w1 := [(a0, .inr (8, [.ref a1, .int 0, .int 2, .int 0])), (a1, .inr (6, [.ref a4, .int 0, .ref a2, .ref a3, .ref a5, .ref a6, .int 1, .ref a7])), (a2, .inl (cy 0, 41, .inl (upd (fun _ => 0) 0 0))), (a3, .inl (cy 0, 41, .inl (upd (fun _ => 0) 0 0)))]) hP hD [0, 1, 2, 3] [] rfl rfl (by decide) (by decide) hk1 hFc hP1 hD1
  clear hP1 hD1 hPc hDc hFc hk1 hz1
  generalize H1 = H at hP hS ⊢
  have hP : va_P D vwCl [(a0, .inr (8, [.ref a1, .int 0, .int 2, .int 0])), (a1, .inr (6, [.ref a4, .int 0, .ref a2, .ref a3, .ref a5, .ref a6, .int 1, .ref a7])), (a2, .inl (cy 0, 41, .inl (upd (fun _ => 0) 0 0))), (a3, .inl (cy 0, 41, .inl (upd (fun _ => 0) 0 0)))] H := hP
  have hD : va_D A [(a0, .inr (8, [.ref a1, .int 0, .int 2, .int 0])), (a1, .inr (6, [.ref a4, .int 0, .ref a2, .ref a3, .ref a5, .ref a6, .int 1, .ref a7])), (a2, .inl (cy 0, 41, .inl (upd (fun _ => 0) 0 0))), (a3, .inl (cy 0, 41, .inl (upd (fun _ => 0) 0 0)))] := hD
  refine W.widen (k := 0) (n := 0) (Nat.le_of_ble_eq_true rfl) (Nat.le_of_ble_eq_true rfl) ?_
  obtain rfl : r_2 = none := hw
  refine W.eq (g2 := F0 m 17 ls [.null]) rfl ?_
  refine lv_astore_nN (lv' := [(2, .null), (0, .ref a0), (1, .int 0)]) hx hb dX6_choice_17 rfl hl (by decide) rfl (fun ls hl => ?_)
  refine lv_aload_nN hx hb dX6_choice_18 rfl (lv_at hl 0 rfl) ?_
  refine lv_ifnonnullN hx hb dX6_choice_19 ?_
  refine lv_null hx hb dX6_choice_22 ?_
  refine W.widen (k := 0) (n := 0) (Nat.le_of_ble_eq_true rfl) (Nat.le_of_ble_eq_true rfl) ?_
  have hP9 := hP.sub (ws' := [(a0, .inr (8, [.ref a1, .int 0, .int 2, .int 0])), (a1, .inr (6, [.ref a4, .int 0, .ref a2, .ref a3, .ref a5, .ref a6, .int 1, .ref a7])), (a2, .inl (cy 0, 41, .inl (upd (fun _ => 0) 0 0))), (a3, .inl (cy 0, 41, .inl (upd (fun _ => 0) 0 0)))]) [0, 1, 2, 3] rfl
  have hD9 := hD.sub (ws' := [(a0, .inr (8, [.ref a1, .int 0, .int 2, .int 0])), (a1, .inr (6, [.ref a4, .int 0, .ref a2, .ref a3, .ref a5, .ref a6, .int 1, .ref a7])), (a2, .inl (cy 0, 41, .inl (upd (fun _ => 0) 0 0))), (a3, .inl (cy 0, 41, .inl (upd (fun _ => 0) 0 0)))]) [0, 1, 2, 3] (by decide) rfl
  exact W.aret (v := .null) hx hb hr (Or.inl ⟨_, rfl⟩) (Or.inl rfl) (fun t ht hW => ⟨⟨none, (), rfl, rfl, ⟨by rw [ht]; exact hP9, hD9⟩⟩, hS.F ht⟩) hS.2.2 dX6_choice_23

def wq_X6_phrase_10 : List Cond := [.code yX6_phrase cX6_phrase 4 (some (.object "PhraseDesk$Node")), .methodLink RX6 39 yX6_choice, .instanceMethod yX6_choice, .selects RX6 yX6_choice yX6_choice, .initialized RX6, .code yX6_choice cX6_choice 4 (some (.object "PhraseDesk$Node")), .methodLink RX6 59 yX6_level, .instanceMethod yX6_level, .selects RX6 yX6_level yX6_level, .code yX6_level cX6_level 7 (some (.object "PhraseDesk$Node")), .methodLink RX6 71 yX6_sign, .instanceMethod yX6_sign, .selects RX6 yX6_sign yX6_sign, .code yX6_sign cX6_sign 4 (some (.object "PhraseDesk$Node")), .methodLink RX6 63 yX6_takes, .instanceMethod yX6_takes, .selects RX6 yX6_takes yX6_takes, .code yX6_takes cX6_takes 2 (some .boolean), .methodLink RX6 43 yX6_kind, .instanceMethod yX6_kind, .selects RX6 yX6_kind yX6_kind, .code yX6_kind cX6_kind 1 (some .int), .fieldLink RX6 12 "PhraseDesk$Parser" "lexer" "LPhraseDesk$Lexer;", .fieldLink RX6 18 "PhraseDesk$Parser" "at" "I", .methodLink RX6 136 yX4_kindAt, .instanceMethod yX4_kindAt, .selects RX4 yX4_kindAt yX4_kindAt, .initialized RX4, .code yX4_kindAt cX4_kindAt 2 (some .int), .fieldLink RX4 42 "PhraseDesk$Lexer" "count" "I", .fieldLink RX4 15 "PhraseDesk$Lexer" "kinds" "[I", .methodLink RX6 78 yX6_chain, .instanceMethod yX6_chain, .selects RX6 yX6_chain yX6_chain, .code yX6_chain cX6_chain 5 (some (.object "PhraseDesk$Node")), .methodLink RX6 81 yX6_first, .instanceMethod yX6_first, .selects RX6 yX6_first yX6_first, .code yX6_first cX6_first 2 (some (.object "PhraseDesk$Node")), .methodLink RX6 56 yX6_refuse, .instanceMethod yX6_refuse, .selects RX6 yX6_refuse yX6_refuse, .code yX6_refuse cX6_refuse 2 (some (.object "PhraseDesk$Node")), .fieldLink RX6 22 "PhraseDesk$Parser" "error" "I", .methodLink RX6 139 yX4_placeAt, .instanceMethod yX4_placeAt, .selects RX4 yX4_placeAt yX4_placeAt, .code yX4_placeAt cX4_placeAt 2 (some .int), .fieldLink RX4 19 "PhraseDesk$Lexer" "places" "[I", .fieldLink RX6 29 "PhraseDesk$Parser" "place" "I"]
def wq_X6_phrase_1 : List Cond := wq_X6_phrase_10 ++ wsX60 ++ wsX40
set_option maxHeartbeats 4000000 in
set_option maxRecDepth 100000 in
theorem C_X6_phrase_1 (l : Launch) (D : va_G) (cy : Nat → ClassId) (sz0 : Nat) (sa : Nat → Nat) (a0 a1 a2 a3 a4 a5 a6 a7 : Nat) (sz : Nat)  : Met l yX6_phrase wq_X6_phrase_1 ({ frames := 13, cells := 0, slots := 0, locals := 309 }) (PcW D cy sz0 sa [.ref a0] [(a0, .inr (8, [.ref a1, .int 0, .int 0, .int (-1)])), (a1, .inr (6, [.ref a4, .int 0, .ref a2, .ref a3, .ref a5, .ref a6, .int 1, .ref a7])), (a2, .inl (cy 0, 41, .inl (upd (fun _ => 0) 0 0))), (a3, .inl (cy 0, 41, .inl (upd (fun _ => 0) 0 0)))] sz) (va_Qq (fun (r : Option Nat) (u : Unit) => r = none) (fun (u : Unit) (t : State) => BW D [(a0, .inr (8, [.ref a1, .int 0, .int 2, .int 0])), (a1, .inr (6, [.ref a4, .int 0, .ref a2, .ref a3, .ref a5, .ref a6, .int 1, .ref a7])), (a2, .inl (cy 0, 41, .inl (upd (fun _ => 0) 0 0))), (a3, .inl (cy 0, 41, .inl (upd (fun _ => 0) 0 0)))] (va_A [(a0, .inr (8, [.ref a1, .int 0, .int 0, .int (-1)])), (a1, .inr (6, [.ref a4, .int 0, .ref a2, .ref a3, .ref a5, .ref a6, .int 1, .ref a7])), (a2, .inl (cy 0, 41, .inl (upd (fun _ => 0) 0 0))), (a3, .inl (cy 0, 41, .inl (upd (fun _ => 0) 0 0)))] sz) t) (va_A [(a0, .inr (8, [.ref a1, .int 0, .int 0, .int (-1)])), (a1, .inr (6, [.ref a4, .int 0, .ref a2, .ref a3, .ref a5, .ref a6, .int 1, .ref a7])), (a2, .inl (cy 0, 41, .inl (upd (fun _ => 0) 0 0))), (a3, .inl (cy 0, 41, .inl (upd (fun _ => 0) 0 0)))] sz)) 0 0 (va_A [(a0, .inr (8, [.ref a1, .int 0, .int 0, .int (-1)])), (a1, .inr (6, [.ref a4, .int 0, .ref a2, .ref a3, .ref a5, .ref a6, .int 1, .ref a7])), (a2, .inl (cy 0, 41, .inl (upd (fun _ => 0) 0 0))), (a3, .inl (cy 0, 41, .inl (upd (fun _ => 0) 0 0)))] sz) := by
  refine Met.ofW (cc := cX6_phrase) (maxL := 4) (ret := (some (.object "PhraseDesk$Node"))) (by decide) rfl ?_
  intro p e s m args below meth c s₁ B hml hv
  obtain ⟨rfl, hsz, hP, hD0, hE⟩ := hv
  have hx := B.exec
  have hb := B.bytes
  have hr := B.returns
  have hts := atoms_spec (ws := wq_X6_phrase_1) B.pre
  have hown : s.vm.findClass RX6 = some m.cls := findClass_of_methodNamed B.named
  have hlocks := B.notSynchronized
  subst hsz
  have hK := hE.1
  have hAm := hE.2.2.1
  have hWm := hE.2.2.2
  have hAO := hWm.2.2.2.1
  have hD := hD0.self (sz := s.heap.size)
  have hAF := frA hD0 hE.2.1
  generalize hAe : va_A [(a0, .inr (8, [.ref a1, .int 0, .int 0, .int (-1)])), (a1, .inr (6, [.ref a4, .int 0, .ref a2, .ref a3, .ref a5, .ref a6, .int 1, .ref a7])), (a2, .inl (cy 0, 41, .inl (upd (fun _ => 0) 0 0))), (a3, .inl (cy 0, 41, .inl (upd (fun _ => 0) 0 0)))] s.heap.size = A at hD hAF ⊢
  have hA : ∀ q : Nat, s.heap.size ≤ q → A q := fun q h => by rw [← hAe]; exact Or.inr h
  have hS : va_S A s.heap s.heap [] := va_S.rf
  have hl := lv_entry ([.ref a0]) (n := 4) (Nat.le_of_ble_eq_true rfl)
  rw [lg_entry_eq]
  generalize (lg_sl ([.ref a0]) ++ List.replicate (4 - (lg_sl ([.ref a0])).length) Slot.unset).toArray = ls at hl ⊢
  have hl : lv_has ls 4 [(0, .ref a0)] := hl
  have hP : va_P D vwCl [(a0, .inr (8, [.ref a1, .int 0, .int 0, .int (-1)])), (a1, .inr (6, [.ref a4, .int 0, .ref a2, .ref a3, .ref a5, .ref a6, .int 1, .ref a7])), (a2, .inl (cy 0, 41, .inl (upd (fun _ => 0) 0 0))), (a3, .inl (cy 0, 41, .inl (upd (fun _ => 0) 0 0)))] s.heap := hP
  refine lv_aload_n hx hb dX6_phrase_0 rfl (lv_at hl 0 rfl) ?_
  refine lv_iconst (v := 0) hx hb dX6_phrase_1 (by decide +kernel) ?_
  have hPc := hP.sub (ws' := [(a0, .inr (8, [.ref a1, .int 0, .int 0, .int (-1)])), (a1, .inr (6, [.ref a4, .int 0, .ref a2, .ref a3, .ref a5, .ref a6, .int 1, .ref a7])), (a2, .inl (cy 0, 41, .inl (upd (fun _ => 0) 0 0))), (a3, .inl (cy 0, 41, .inl (upd (fun _ => 0) 0 0)))]) [0, 1, 2, 3] rfl
  have hDc := hD.sub (ws' := [(a0, .inr (8, [.ref a1, .int 0, .int 0, .int (-1)])), (a1, .inr (6, [.ref a4, .int 0, .ref a2, .ref a3, .ref a5, .ref a6, .int 1, .ref a7])), (a2, .inl (cy 0, 41, .inl (upd (fun _ => 0) 0 0))), (a3, .inl (cy 0, 41, .inl (upd (fun _ => 0) 0 0)))]) [0, 1, 2, 3] (by decide) rfl
  have hFc := va_free (wc := [(a0, .inr (8, [.ref a1, .int 0, .int 0, .int (-1)])), (a1, .inr (6, [.ref a4, .int 0, .ref a2, .ref a3, .ref a5, .ref a6, .int 1, .ref a7])), (a2, .inl (cy 0, 41, .inl (upd (fun _ => 0) 0 0))), (a3, .inl (cy 0, 41, .inl (upd (fun _ => 0) 0 0)))]) hD hS hA [0, 1, 2, 3] rfl
  refine va_callq (va_runV (As := [.int 0]) (rest := []) ⟨hx, hb, hml, hown, hts⟩ (C_X6_choice_1 l D cy sz0 sa a0 a1 a2 a3 a4 a5 a6 a7 s.heap.size) (cwV 1 hts (goodIn_app (goodIn_r _ [1, 2, 3, 4] rfl (by decide +kernel)) (goodIn_app (goodIn_app (goodIn_r wq_X6_choice_10 [5, 6, 7, 8, 4, 9, 10, 11, 12, 13, 14, 15, 16, 17, 18, 19, 20, 21, 22, 23, 24, 25, 26, 27, 28, 29, 30, 31, 32, 33, 34, 35, 36, 37, 38, 39, 40, 41, 42, 43, 44, 45, 46, 47, 48, 49] rfl (by decide +kernel)) (goodIn_sub (fun _ h => (List.mem_append_left _ (List.mem_append_right _ h))) (by decide +kernel))) (goodIn_sub (fun _ h => (List.mem_append_right _ h)) (by decide +kernel)))) rfl rfl rfl (by decide +kernel) ⟨Nat.le_of_ble_eq_true rfl, Nat.le_of_ble_eq_true rfl⟩) ⟨PcW.blind, va_recv hK hPc (ci := 8) (q0 := 0) rfl rfl, PcW.mk hE hS hAF hPc hDc⟩ rfl rfl hl.1 rfl (lv_room (Nat.le_of_ble_eq_true rfl)) dX6_phrase_2 ⟨Nat.le_of_ble_eq_true rfl, Nat.le_of_ble_eq_true rfl⟩) hS (fun q _ h => hFc q h) hFc (fun r_1 u t H1 locs ht hvm hw hB hz1 hk1 hS => ?_)
  obtain ⟨hP1, hD1⟩ := hB
  rw [ht] at hP1
  have hP1 : va_P D vwCl [(a0, .inr (8, [.ref a1, .int 0, .int 2, .int 0])), (a1, .inr (6, [.ref a4, .int 0, .ref a2, .ref a3, .ref a5, .ref a6, .int 1, .ref a7])), (a2, .inl (cy 0, 41, .inl (upd (fun _ => 0) 0 0))), (a3, .inl (cy 0, 41, .inl (upd (fun _ => 0) 0 0)))] H1 := hP1
  obtain ⟨hP, hD⟩ := va_join (wr := []) (w1 := [(a0, .inr (8, [.ref a1, .int 0, .int 2, .int 0])), (a1, .inr (6, [.ref a4, .int 0, .ref a2, .ref a3, .ref a5, .ref a6, .int 1, .ref a7])), (a2, .inl (cy 0, 41, .inl (upd (fun _ => 0) 0 0))), (a3, .inl (cy 0, 41, .inl (upd (fun _ => 0) 0 0)))]) hP hD [0, 1, 2, 3] [] rfl rfl (by decide) (by decide) hk1 hFc hP1 hD1
  clear hP1 hD1 hPc hDc hFc hk1 hz1
  generalize H1 = H at hP hS ⊢
  have hP : va_P D vwCl [(a0, .inr (8, [.ref a1, .int 0, .int 2, .int 0])), (a1, .inr (6, [.ref a4, .int 0, .ref a2, .ref a3, .ref a5, .ref a6, .int 1, .ref a7])), (a2, .inl (cy 0, 41, .inl (upd (fun _ => 0) 0 0))), (a3, .inl (cy 0, 41, .inl (upd (fun _ => 0) 0 0)))] H := hP
  have hD : va_D A [(a0, .inr (8, [.ref a1, .int 0, .int 2, .int 0])), (a1, .inr (6, [.ref a4, .int 0, .ref a2, .ref a3, .ref a5, .ref a6, .int 1, .ref a7])), (a2, .inl (cy 0, 41, .inl (upd (fun _ => 0) 0 0))), (a3, .inl (cy 0, 41, .inl (upd (fun _ => 0) 0 0)))] := hD
  refine W.widen (k := 0) (n := 0) (Nat.le_of_ble_eq_true rfl) (Nat.le_of_ble_eq_true rfl) ?_
  obtain rfl : r_1 = none := hw
  refine W.eq (g2 := F0 m 5 ls [.null]) rfl ?_
  refine lv_astore_nN (lv' := [(1, .null), (0, .ref a0)]) hx hb dX6_phrase_5 rfl hl (by decide) rfl (fun ls hl => ?_)
  refine lv_aload_nN hx hb dX6_phrase_6 rfl (lv_at hl 0 rfl) ?_
  refine lv_astore_nN (lv' := [(2, .null), (1, .null), (0, .ref a0)]) hx hb dX6_phrase_7 rfl hl (by decide) rfl (fun ls hl => ?_)
  refine lv_aload_nN hx hb dX6_phrase_8 rfl (lv_at hl 1 rfl) ?_
  refine lv_ifnullN (tgt := 61) hx hb dX6_phrase_9 (by decide) ?_
  refine lv_aload_nN hx hb dX6_phrase_61 rfl (lv_at hl 0 rfl) ?_
  refine lv_ifnullN (tgt := 80) hx hb dX6_phrase_62 (by decide) ?_
  refine lv_aload_nN hx hb dX6_phrase_80 rfl (lv_at hl 0 rfl) ?_
  refine W.widen (k := 0) (n := 0) (Nat.le_of_ble_eq_true rfl) (Nat.le_of_ble_eq_true rfl) ?_
  have hP9 := hP.sub (ws' := [(a0, .inr (8, [.ref a1, .int 0, .int 2, .int 0])), (a1, .inr (6, [.ref a4, .int 0, .ref a2, .ref a3, .ref a5, .ref a6, .int 1, .ref a7])), (a2, .inl (cy 0, 41, .inl (upd (fun _ => 0) 0 0))), (a3, .inl (cy 0, 41, .inl (upd (fun _ => 0) 0 0)))]) [0, 1, 2, 3] rfl
  have hD9 := hD.sub (ws' := [(a0, .inr (8, [.ref a1, .int 0, .int 2, .int 0])), (a1, .inr (6, [.ref a4, .int 0, .ref a2, .ref a3, .ref a5, .ref a6, .int 1, .ref a7])), (a2, .inl (cy 0, 41, .inl (upd (fun _ => 0) 0 0))), (a3, .inl (cy 0, 41, .inl (upd (fun _ => 0) 0 0)))]) [0, 1, 2, 3] (by decide) rfl
  exact W.aret (v := .null) hx hb hr (Or.inl ⟨_, rfl⟩) (Or.inl rfl) (fun t ht hW => ⟨⟨none, (), rfl, rfl, ⟨by rw [ht]; exact hP9, hD9⟩⟩, hS.F ht⟩) hS.2.2 dX6_phrase_81

def wq_X6_read_10 : List Cond := [.code yX6_read cX6_read 2 (some (.object "PhraseDesk$Node")), .fieldLink RX6 18 "PhraseDesk$Parser" "at" "I", .fieldLink RX6 22 "PhraseDesk$Parser" "error" "I", .fieldLink RX6 12 "PhraseDesk$Parser" "lexer" "LPhraseDesk$Lexer;", .methodLink RX6 25 yX4_cut, .instanceMethod yX4_cut, .selects RX4 yX4_cut yX4_cut, .initialized RX4, .code yX4_cut cX4_cut 3 (some .int), .fieldLink RX4 42 "PhraseDesk$Lexer" "count" "I", .fieldLink RX4 38 "PhraseDesk$Lexer" "length" "I", .methodLink RX4 53 yX4_add, .instanceMethod yX4_add, .selects RX4 yX4_add yX4_add, .code yX4_add cX4_add 5 none, .fieldLink RX4 15 "PhraseDesk$Lexer" "kinds" "[I", .fieldLink RX4 19 "PhraseDesk$Lexer" "places" "[I", .fieldLink RX4 22 "PhraseDesk$Lexer" "names" "[I", .fieldLink RX4 27 "PhraseDesk$Lexer" "literals" "[LPhraseDesk$Value;", .fieldLink RX6 29 "PhraseDesk$Parser" "place" "I", .methodLink RX6 32 yX6_phrase, .instanceMethod yX6_phrase, .selects RX6 yX6_phrase yX6_phrase, .initialized RX6, .code yX6_phrase cX6_phrase 4 (some (.object "PhraseDesk$Node")), .methodLink RX6 39 yX6_choice, .instanceMethod yX6_choice, .selects RX6 yX6_choice yX6_choice, .code yX6_choice cX6_choice 4 (some (.object "PhraseDesk$Node")), .methodLink RX6 59 yX6_level, .instanceMethod yX6_level, .selects RX6 yX6_level yX6_level, .code yX6_level cX6_level 7 (some (.object "PhraseDesk$Node")), .methodLink RX6 71 yX6_sign, .instanceMethod yX6_sign, .selects RX6 yX6_sign yX6_sign, .code yX6_sign cX6_sign 4 (some (.object "PhraseDesk$Node")), .methodLink RX6 63 yX6_takes, .instanceMethod yX6_takes, .selects RX6 yX6_takes yX6_takes, .code yX6_takes cX6_takes 2 (some .boolean), .methodLink RX6 43 yX6_kind, .instanceMethod yX6_kind, .selects RX6 yX6_kind yX6_kind, .code yX6_kind cX6_kind 1 (some .int), .methodLink RX6 136 yX4_kindAt, .instanceMethod yX4_kindAt, .selects RX4 yX4_kindAt yX4_kindAt, .code yX4_kindAt cX4_kindAt 2 (some .int), .methodLink RX6 78 yX6_chain, .instanceMethod yX6_chain, .selects RX6 yX6_chain yX6_chain, .code yX6_chain cX6_chain 5 (some (.object "PhraseDesk$Node")), .methodLink RX6 81 yX6_first, .instanceMethod yX6_first, .selects RX6 yX6_first yX6_first, .code yX6_first cX6_first 2 (some (.object "PhraseDesk$Node")), .methodLink RX6 56 yX6_refuse, .instanceMethod yX6_refuse, .selects RX6 yX6_refuse yX6_refuse, .code yX6_refuse cX6_refuse 2 (some (.object "PhraseDesk$Node")), .methodLink RX6 139 yX4_placeAt, .instanceMethod yX4_placeAt, .selects RX4 yX4_placeAt yX4_placeAt, .code yX4_placeAt cX4_placeAt 2 (some .int), .fieldLink RX6 36 "PhraseDesk$Lexer" "length" "I"]
def wq_X6_read_1 : List Cond := wq_X6_read_10 ++ wsX60 ++ wsX40
set_option maxHeartbeats 4000000 in
set_option maxRecDepth 100000 in
theorem C_X6_read_1 (l : Launch) (D : va_G) (cy : Nat → ClassId) (sz0 : Nat) (sa : Nat → Nat) (a0 a1 a2 a3 a4 a5 a6 a7 : Nat) (sz : Nat)  : Met l yX6_read wq_X6_read_1 ({ frames := 14, cells := 0, slots := 0, locals := 332 }) (PcW D cy sz0 sa [.ref a0] [(a0, .inr (8, [.ref a1, .int 0, .int 0, .int 0])), (a1, .inr (6, [.ref a6, .int 0, .ref a2, .ref a3, .ref a4, .ref a5, .int 0, .ref a7])), (a2, .inl (cy 0, 41, .inl (fun _ => 0))), (a3, .inl (cy 0, 41, .inl (fun _ => 0))), (a4, .inl (cy 0, 41, .inl (fun _ => 0))), (a5, .inl (cy 6, 41, .inr (.inr (.inr (.inr (fun _ => none))))))] sz) (va_Qq (fun (r : Option Nat) (u : Unit) => r = none) (fun (u : Unit) (t : State) => BW D [(a0, .inr (8, [.ref a1, .int 0, .int 2, .int 0])), (a1, .inr (6, [.ref a6, .int 0, .ref a2, .ref a3, .ref a4, .ref a5, .int 1, .ref a7])), (a2, .inl (cy 0, 41, .inl (upd (fun _ => 0) 0 0))), (a3, .inl (cy 0, 41, .inl (upd (fun _ => 0) 0 0))), (a4, .inl (cy 0, 41, .inl (upd (fun _ => 0) 0 0))), (a5, .inl (cy 6, 41, .inr (.inr (.inr (.inr (va_up (fun _ => none) 0 none))))))] (va_A [(a0, .inr (8, [.ref a1, .int 0, .int 0, .int 0])), (a1, .inr (6, [.ref a6, .int 0, .ref a2, .ref a3, .ref a4, .ref a5, .int 0, .ref a7])), (a2, .inl (cy 0, 41, .inl (fun _ => 0))), (a3, .inl (cy 0, 41, .inl (fun _ => 0))), (a4, .inl (cy 0, 41, .inl (fun _ => 0))), (a5, .inl (cy 6, 41, .inr (.inr (.inr (.inr (fun _ => none))))))] sz) t) (va_A [(a0, .inr (8, [.ref a1, .int 0, .int 0, .int 0])), (a1, .inr (6, [.ref a6, .int 0, .ref a2, .ref a3, .ref a4, .ref a5, .int 0, .ref a7])), (a2, .inl (cy 0, 41, .inl (fun _ => 0))), (a3, .inl (cy 0, 41, .inl (fun _ => 0))), (a4, .inl (cy 0, 41, .inl (fun _ => 0))), (a5, .inl (cy 6, 41, .inr (.inr (.inr (.inr (fun _ => none))))))] sz)) 0 0 (va_A [(a0, .inr (8, [.ref a1, .int 0, .int 0, .int 0])), (a1, .inr (6, [.ref a6, .int 0, .ref a2, .ref a3, .ref a4, .ref a5, .int 0, .ref a7])), (a2, .inl (cy 0, 41, .inl (fun _ => 0))), (a3, .inl (cy 0, 41, .inl (fun _ => 0))), (a4, .inl (cy 0, 41, .inl (fun _ => 0))), (a5, .inl (cy 6, 41, .inr (.inr (.inr (.inr (fun _ => none))))))] sz) := by
  refine Met.ofW (cc := cX6_read) (maxL := 2) (ret := (some (.object "PhraseDesk$Node"))) (by decide) rfl ?_
  intro p e s m args below meth c s₁ B hml hv
  obtain ⟨rfl, hsz, hP, hD0, hE⟩ := hv
  have hx := B.exec
  have hb := B.bytes
  have hr := B.returns
  have hts := atoms_spec (ws := wq_X6_read_1) B.pre
  have hown : s.vm.findClass RX6 = some m.cls := findClass_of_methodNamed B.named
  have hlocks := B.notSynchronized
  subst hsz
  have hK := hE.1
  have hAm := hE.2.2.1
  have hWm := hE.2.2.2
  have hAO := hWm.2.2.2.1
  have hD := hD0.self (sz := s.heap.size)
  have hAF := frA hD0 hE.2.1
  generalize hAe : va_A [(a0, .inr (8, [.ref a1, .int 0, .int 0, .int 0])), (a1, .inr (6, [.ref a6, .int 0, .ref a2, .ref a3, .ref a4, .ref a5, .int 0, .ref a7])), (a2, .inl (cy 0, 41, .inl (fun _ => 0))), (a3, .inl (cy 0, 41, .inl (fun _ => 0))), (a4, .inl (cy 0, 41, .inl (fun _ => 0))), (a5, .inl (cy 6, 41, .inr (.inr (.inr (.inr (fun _ => none))))))] s.heap.size = A at hD hAF ⊢
  have hA : ∀ q : Nat, s.heap.size ≤ q → A q := fun q h => by rw [← hAe]; exact Or.inr h
  have hS : va_S A s.heap s.heap [] := va_S.rf
  have hl := lv_entry ([.ref a0]) (n := 2) (Nat.le_of_ble_eq_true rfl)
  rw [lg_entry_eq]
  generalize (lg_sl ([.ref a0]) ++ List.replicate (2 - (lg_sl ([.ref a0])).length) Slot.unset).toArray = ls at hl ⊢
  have hl : lv_has ls 2 [(0, .ref a0)] := hl
  have hP : va_P D vwCl [(a0, .inr (8, [.ref a1, .int 0, .int 0, .int 0])), (a1, .inr (6, [.ref a6, .int 0, .ref a2, .ref a3, .ref a4, .ref a5, .int 0, .ref a7])), (a2, .inl (cy 0, 41, .inl (fun _ => 0))), (a3, .inl (cy 0, 41, .inl (fun _ => 0))), (a4, .inl (cy 0, 41, .inl (fun _ => 0))), (a5, .inl (cy 6, 41, .inr (.inr (.inr (.inr (fun _ => none))))))] s.heap := hP
  refine lv_aload_n hx hb dX6_read_0 rfl (lv_at hl 0 rfl) ?_
  refine lv_iconst (v := 0) hx hb dX6_read_1 (by decide +kernel) ?_
  refine va_put (D := D) (ci := 8) (v := .int 0) (ty := .int) (C := RX6) (T := TX6) (N := 4) hx hb hts (fun _ h => (List.mem_append_left _ (List.mem_append_right _ h))) tyX6 tyX6_ok nmX6 hown hK hP hD hS 0 rfl rfl 1 (by decide) (hts (.fieldLink RX6 18 "PhraseDesk$Parser" "at" "I") (List.mem_of_getElem? (i := 1) rfl)) (fun _ h9 => h9) rfl (by decide +kernel) rfl rfl (Nat.le_of_ble_eq_true rfl) dX6_read_2 (fun H locs hP hD hS => ?_)
  have hP : va_P D vwCl [(a0, .inr (8, [.ref a1, .int 0, .int 0, .int 0])), (a1, .inr (6, [.ref a6, .int 0, .ref a2, .ref a3, .ref a4, .ref a5, .int 0, .ref a7])), (a2, .inl (cy 0, 41, .inl (fun _ => 0))), (a3, .inl (cy 0, 41, .inl (fun _ => 0))), (a4, .inl (cy 0, 41, .inl (fun _ => 0))), (a5, .inl (cy 6, 41, .inr (.inr (.inr (.inr (fun _ => none))))))] H := hP
  have hD : va_D A [(a0, .inr (8, [.ref a1, .int 0, .int 0, .int 0])), (a1, .inr (6, [.ref a6, .int 0, .ref a2, .ref a3, .ref a4, .ref a5, .int 0, .ref a7])), (a2, .inl (cy 0, 41, .inl (fun _ => 0))), (a3, .inl (cy 0, 41, .inl (fun _ => 0))), (a4, .inl (cy 0, 41, .inl (fun _ => 0))), (a5, .inl (cy 6, 41, .inr (.inr (.inr (.inr (fun _ => none))))))] := hD
  refine lv_aload_n hx hb dX6_read_5 rfl (lv_at hl 0 rfl) ?_
  refine lv_iconst (v := 0) hx hb dX6_read_6 (by decide +kernel) ?_
  refine va_put (D := D) (ci := 8) (v := .int 0) (ty := .int) (C := RX6) (T := TX6) (N := 4) hx hb hts (fun _ h => (List.mem_append_left _ (List.mem_append_right _ h))) tyX6 tyX6_ok nmX6 hown hK hP hD hS 0 rfl rfl 2 (by decide) (hts (.fieldLink RX6 22 "PhraseDesk$Parser" "error" "I") (List.mem_of_getElem? (i := 2) rfl)) (fun _ h9 => h9) rfl (by decide +kernel) rfl rfl (Nat.le_of_ble_eq_true rfl) dX6_read_7 (fun H locs hP hD hS => ?_)
  have hP : va_P D vwCl [(a0, .inr (8, [.ref a1, .int 0, .int 0, .int 0])), (a1, .inr (6, [.ref a6, .int 0, .ref a2, .ref a3, .ref a4, .ref a5, .int 0, .ref a7])), (a2, .inl (cy 0, 41, .inl (fun _ => 0))), (a3, .inl (cy 0, 41, .inl (fun _ => 0))), (a4, .inl (cy 0, 41, .inl (fun _ => 0))), (a5, .inl (cy 6, 41, .inr (.inr (.inr (.inr (fun _ => none))))))] H := hP
  have hD : va_D A [(a0, .inr (8, [.ref a1, .int 0, .int 0, .int 0])), (a1, .inr (6, [.ref a6, .int 0, .ref a2, .ref a3, .ref a4, .ref a5, .int 0, .ref a7])), (a2, .inl (cy 0, 41, .inl (fun _ => 0))), (a3, .inl (cy 0, 41, .inl (fun _ => 0))), (a4, .inl (cy 0, 41, .inl (fun _ => 0))), (a5, .inl (cy 6, 41, .inr (.inr (.inr (.inr (fun _ => none))))))] := hD
  refine lv_aload_n hx hb dX6_read_10 rfl (lv_at hl 0 rfl) ?_
  refine lv_aload_n hx hb dX6_read_11 rfl (lv_at hl 0 rfl) ?_
  refine va_get (D := D) (ci := 8) (v := .ref a1) (C := RX6) (T := TX6) (N := 4) hx hb hts (fun _ h => (List.mem_append_left _ (List.mem_append_right _ h))) hown hK hP 0 rfl rfl 0 (by decide) (hts (.fieldLink RX6 12 "PhraseDesk$Parser" "lexer" "LPhraseDesk$Lexer;") (List.mem_of_getElem? (i := 3) rfl)) (fun _ h9 => h9) rfl dX6_read_12 ?_
  have hPc := hP.sub (ws' := [(a1, .inr (6, [.ref a6, .int 0, .ref a2, .ref a3, .ref a4, .ref a5, .int 0, .ref a7])), (a2, .inl (cy 0, 41, .inl (fun _ => 0))), (a3, .inl (cy 0, 41, .inl (fun _ => 0))), (a4, .inl (cy 0, 41, .inl (fun _ => 0))), (a5, .inl (cy 6, 41, .inr (.inr (.inr (.inr (fun _ => none))))))]) [1, 2, 3, 4, 5] rfl
  have hDc := hD.sub (ws' := [(a1, .inr (6, [.ref a6, .int 0, .ref a2, .ref a3, .ref a4, .ref a5, .int 0, .ref a7])), (a2, .inl (cy 0, 41, .inl (fun _ => 0))), (a3, .inl (cy 0, 41, .inl (fun _ => 0))), (a4, .inl (cy 0, 41, .inl (fun _ => 0))), (a5, .inl (cy 6, 41, .inr (.inr (.inr (.inr (fun _ => none))))))]) [1, 2, 3, 4, 5] (by decide) rfl
  have hFc := va_free (wc := [(a1, .inr (6, [.ref a6, .int 0, .ref a2, .ref a3, .ref a4, .ref a5, .int 0, .ref a7])), (a2, .inl (cy 0, 41, .inl (fun _ => 0))), (a3, .inl (cy 0, 41, .inl (fun _ => 0))), (a4, .inl (cy 0, 41, .inl (fun _ => 0))), (a5, .inl (cy 6, 41, .inr (.inr (.inr (.inr (fun _ => none))))))]) hD hS hA [1, 2, 3, 4, 5] rfl
  refine va_calli (va_runV (As := []) (rest := [.ref a0]) ⟨hx, hb, hml, hown, hts⟩ (C_X4_cut_1 l D cy sz0 sa a1 a2 a3 a4 a5 a6 a7 H.size) (cwV 0 hts (goodIn_app (goodIn_r _ [4, 5, 6, 7] rfl (by decide +kernel)) (goodIn_app (goodIn_r wq_X4_cut_10 [8, 9, 10, 11, 12, 13, 7, 14, 15, 16, 17, 18] rfl (by decide +kernel)) (goodIn_sub (fun _ h => (List.mem_append_right _ h)) (by decide +kernel)))) rfl rfl rfl (by decide +kernel) ⟨Nat.le_of_ble_eq_true rfl, Nat.le_of_ble_eq_true rfl⟩) ⟨PcW.blind, va_recv hK hPc (ci := 6) (q0 := 0) rfl rfl, PcW.mk hE hS hAF hPc hDc⟩ rfl rfl hl.1 rfl (lv_room (Nat.le_of_ble_eq_true rfl)) dX6_read_15 ⟨Nat.le_of_ble_eq_true rfl, Nat.le_of_ble_eq_true rfl⟩) hS (fun q _ h => hFc q h) hFc (fun r_1 u t H1 locs ht hvm hw hB hz1 hk1 hS => ?_)
  obtain ⟨hP1, hD1⟩ := hB
  rw [ht] at hP1
  have hP1 : va_P D vwCl [(a1, .inr (6, [.ref a6, .int 0, .ref a2, .ref a3, .ref a4, .ref a5, .int 1, .ref a7])), (a2, .inl (cy 0, 41, .inl (upd (fun _ => 0) 0 0))), (a3, .inl (cy 0, 41, .inl (upd (fun _ => 0) 0 0))), (a4, .inl (cy 0, 41, .inl (upd (fun _ => 0) 0 0))), (a5, .inl (cy 6, 41, .inr (.inr (.inr (.inr (va_up (fun _ => none) 0 none))))))] H1 := hP1
  obtain ⟨hP, hD⟩ := va_join (wr := [(a0, .inr (8, [.ref a1, .int 0, .int 0, .int 0]))]) (w1 := [(a1, .inr (6, [.ref a6, .int 0, .ref a2, .ref a3, .ref a4, .ref a5, .int 1, .ref a7])), (a2, .inl (cy 0, 41, .inl (upd (fun _ => 0) 0 0))), (a3, .inl (cy 0, 41, .inl (upd (fun _ => 0) 0 0))), (a4, .inl (cy 0, 41, .inl (upd (fun _ => 0) 0 0))), (a5, .inl (cy 6, 41, .inr (.inr (.inr (.inr (va_up (fun _ => none) 0 none))))))]) hP hD [1, 2, 3, 4, 5] [0] rfl rfl (by decide) (by decide) hk1 hFc hP1 hD1
  clear hP1 hD1 hPc hDc hFc hk1 hz1
  generalize H1 = H at hP hS ⊢
  have hP : va_P D vwCl [(a0, .inr (8, [.ref a1, .int 0, .int 0, .int 0])), (a1, .inr (6, [.ref a6, .int 0, .ref a2, .ref a3, .ref a4, .ref a5, .int 1, .ref a7])), (a2, .inl (cy 0, 41, .inl (upd (fun _ => 0) 0 0))), (a3, .inl (cy 0, 41, .inl (upd (fun _ => 0) 0 0))), (a4, .inl (cy 0, 41, .inl (upd (fun _ => 0) 0 0))), (a5, .inl (cy 6, 41, .inr (.inr (.inr (.inr (va_up (fun _ => none) 0 none))))))] H := hP
  have hD : va_D A [(a0, .inr (8, [.ref a1, .int 0, .int 0, .int 0])), (a1, .inr (6, [.ref a6, .int 0, .ref a2, .ref a3, .ref a4, .ref a5, .int 1, .ref a7])), (a2, .inl (cy 0, 41, .inl (upd (fun _ => 0) 0 0))), (a3, .inl (cy 0, 41, .inl (upd (fun _ => 0) 0 0))), (a4, .inl (cy 0, 41, .inl (upd (fun _ => 0) 0 0))), (a5, .inl (cy 6, 41, .inr (.inr (.inr (.inr (va_up (fun _ => none) 0 none))))))] := hD
  refine W.widen (k := 0) (n := 0) (Nat.le_of_ble_eq_true rfl) (Nat.le_of_ble_eq_true rfl) ?_
  obtain rfl : r_1 = (-1) := hw
  refine va_put (D := D) (ci := 8) (v := .int (-1)) (ty := .int) (C := RX6) (T := TX6) (N := 4) hx hb hts (fun _ h => (List.mem_append_left _ (List.mem_append_right _ h))) tyX6 tyX6_ok nmX6 hown hK hP hD hS 0 rfl rfl 3 (by decide) (hts (.fieldLink RX6 29 "PhraseDesk$Parser" "place" "I") (List.mem_of_getElem? (i := 19) rfl)) (fun _ h9 => h9) rfl (by decide +kernel) rfl rfl (Nat.le_of_ble_eq_true rfl) dX6_read_18 (fun H locs hP hD hS => ?_)
  have hP : va_P D vwCl [(a0, .inr (8, [.ref a1, .int 0, .int 0, .int (-1)])), (a1, .inr (6, [.ref a6, .int 0, .ref a2, .ref a3, .ref a4, .ref a5, .int 1, .ref a7])), (a2, .inl (cy 0, 41, .inl (upd (fun _ => 0) 0 0))), (a3, .inl (cy 0, 41, .inl (upd (fun _ => 0) 0 0))), (a4, .inl (cy 0, 41, .inl (upd (fun _ => 0) 0 0))), (a5, .inl (cy 6, 41, .inr (.inr (.inr (.inr (va_up (fun _ => none) 0 none))))))] H := hP
  have hD : va_D A [(a0, .inr (8, [.ref a1, .int 0, .int 0, .int (-1)])), (a1, .inr (6, [.ref a6, .int 0, .ref a2, .ref a3, .ref a4, .ref a5, .int 1, .ref a7])), (a2, .inl (cy 0, 41, .inl (upd (fun _ => 0) 0 0))), (a3, .inl (cy 0, 41, .inl (upd (fun _ => 0) 0 0))), (a4, .inl (cy 0, 41, .inl (upd (fun _ => 0) 0 0))), (a5, .inl (cy 6, 41, .inr (.inr (.inr (.inr (va_up (fun _ => none) 0 none))))))] := hD
  refine lv_null hx hb dX6_read_21 ?_
  refine lv_astore_nN (lv' := [(1, .null), (0, .ref a0)]) hx hb dX6_read_22 rfl hl (by decide) rfl (fun ls hl => ?_)
  refine lv_aload_n hx hb dX6_read_23 rfl (lv_at hl 1 rfl) ?_
  refine va_get (D := D) (ci := 8) (v := .int (-1)) (C := RX6) (T := TX6) (N := 4) hx hb hts (fun _ h => (List.mem_append_left _ (List.mem_append_right _ h))) hown hK hP 0 rfl rfl 3 (by decide) (hts (.fieldLink RX6 29 "PhraseDesk$Parser" "place" "I") (List.mem_of_getElem? (i := 19) rfl)) (fun _ h9 => h9) rfl dX6_read_24 ?_
  refine lv_iconst (v := (-1)) hx hb dX6_read_27 (by decide +kernel) ?_
  refine lv_icmp_ne (tgt := 39) hx hb dX6_read_28 (by decide) (fun c2 => absurd (by decide +kernel) c2) (fun _ => ?_)
  refine lv_aload_n hx hb dX6_read_31 rfl (lv_at hl 1 rfl) ?_
  have hPc := hP.sub (ws' := [(a0, .inr (8, [.ref a1, .int 0, .int 0, .int (-1)])), (a1, .inr (6, [.ref a6, .int 0, .ref a2, .ref a3, .ref a4, .ref a5, .int 1, .ref a7])), (a2, .inl (cy 0, 41, .inl (upd (fun _ => 0) 0 0))), (a3, .inl (cy 0, 41, .inl (upd (fun _ => 0) 0 0)))]) [0, 1, 2, 3] rfl
  have hDc := hD.sub (ws' := [(a0, .inr (8, [.ref a1, .int 0, .int 0, .int (-1)])), (a1, .inr (6, [.ref a6, .int 0, .ref a2, .ref a3, .ref a4, .ref a5, .int 1, .ref a7])), (a2, .inl (cy 0, 41, .inl (upd (fun _ => 0) 0 0))), (a3, .inl (cy 0, 41, .inl (upd (fun _ => 0) 0 0)))]) [0, 1, 2, 3] (by decide) rfl
  have hFc := va_free (wc := [(a0, .inr (8, [.ref a1, .int 0, .int 0, .int (-1)])), (a1, .inr (6, [.ref a6, .int 0, .ref a2, .ref a3, .ref a4, .ref a5, .int 1, .ref a7])), (a2, .inl (cy 0, 41, .inl (upd (fun _ => 0) 0 0))), (a3, .inl (cy 0, 41, .inl (upd (fun _ => 0) 0 0)))]) hD hS hA [0, 1, 2, 3] rfl
  refine va_callq (va_runV (As := []) (rest := []) ⟨hx, hb, hml, hown, hts⟩ (C_X6_phrase_1 l D cy sz0 sa a0 a1 a2 a3 a6 a4 a5 a7 H.size) (cwV 0 hts (goodIn_app (goodIn_r _ [20, 21, 22, 23] rfl (by decide +kernel)) (goodIn_app (goodIn_app (goodIn_r wq_X6_phrase_10 [24, 25, 26, 27, 23, 28, 29, 30, 31, 32, 33, 34, 35, 36, 37, 38, 39, 40, 41, 42, 43, 44, 3, 1, 45, 46, 47, 7, 48, 9, 15, 49, 50, 51, 52, 53, 54, 55, 56, 57, 58, 59, 60, 2, 61, 62, 63, 64, 16, 19] rfl (by decide +kernel)) (goodIn_sub (fun _ h => (List.mem_append_left _ (List.mem_append_right _ h))) (by decide +kernel))) (goodIn_sub (fun _ h => (List.mem_append_right _ h)) (by decide +kernel)))) rfl rfl rfl (by decide +kernel) ⟨Nat.le_of_ble_eq_true rfl, Nat.le_of_ble_eq_true rfl⟩) ⟨PcW.blind, va_recv hK hPc (ci := 8) (q0 := 0) rfl rfl, PcW.mk hE hS hAF hPc hDc⟩ rfl rfl hl.1 rfl (lv_room (Nat.le_of_ble_eq_true rfl)) dX6_read_32 ⟨Nat.le_of_ble_eq_true rfl, Nat.le_of_ble_eq_true rfl⟩) hS (fun q _ h => hFc q h) hFc (fun r_3 u t H1 locs ht hvm hw hB hz1 hk1 hS => ?_)
  obtain ⟨hP1, hD1⟩ := hB
  rw [ht] at hP1
  have hP1 : va_P D vwCl [(a0, .inr (8, [.ref a1, .int 0, .int 2, .int 0])), (a1, .inr (6, [.ref a6, .int 0, .ref a2, .ref a3, .ref a4, .ref a5, .int 1, .ref a7])), (a2, .inl (cy 0, 41, .inl (upd (fun _ => 0) 0 0))), (a3, .inl (cy 0, 41, .inl (upd (fun _ => 0) 0 0)))] H1 := hP1
  obtain ⟨hP, hD⟩ := va_join (wr := [(a4, .inl (cy 0, 41, .inl (upd (fun _ => 0) 0 0))), (a5, .inl (cy 6, 41, .inr (.inr (.inr (.inr (va_up (fun _ => none) 0 none))))))]) (w1 := [(a0, .inr (8, [.ref a1, .int 0, .int 2, .int 0])), (a1, .inr (6, [.ref a6, .int 0, .ref a2, .ref a3, .ref a4, .ref a5, .int 1, .ref a7])), (a2, .inl (cy 0, 41, .inl (upd (fun _ => 0) 0 0))), (a3, .inl (cy 0, 41, .inl (upd (fun _ => 0) 0 0)))]) hP hD [0, 1, 2, 3] [4, 5] rfl rfl (by decide) (by decide) hk1 hFc hP1 hD1
  clear hP1 hD1 hPc hDc hFc hk1 hz1
  generalize H1 = H at hP hS ⊢
  have hP : va_P D vwCl [(a4, .inl (cy 0, 41, .inl (upd (fun _ => 0) 0 0))), (a5, .inl (cy 6, 41, .inr (.inr (.inr (.inr (va_up (fun _ => none) 0 none)))))), (a0, .inr (8, [.ref a1, .int 0, .int 2, .int 0])), (a1, .inr (6, [.ref a6, .int 0, .ref a2, .ref a3, .ref a4, .ref a5, .int 1, .ref a7])), (a2, .inl (cy 0, 41, .inl (upd (fun _ => 0) 0 0))), (a3, .inl (cy 0, 41, .inl (upd (fun _ => 0) 0 0)))] H := hP
  have hD : va_D A [(a4, .inl (cy 0, 41, .inl (upd (fun _ => 0) 0 0))), (a5, .inl (cy 6, 41, .inr (.inr (.inr (.inr (va_up (fun _ => none) 0 none)))))), (a0, .inr (8, [.ref a1, .int 0, .int 2, .int 0])), (a1, .inr (6, [.ref a6, .int 0, .ref a2, .ref a3, .ref a4, .ref a5, .int 1, .ref a7])), (a2, .inl (cy 0, 41, .inl (upd (fun _ => 0) 0 0))), (a3, .inl (cy 0, 41, .inl (upd (fun _ => 0) 0 0)))] := hD
  refine W.widen (k := 0) (n := 0) (Nat.le_of_ble_eq_true rfl) (Nat.le_of_ble_eq_true rfl) ?_
  obtain rfl : r_3 = none := hw
  refine W.eq (g2 := F0 m 35 ls [.null]) rfl ?_
  refine lv_astore_nN (lv' := [(1, .null), (0, .ref a0)]) hx hb dX6_read_35 rfl hl (by decide) rfl (fun ls hl => ?_)
  refine lv_goto (tgt := 44) hx hb dX6_read_36 (by decide) ?_
  refine lv_aload_n hx hb dX6_read_44 rfl (lv_at hl 1 rfl) ?_
  refine va_get (D := D) (ci := 8) (v := .ref a1) (C := RX6) (T := TX6) (N := 4) hx hb hts (fun _ h => (List.mem_append_left _ (List.mem_append_right _ h))) hown hK hP 2 rfl rfl 0 (by decide) (hts (.fieldLink RX6 12 "PhraseDesk$Parser" "lexer" "LPhraseDesk$Lexer;") (List.mem_of_getElem? (i := 3) rfl)) (fun _ h9 => h9) rfl dX6_read_45 ?_
  refine lv_iconst (v := 0) hx hb dX6_read_48 (by decide +kernel) ?_
  refine va_put (D := D) (ci := 6) (v := .int 0) (ty := .int) (C := RX4) (T := TX4) (N := 8) hx hb hts (fun _ h => (List.mem_append_right _ h)) tyX4 tyX4_ok nmX4 hown hK hP hD hS 3 rfl rfl 1 (by decide) (hts (.fieldLink RX6 36 "PhraseDesk$Lexer" "length" "I") (List.mem_of_getElem? (i := 65) rfl)) (fun _ h9 => h9) rfl (by decide +kernel) rfl rfl (Nat.le_of_ble_eq_true rfl) dX6_read_49 (fun H locs hP hD hS => ?_)
  have hP : va_P D vwCl [(a4, .inl (cy 0, 41, .inl (upd (fun _ => 0) 0 0))), (a5, .inl (cy 6, 41, .inr (.inr (.inr (.inr (va_up (fun _ => none) 0 none)))))), (a0, .inr (8, [.ref a1, .int 0, .int 2, .int 0])), (a1, .inr (6, [.ref a6, .int 0, .ref a2, .ref a3, .ref a4, .ref a5, .int 1, .ref a7])), (a2, .inl (cy 0, 41, .inl (upd (fun _ => 0) 0 0))), (a3, .inl (cy 0, 41, .inl (upd (fun _ => 0) 0 0)))] H := hP
  have hD : va_D A [(a4, .inl (cy 0, 41, .inl (upd (fun _ => 0) 0 0))), (a5, .inl (cy 6, 41, .inr (.inr (.inr (.inr (va_up (fun _ => none) 0 none)))))), (a0, .inr (8, [.ref a1, .int 0, .int 2, .int 0])), (a1, .inr (6, [.ref a6, .int 0, .ref a2, .ref a3, .ref a4, .ref a5, .int 1, .ref a7])), (a2, .inl (cy 0, 41, .inl (upd (fun _ => 0) 0 0))), (a3, .inl (cy 0, 41, .inl (upd (fun _ => 0) 0 0)))] := hD
  refine lv_aload_nN hx hb dX6_read_52 rfl (lv_at hl 0 rfl) ?_
  refine W.widen (k := 0) (n := 0) (Nat.le_of_ble_eq_true rfl) (Nat.le_of_ble_eq_true rfl) ?_
  have hP9 := hP.sub (ws' := [(a0, .inr (8, [.ref a1, .int 0, .int 2, .int 0])), (a1, .inr (6, [.ref a6, .int 0, .ref a2, .ref a3, .ref a4, .ref a5, .int 1, .ref a7])), (a2, .inl (cy 0, 41, .inl (upd (fun _ => 0) 0 0))), (a3, .inl (cy 0, 41, .inl (upd (fun _ => 0) 0 0))), (a4, .inl (cy 0, 41, .inl (upd (fun _ => 0) 0 0))), (a5, .inl (cy 6, 41, .inr (.inr (.inr (.inr (va_up (fun _ => none) 0 none))))))]) [2, 3, 4, 5, 0, 1] rfl
  have hD9 := hD.sub (ws' := [(a0, .inr (8, [.ref a1, .int 0, .int 2, .int 0])), (a1, .inr (6, [.ref a6, .int 0, .ref a2, .ref a3, .ref a4, .ref a5, .int 1, .ref a7])), (a2, .inl (cy 0, 41, .inl (upd (fun _ => 0) 0 0))), (a3, .inl (cy 0, 41, .inl (upd (fun _ => 0) 0 0))), (a4, .inl (cy 0, 41, .inl (upd (fun _ => 0) 0 0))), (a5, .inl (cy 6, 41, .inr (.inr (.inr (.inr (va_up (fun _ => none) 0 none))))))]) [2, 3, 4, 5, 0, 1] (by decide) rfl
  exact W.aret (v := .null) hx hb hr (Or.inl ⟨_, rfl⟩) (Or.inl rfl) (fun t ht hW => ⟨⟨none, (), rfl, rfl, ⟨by rw [ht]; exact hP9, hD9⟩⟩, hS.F ht⟩) hS.2.2 dX6_read_53

def wq_X11_parse_10 : List Cond := [.code yX11_parse cX11_parse 2 (some .int), .fieldLink RX11 75 "PhraseDesk" "programCount" "I", .fieldLink RX11 25 "PhraseDesk" "programs" "[LPhraseDesk$Node;", .fieldLink RX11 10 "PhraseDesk" "parser" "LPhraseDesk$Parser;", .methodLink RX11 80 yX6_read, .instanceMethod yX6_read, .selects RX6 yX6_read yX6_read, .initialized RX6, .code yX6_read cX6_read 2 (some (.object "PhraseDesk$Node")), .fieldLink RX6 18 "PhraseDesk$Parser" "at" "I", .fieldLink RX6 22 "PhraseDesk$Parser" "error" "I", .fieldLink RX6 12 "PhraseDesk$Parser" "lexer" "LPhraseDesk$Lexer;", .methodLink RX6 25 yX4_cut, .instanceMethod yX4_cut, .selects RX4 yX4_cut yX4_cut, .initialized RX4, .code yX4_cut cX4_cut 3 (some .int), .fieldLink RX4 42 "PhraseDesk$Lexer" "count" "I", .fieldLink RX4 38 "PhraseDesk$Lexer" "length" "I", .methodLink RX4 53 yX4_add, .instanceMethod yX4_add, .selects RX4 yX4_add yX4_add, .code yX4_add cX4_add 5 none, .fieldLink RX4 15 "PhraseDesk$Lexer" "kinds" "[I", .fieldLink RX4 19 "PhraseDesk$Lexer" "places" "[I", .fieldLink RX4 22 "PhraseDesk$Lexer" "names" "[I", .fieldLink RX4 27 "PhraseDesk$Lexer" "literals" "[LPhraseDesk$Value;", .fieldLink RX6 29 "PhraseDesk$Parser" "place" "I", .methodLink RX6 32 yX6_phrase, .instanceMethod yX6_phrase, .selects RX6 yX6_phrase yX6_phrase, .code yX6_phrase cX6_phrase 4 (some (.object "PhraseDesk$Node")), .methodLink RX6 39 yX6_choice, .instanceMethod yX6_choice, .selects RX6 yX6_choice yX6_choice, .code yX6_choice cX6_choice 4 (some (.object "PhraseDesk$Node")), .methodLink RX6 59 yX6_level, .instanceMethod yX6_level, .selects RX6 yX6_level yX6_level, .code yX6_level cX6_level 7 (some (.object "PhraseDesk$Node")), .methodLink RX6 71 yX6_sign, .instanceMethod yX6_sign, .selects RX6 yX6_sign yX6_sign, .code yX6_sign cX6_sign 4 (some (.object "PhraseDesk$Node")), .methodLink RX6 63 yX6_takes, .instanceMethod yX6_takes, .selects RX6 yX6_takes yX6_takes, .code yX6_takes cX6_takes 2 (some .boolean), .methodLink RX6 43 yX6_kind, .instanceMethod yX6_kind, .selects RX6 yX6_kind yX6_kind, .code yX6_kind cX6_kind 1 (some .int), .methodLink RX6 136 yX4_kindAt, .instanceMethod yX4_kindAt, .selects RX4 yX4_kindAt yX4_kindAt, .code yX4_kindAt cX4_kindAt 2 (some .int), .methodLink RX6 78 yX6_chain, .instanceMethod yX6_chain, .selects RX6 yX6_chain yX6_chain, .code yX6_chain cX6_chain 5 (some (.object "PhraseDesk$Node")), .methodLink RX6 81 yX6_first, .instanceMethod yX6_first, .selects RX6 yX6_first yX6_first, .code yX6_first cX6_first 2 (some (.object "PhraseDesk$Node")), .methodLink RX6 56 yX6_refuse, .instanceMethod yX6_refuse, .selects RX6 yX6_refuse yX6_refuse, .code yX6_refuse cX6_refuse 2 (some (.object "PhraseDesk$Node")), .methodLink RX6 139 yX4_placeAt, .instanceMethod yX4_placeAt, .selects RX4 yX4_placeAt yX4_placeAt, .code yX4_placeAt cX4_placeAt 2 (some .int), .fieldLink RX6 36 "PhraseDesk$Lexer" "length" "I", .fieldLink RX11 84 "PhraseDesk$Parser" "error" "I", .fieldLink RX11 87 "PhraseDesk$Parser" "place" "I"]
def wq_X11_parse_1 : List Cond := wq_X11_parse_10 ++ wsX110 ++ wsX60 ++ wsX40
set_option maxHeartbeats 4000000 in
set_option maxRecDepth 100000 in
theorem C_X11_parse_1 (l : Launch) (D : va_G) (cy : Nat → ClassId) (sz0 : Nat) (sa : Nat → Nat) (a0 a1 a2 a3 a4 a5 a6 a7 a8 a9 a10 a11 a12 a13 : Nat) (sz : Nat)  : Met l yX11_parse wq_X11_parse_1 ({ frames := 15, cells := 0, slots := 0, locals := 353 }) (PcW D cy sz0 sa [.ref a0] [(a0, .inr (13, [.ref a2, .ref a8, .ref a1, .int 0, .ref a9, .int 0, .ref a10, .int 0, .ref a11])), (a1, .inl (cy 7, 40, .inr (.inr (.inr (.inr (fun _ => none)))))), (a2, .inr (8, [.ref a3, .int 0, .int 0, .int 0])), (a3, .inr (6, [.ref a12, .int 0, .ref a4, .ref a5, .ref a6, .ref a7, .int 0, .ref a13])), (a4, .inl (cy 0, 41, .inl (fun _ => 0))), (a5, .inl (cy 0, 41, .inl (fun _ => 0))), (a6, .inl (cy 0, 41, .inl (fun _ => 0))), (a7, .inl (cy 6, 41, .inr (.inr (.inr (.inr (fun _ => none))))))] sz) (va_Qi (fun (r : Int32) (u : Unit) => r = (-2000)) (fun (_ : Unit) (_ : State) => True) (va_A [(a0, .inr (13, [.ref a2, .ref a8, .ref a1, .int 0, .ref a9, .int 0, .ref a10, .int 0, .ref a11])), (a1, .inl (cy 7, 40, .inr (.inr (.inr (.inr (fun _ => none)))))), (a2, .inr (8, [.ref a3, .int 0, .int 0, .int 0])), (a3, .inr (6, [.ref a12, .int 0, .ref a4, .ref a5, .ref a6, .ref a7, .int 0, .ref a13])), (a4, .inl (cy 0, 41, .inl (fun _ => 0))), (a5, .inl (cy 0, 41, .inl (fun _ => 0))), (a6, .inl (cy 0, 41, .inl (fun _ => 0))), (a7, .inl (cy 6, 41, .inr (.inr (.inr (.inr (fun _ => none))))))] sz)) 0 0 (va_A [(a0, .inr (13, [.ref a2, .ref a8, .ref a1, .int 0, .ref a9, .int 0, .ref a10, .int 0, .ref a11])), (a1, .inl (cy 7, 40, .inr (.inr (.inr (.inr (fun _ => none)))))), (a2, .inr (8, [.ref a3, .int 0, .int 0, .int 0])), (a3, .inr (6, [.ref a12, .int 0, .ref a4, .ref a5, .ref a6, .ref a7, .int 0, .ref a13])), (a4, .inl (cy 0, 41, .inl (fun _ => 0))), (a5, .inl (cy 0, 41, .inl (fun _ => 0))), (a6, .inl (cy 0, 41, .inl (fun _ => 0))), (a7, .inl (cy 6, 41, .inr (.inr (.inr (.inr (fun _ => none))))))] sz) := by
  refine Met.ofW (cc := cX11_parse) (maxL := 2) (ret := (some .int)) (by decide) rfl ?_
  intro p e s m args below meth c s₁ B hml hv
  obtain ⟨rfl, hsz, hP, hD0, hE⟩ := hv
  have hx := B.exec
  have hb := B.bytes
  have hr := B.returns
  have hts := atoms_spec (ws := wq_X11_parse_1) B.pre
  have hown : s.vm.findClass RX11 = some m.cls := findClass_of_methodNamed B.named
  have hlocks := B.notSynchronized
  subst hsz
  have hK := hE.1
  have hAm := hE.2.2.1
  have hWm := hE.2.2.2
  have hAO := hWm.2.2.2.1
  have hD := hD0.self (sz := s.heap.size)
  have hAF := frA hD0 hE.2.1
  generalize hAe : va_A [(a0, .inr (13, [.ref a2, .ref a8, .ref a1, .int 0, .ref a9, .int 0, .ref a10, .int 0, .ref a11])), (a1, .inl (cy 7, 40, .inr (.inr (.inr (.inr (fun _ => none)))))), (a2, .inr (8, [.ref a3, .int 0, .int 0, .int 0])), (a3, .inr (6, [.ref a12, .int 0, .ref a4, .ref a5, .ref a6, .ref a7, .int 0, .ref a13])), (a4, .inl (cy 0, 41, .inl (fun _ => 0))), (a5, .inl (cy 0, 41, .inl (fun _ => 0))), (a6, .inl (cy 0, 41, .inl (fun _ => 0))), (a7, .inl (cy 6, 41, .inr (.inr (.inr (.inr (fun _ => none))))))] s.heap.size = A at hD hAF ⊢
  have hA : ∀ q : Nat, s.heap.size ≤ q → A q := fun q h => by rw [← hAe]; exact Or.inr h
  have hS : va_S A s.heap s.heap [] := va_S.rf
  have hl := lv_entry ([.ref a0]) (n := 2) (Nat.le_of_ble_eq_true rfl)
  rw [lg_entry_eq]
  generalize (lg_sl ([.ref a0]) ++ List.replicate (2 - (lg_sl ([.ref a0])).length) Slot.unset).toArray = ls at hl ⊢
  have hl : lv_has ls 2 [(0, .ref a0)] := hl
  have hP : va_P D vwCl [(a0, .inr (13, [.ref a2, .ref a8, .ref a1, .int 0, .ref a9, .int 0, .ref a10, .int 0, .ref a11])), (a1, .inl (cy 7, 40, .inr (.inr (.inr (.inr (fun _ => none)))))), (a2, .inr (8, [.ref a3, .int 0, .int 0, .int 0])), (a3, .inr (6, [.ref a12, .int 0, .ref a4, .ref a5, .ref a6, .ref a7, .int 0, .ref a13])), (a4, .inl (cy 0, 41, .inl (fun _ => 0))), (a5, .inl (cy 0, 41, .inl (fun _ => 0))), (a6, .inl (cy 0, 41, .inl (fun _ => 0))), (a7, .inl (cy 6, 41, .inr (.inr (.inr (.inr (fun _ => none))))))] s.heap := hP
  refine lv_aload_n hx hb dX11_parse_0 rfl (lv_at hl 0 rfl) ?_
  refine va_get (D := D) (ci := 13) (v := .int 0) (C := RX11) (T := TX11) (N := 9) hx hb hts (fun _ h => (List.mem_append_left _ (List.mem_append_left _ (List.mem_append_right _ h)))) hown hK hP 0 rfl rfl 3 (by decide) (hts (.fieldLink RX11 75 "PhraseDesk" "programCount" "I") (List.mem_of_getElem? (i := 1) rfl)) (fun _ h9 => h9) rfl dX11_parse_1 ?_
  refine lv_aload_n hx hb dX11_parse_4 rfl (lv_at hl 0 rfl) ?_
  refine va_get (D := D) (ci := 13) (v := .ref a1) (C := RX11) (T := TX11) (N := 9) hx hb hts (fun _ h => (List.mem_append_left _ (List.mem_append_left _ (List.mem_append_right _ h)))) hown hK hP 0 rfl rfl 2 (by decide) (hts (.fieldLink RX11 25 "PhraseDesk" "programs" "[LPhraseDesk$Node;") (List.mem_of_getElem? (i := 2) rfl)) (fun _ h9 => h9) rfl dX11_parse_5 ?_
  refine va_alen (v := 40) hx hb hK hP 1 7 rfl rfl rfl dX11_parse_8 ?_
  refine lv_icmp_lt (tgt := 22) hx hb dX11_parse_9 (by decide) (fun _ => ?_) (fun c1 => absurd (by decide +kernel) c1)
  refine lv_aload_n hx hb dX11_parse_22 rfl (lv_at hl 0 rfl) ?_
  refine va_get (D := D) (ci := 13) (v := .ref a2) (C := RX11) (T := TX11) (N := 9) hx hb hts (fun _ h => (List.mem_append_left _ (List.mem_append_left _ (List.mem_append_right _ h)))) hown hK hP 0 rfl rfl 0 (by decide) (hts (.fieldLink RX11 10 "PhraseDesk" "parser" "LPhraseDesk$Parser;") (List.mem_of_getElem? (i := 3) rfl)) (fun _ h9 => h9) rfl dX11_parse_23 ?_
  have hPc := hP.sub (ws' := [(a2, .inr (8, [.ref a3, .int 0, .int 0, .int 0])), (a3, .inr (6, [.ref a12, .int 0, .ref a4, .ref a5, .ref a6, .ref a7, .int 0, .ref a13])), (a4, .inl (cy 0, 41, .inl (fun _ => 0))), (a5, .inl (cy 0, 41, .inl (fun _ => 0))), (a6, .inl (cy 0, 41, .inl (fun _ => 0))), (a7, .inl (cy 6, 41, .inr (.inr (.inr (.inr (fun _ => none))))))]) [2, 3, 4, 5, 6, 7] rfl
  have hDc := hD.sub (ws' := [(a2, .inr (8, [.ref a3, .int 0, .int 0, .int 0])), (a3, .inr (6, [.ref a12, .int 0, .ref a4, .ref a5, .ref a6, .ref a7, .int 0, .ref a13])), (a4, .inl (cy 0, 41, .inl (fun _ => 0))), (a5, .inl (cy 0, 41, .inl (fun _ => 0))), (a6, .inl (cy 0, 41, .inl (fun _ => 0))), (a7, .inl (cy 6, 41, .inr (.inr (.inr (.inr (fun _ => none))))))]) [2, 3, 4, 5, 6, 7] (by decide) rfl
  have hFc := va_free (wc := [(a2, .inr (8, [.ref a3, .int 0, .int 0, .int 0])), (a3, .inr (6, [.ref a12, .int 0, .ref a4, .ref a5, .ref a6, .ref a7, .int 0, .ref a13])), (a4, .inl (cy 0, 41, .inl (fun _ => 0))), (a5, .inl (cy 0, 41, .inl (fun _ => 0))), (a6, .inl (cy 0, 41, .inl (fun _ => 0))), (a7, .inl (cy 6, 41, .inr (.inr (.inr (.inr (fun _ => none))))))]) hD hS hA [2, 3, 4, 5, 6, 7] rfl
  refine va_callq (va_runV (As := []) (rest := []) ⟨hx, hb, hml, hown, hts⟩ (C_X6_read_1 l D cy sz0 sa a2 a3 a4 a5 a6 a7 a12 a13 s.heap.size) (cwV 0 hts (goodIn_app (goodIn_r _ [4, 5, 6, 7] rfl (by decide +kernel)) (goodIn_app (goodIn_app (goodIn_r wq_X6_read_10 [8, 9, 10, 11, 12, 13, 14, 15, 16, 17, 18, 19, 20, 21, 22, 23, 24, 25, 26, 27, 28, 29, 30, 7, 31, 32, 33, 34, 35, 36, 37, 38, 39, 40, 41, 42, 43, 44, 45, 46, 47, 48, 49, 50, 51, 52, 53, 54, 55, 56, 57, 58, 59, 60, 61, 62, 63, 64, 65, 66, 67, 68, 69, 70, 71, 72] rfl (by decide +kernel)) (goodIn_sub (fun _ h => (List.mem_append_left _ (List.mem_append_right _ h))) (by decide +kernel))) (goodIn_sub (fun _ h => (List.mem_append_right _ h)) (by decide +kernel)))) rfl rfl rfl (by decide +kernel) ⟨Nat.le_of_ble_eq_true rfl, Nat.le_of_ble_eq_true rfl⟩) ⟨PcW.blind, va_recv hK hPc (ci := 8) (q0 := 0) rfl rfl, PcW.mk hE hS hAF hPc hDc⟩ rfl rfl hl.1 rfl (lv_room (Nat.le_of_ble_eq_true rfl)) dX11_parse_26 ⟨Nat.le_of_ble_eq_true rfl, Nat.le_of_ble_eq_true rfl⟩) hS (fun q _ h => hFc q h) hFc (fun r_2 u t H1 locs ht hvm hw hB hz1 hk1 hS => ?_)
  obtain ⟨hP1, hD1⟩ := hB
  rw [ht] at hP1
  have hP1 : va_P D vwCl [(a2, .inr (8, [.ref a3, .int 0, .int 2, .int 0])), (a3, .inr (6, [.ref a12, .int 0, .ref a4, .ref a5, .ref a6, .ref a7, .int 1, .ref a13])), (a4, .inl (cy 0, 41, .inl (upd (fun _ => 0) 0 0))), (a5, .inl (cy 0, 41, .inl (upd (fun _ => 0) 0 0))), (a6, .inl (cy 0, 41, .inl (upd (fun _ => 0) 0 0))), (a7, .inl (cy 6, 41, .inr (.inr (.inr (.inr (va_up (fun _ => none) 0 none))))))] H1 := hP1
  obtain ⟨hP, hD⟩ := va_join (wr := [(a0, .inr (13, [.ref a2, .ref a8, .ref a1, .int 0, .ref a9, .int 0, .ref a10, .int 0, .ref a11])), (a1, .inl (cy 7, 40, .inr (.inr (.inr (.inr (fun _ => none))))))]) (w1 := [(a2, .inr (8, [.ref a3, .int 0, .int 2, .int 0])), (a3, .inr (6, [.ref a12, .int 0, .ref a4, .ref a5, .ref a6, .ref a7, .int 1, .ref a13])), (a4, .inl (cy 0, 41, .inl (upd (fun _ => 0) 0 0))), (a5, .inl (cy 0, 41, .inl (upd (fun _ => 0) 0 0))), (a6, .inl (cy 0, 41, .inl (upd (fun _ => 0) 0 0))), (a7, .inl (cy 6, 41, .inr (.inr (.inr (.inr (va_up (fun _ => none) 0 none))))))]) hP hD [2, 3, 4, 5, 6, 7] [0, 1] rfl rfl (by decide) (by decide) hk1 hFc hP1 hD1
  clear hP1 hD1 hPc hDc hFc hk1 hz1
  generalize H1 = H at hP hS ⊢
  have hP : va_P D vwCl [(a0, .inr (13, [.ref a2, .ref a8, .ref a1, .int 0, .ref a9, .int 0, .ref a10, .int 0, .ref a11])), (a1, .inl (cy 7, 40, .inr (.inr (.inr (.inr (fun _ => none)))))), (a2, .inr (8, [.ref a3, .int 0, .int 2, .int 0])), (a3, .inr (6, [.ref a12, .int 0, .ref a4, .ref a5, .ref a6, .ref a7, .int 1, .ref a13])), (a4, .inl (cy 0, 41, .inl (upd (fun _ => 0) 0 0))), (a5, .inl (cy 0, 41, .inl (upd (fun _ => 0) 0 0))), (a6, .inl (cy 0, 41, .inl (upd (fun _ => 0) 0 0))), (a7, .inl (cy 6, 41, .inr (.inr (.inr (.inr (va_up (fun _ => none) 0 none))))))] H := hP
  have hD : va_D A [(a0, .inr (13, [.ref a2, .ref a8, .ref a1, .int 0, .ref a9, .int 0, .ref a10, .int 0, .ref a11])), (a1, .inl (cy 7, 40, .inr (.inr (.inr (.inr (fun _ => none)))))), (a2, .inr (8, [.ref a3, .int 0, .int 2, .int 0])), (a3, .inr (6, [.ref a12, .int 0, .ref a4, .ref a5, .ref a6, .ref a7, .int 1, .ref a13])), (a4, .inl (cy 0, 41, .inl (upd (fun _ => 0) 0 0))), (a5, .inl (cy 0, 41, .inl (upd (fun _ => 0) 0 0))), (a6, .inl (cy 0, 41, .inl (upd (fun _ => 0) 0 0))), (a7, .inl (cy 6, 41, .inr (.inr (.inr (.inr (va_up (fun _ => none) 0 none))))))] := hD
  refine W.widen (k := 0) (n := 0) (Nat.le_of_ble_eq_true rfl) (Nat.le_of_ble_eq_true rfl) ?_
  obtain rfl : r_2 = none := hw
  refine W.eq (g2 := F0 m 29 ls [.null]) rfl ?_
  refine lv_astore_nN (lv' := [(1, .null), (0, .ref a0)]) hx hb dX11_parse_29 rfl hl (by decide) rfl (fun ls hl => ?_)
  refine lv_aload_nN hx hb dX11_parse_30 rfl (lv_at hl 0 rfl) ?_
  refine lv_ifnonnullN hx hb dX11_parse_31 ?_
  refine lv_sipush (v := (-1000)) hx hb dX11_parse_34 (by decide +kernel) ?_
  refine lv_aload_n hx hb dX11_parse_37 rfl (lv_at hl 1 rfl) ?_
  refine va_get (D := D) (ci := 13) (v := .ref a2) (C := RX11) (T := TX11) (N := 9) hx hb hts (fun _ h => (List.mem_append_left _ (List.mem_append_left _ (List.mem_append_right _ h)))) hown hK hP 0 rfl rfl 0 (by decide) (hts (.fieldLink RX11 10 "PhraseDesk" "parser" "LPhraseDesk$Parser;") (List.mem_of_getElem? (i := 3) rfl)) (fun _ h9 => h9) rfl dX11_parse_38 ?_
  refine va_get (D := D) (ci := 8) (v := .int 2) (C := RX6) (T := TX6) (N := 4) hx hb hts (fun _ h => (List.mem_append_left _ (List.mem_append_right _ h))) hown hK hP 2 rfl rfl 2 (by decide) (hts (.fieldLink RX11 84 "PhraseDesk$Parser" "error" "I") (List.mem_of_getElem? (i := 73) rfl)) (fun _ h9 => h9) rfl dX11_parse_41 ?_
  refine lv_imul hx hb dX11_parse_44 ?_
  refine lv_topi (fun x3 ex3 => ?_)
  obtain rfl : x3 = (-2000) := ex3.trans (by decide +kernel)
  refine lv_aload_n hx hb dX11_parse_45 rfl (lv_at hl 1 rfl) ?_
  refine va_get (D := D) (ci := 13) (v := .ref a2) (C := RX11) (T := TX11) (N := 9) hx hb hts (fun _ h => (List.mem_append_left _ (List.mem_append_left _ (List.mem_append_right _ h)))) hown hK hP 0 rfl rfl 0 (by decide) (hts (.fieldLink RX11 10 "PhraseDesk" "parser" "LPhraseDesk$Parser;") (List.mem_of_getElem? (i := 3) rfl)) (fun _ h9 => h9) rfl dX11_parse_46 ?_
  refine va_get (D := D) (ci := 8) (v := .int 0) (C := RX6) (T := TX6) (N := 4) hx hb hts (fun _ h => (List.mem_append_left _ (List.mem_append_right _ h))) hown hK hP 2 rfl rfl 3 (by decide) (hts (.fieldLink RX11 87 "PhraseDesk$Parser" "place" "I") (List.mem_of_getElem? (i := 74) rfl)) (fun _ h9 => h9) rfl dX11_parse_49 ?_
  refine lv_isub hx hb dX11_parse_52 ?_
  refine lv_topi (fun x4 ex4 => ?_)
  obtain rfl : x4 = (-2000) := ex4.trans (by decide +kernel)
  refine W.widen (k := 0) (n := 0) (Nat.le_of_ble_eq_true rfl) (Nat.le_of_ble_eq_true rfl) ?_
  exact W.iret (v := (-2000)) hx hb hr (fun t ht hW => ⟨⟨(-2000), (), rfl, rfl, trivial⟩, hS.F ht⟩) hS.2.2 dX11_parse_53

def wq_L_parse_10 : List Cond := [.codeWith yL_parse cL_parse 3 (some .int) [(0, 8, 11, 15)], .methodLink RL 17 yX11_parse, .instanceMethod yX11_parse, .selects RX11 yX11_parse yX11_parse, .initialized RX11, .code yX11_parse cX11_parse 2 (some .int), .fieldLink RX11 75 "PhraseDesk" "programCount" "I", .fieldLink RX11 25 "PhraseDesk" "programs" "[LPhraseDesk$Node;", .fieldLink RX11 10 "PhraseDesk" "parser" "LPhraseDesk$Parser;", .methodLink RX11 80 yX6_read, .instanceMethod yX6_read, .selects RX6 yX6_read yX6_read, .initialized RX6, .code yX6_read cX6_read 2 (some (.object "PhraseDesk$Node")), .fieldLink RX6 18 "PhraseDesk$Parser" "at" "I", .fieldLink RX6 22 "PhraseDesk$Parser" "error" "I", .fieldLink RX6 12 "PhraseDesk$Parser" "lexer" "LPhraseDesk$Lexer;", .methodLink RX6 25 yX4_cut, .instanceMethod yX4_cut, .selects RX4 yX4_cut yX4_cut, .initialized RX4, .code yX4_cut cX4_cut 3 (some .int), .fieldLink RX4 42 "PhraseDesk$Lexer" "count" "I", .fieldLink RX4 38 "PhraseDesk$Lexer" "length" "I", .methodLink RX4 53 yX4_add, .instanceMethod yX4_add, .selects RX4 yX4_add yX4_add, .code yX4_add cX4_add 5 none, .fieldLink RX4 15 "PhraseDesk$Lexer" "kinds" "[I", .fieldLink RX4 19 "PhraseDesk$Lexer" "places" "[I", .fieldLink RX4 22 "PhraseDesk$Lexer" "names" "[I", .fieldLink RX4 27 "PhraseDesk$Lexer" "literals" "[LPhraseDesk$Value;", .fieldLink RX6 29 "PhraseDesk$Parser" "place" "I", .methodLink RX6 32 yX6_phrase, .instanceMethod yX6_phrase, .selects RX6 yX6_phrase yX6_phrase, .code yX6_phrase cX6_phrase 4 (some (.object "PhraseDesk$Node")), .methodLink RX6 39 yX6_choice, .instanceMethod yX6_choice, .selects RX6 yX6_choice yX6_choice, .code yX6_choice cX6_choice 4 (some (.object "PhraseDesk$Node")), .methodLink RX6 59 yX6_level, .instanceMethod yX6_level, .selects RX6 yX6_level yX6_level, .code yX6_level cX6_level 7 (some (.object "PhraseDesk$Node")), .methodLink RX6 71 yX6_sign, .instanceMethod yX6_sign, .selects RX6 yX6_sign yX6_sign, .code yX6_sign cX6_sign 4 (some (.object "PhraseDesk$Node")), .methodLink RX6 63 yX6_takes, .instanceMethod yX6_takes, .selects RX6 yX6_takes yX6_takes, .code yX6_takes cX6_takes 2 (some .boolean), .methodLink RX6 43 yX6_kind, .instanceMethod yX6_kind, .selects RX6 yX6_kind yX6_kind, .code yX6_kind cX6_kind 1 (some .int), .methodLink RX6 136 yX4_kindAt, .instanceMethod yX4_kindAt, .selects RX4 yX4_kindAt yX4_kindAt, .code yX4_kindAt cX4_kindAt 2 (some .int), .methodLink RX6 78 yX6_chain, .instanceMethod yX6_chain, .selects RX6 yX6_chain yX6_chain, .code yX6_chain cX6_chain 5 (some (.object "PhraseDesk$Node")), .methodLink RX6 81 yX6_first, .instanceMethod yX6_first, .selects RX6 yX6_first yX6_first, .code yX6_first cX6_first 2 (some (.object "PhraseDesk$Node")), .methodLink RX6 56 yX6_refuse, .instanceMethod yX6_refuse, .selects RX6 yX6_refuse yX6_refuse, .code yX6_refuse cX6_refuse 2 (some (.object "PhraseDesk$Node")), .methodLink RX6 139 yX4_placeAt, .instanceMethod yX4_placeAt, .selects RX4 yX4_placeAt yX4_placeAt, .code yX4_placeAt cX4_placeAt 2 (some .int), .fieldLink RX6 36 "PhraseDesk$Lexer" "length" "I", .fieldLink RX11 84 "PhraseDesk$Parser" "error" "I", .fieldLink RX11 87 "PhraseDesk$Parser" "place" "I"]
def wq_L_parse_1 : List Cond := wq_L_parse_10 ++ wsX110 ++ wsX60 ++ wsX40
set_option maxHeartbeats 4000000 in
set_option maxRecDepth 100000 in
theorem C_L_parse_1 (l : Launch) (hfl : l.stackTraces = false) (D : va_G) (cy : Nat → ClassId) (sz0 : Nat) (sa : Nat → Nat) (a0 a1 a2 a3 a4 a5 a6 a7 a8 a9 a10 a11 a12 a13 a14 : Nat) (sz : Nat)  : Met l yL_parse wq_L_parse_1 ({ frames := 16, cells := 0, slots := 0, locals := 374 }) (PcW D cy sz0 sa [.ref a0, .ref a1] [(a0, .inr (13, [.ref a3, .ref a9, .ref a2, .int 0, .ref a10, .int 0, .ref a11, .int 0, .ref a12])), (a2, .inl (cy 7, 40, .inr (.inr (.inr (.inr (fun _ => none)))))), (a3, .inr (8, [.ref a4, .int 0, .int 0, .int 0])), (a4, .inr (6, [.ref a13, .int 0, .ref a5, .ref a6, .ref a7, .ref a8, .int 0, .ref a14])), (a5, .inl (cy 0, 41, .inl (fun _ => 0))), (a6, .inl (cy 0, 41, .inl (fun _ => 0))), (a7, .inl (cy 0, 41, .inl (fun _ => 0))), (a8, .inl (cy 6, 41, .inr (.inr (.inr (.inr (fun _ => none)))))), (a1, .inl (cy 1, 1, .inr (.inl (fun _ => 0))))] sz) (va_Qi (fun (r : Int32) (u : Int64) => r = 0 ∧ u = (-2000)) (fun (u : Int64) (t : State) => ∃ f : Nat → Int64, BW D [(a1, .inl (cy 1, 1, .inr (.inl f)))] (va_A [(a0, .inr (13, [.ref a3, .ref a9, .ref a2, .int 0, .ref a10, .int 0, .ref a11, .int 0, .ref a12])), (a2, .inl (cy 7, 40, .inr (.inr (.inr (.inr (fun _ => none)))))), (a3, .inr (8, [.ref a4, .int 0, .int 0, .int 0])), (a4, .inr (6, [.ref a13, .int 0, .ref a5, .ref a6, .ref a7, .ref a8, .int 0, .ref a14])), (a5, .inl (cy 0, 41, .inl (fun _ => 0))), (a6, .inl (cy 0, 41, .inl (fun _ => 0))), (a7, .inl (cy 0, 41, .inl (fun _ => 0))), (a8, .inl (cy 6, 41, .inr (.inr (.inr (.inr (fun _ => none)))))), (a1, .inl (cy 1, 1, .inr (.inl (fun _ => 0))))] sz) t ∧ f 0 = u) (va_A [(a0, .inr (13, [.ref a3, .ref a9, .ref a2, .int 0, .ref a10, .int 0, .ref a11, .int 0, .ref a12])), (a2, .inl (cy 7, 40, .inr (.inr (.inr (.inr (fun _ => none)))))), (a3, .inr (8, [.ref a4, .int 0, .int 0, .int 0])), (a4, .inr (6, [.ref a13, .int 0, .ref a5, .ref a6, .ref a7, .ref a8, .int 0, .ref a14])), (a5, .inl (cy 0, 41, .inl (fun _ => 0))), (a6, .inl (cy 0, 41, .inl (fun _ => 0))), (a7, .inl (cy 0, 41, .inl (fun _ => 0))), (a8, .inl (cy 6, 41, .inr (.inr (.inr (.inr (fun _ => none)))))), (a1, .inl (cy 1, 1, .inr (.inl (fun _ => 0))))] sz)) 0 0 (va_A [(a0, .inr (13, [.ref a3, .ref a9, .ref a2, .int 0, .ref a10, .int 0, .ref a11, .int 0, .ref a12])), (a2, .inl (cy 7, 40, .inr (.inr (.inr (.inr (fun _ => none)))))), (a3, .inr (8, [.ref a4, .int 0, .int 0, .int 0])), (a4, .inr (6, [.ref a13, .int 0, .ref a5, .ref a6, .ref a7, .ref a8, .int 0, .ref a14])), (a5, .inl (cy 0, 41, .inl (fun _ => 0))), (a6, .inl (cy 0, 41, .inl (fun _ => 0))), (a7, .inl (cy 0, 41, .inl (fun _ => 0))), (a8, .inl (cy 6, 41, .inr (.inr (.inr (.inr (fun _ => none)))))), (a1, .inl (cy 1, 1, .inr (.inl (fun _ => 0))))] sz) := by
  refine va_MetW (cc := cL_parse) (maxL := 3) (ret := (some .int)) (hh := [(0, 8, 11, 15)]) (by decide) rfl ?_
  intro p e s m args below meth c s₁ B hml hv
  obtain ⟨rfl, hsz, hP, hD0, hE⟩ := hv
  have hx := B.exec
  have hb := B.bytes
  have hr := B.returns
  have hts := atoms_spec (ws := wq_L_parse_1) B.pre
  have hown : s.vm.findClass RL = some m.cls := findClass_of_methodNamed B.named
  have hlocks := B.notSynchronized
  subst hsz
  have hK := hE.1
  have hAm := hE.2.2.1
  have hWm := hE.2.2.2
  have hAO := hWm.2.2.2.1
  have hD := hD0.self (sz := s.heap.size)
  have hAF := frA hD0 hE.2.1
  generalize hAe : va_A [(a0, .inr (13, [.ref a3, .ref a9, .ref a2, .int 0, .ref a10, .int 0, .ref a11, .int 0, .ref a12])), (a2, .inl (cy 7, 40, .inr (.inr (.inr (.inr (fun _ => none)))))), (a3, .inr (8, [.ref a4, .int 0, .int 0, .int 0])), (a4, .inr (6, [.ref a13, .int 0, .ref a5, .ref a6, .ref a7, .ref a8, .int 0, .ref a14])), (a5, .inl (cy 0, 41, .inl (fun _ => 0))), (a6, .inl (cy 0, 41, .inl (fun _ => 0))), (a7, .inl (cy 0, 41, .inl (fun _ => 0))), (a8, .inl (cy 6, 41, .inr (.inr (.inr (.inr (fun _ => none)))))), (a1, .inl (cy 1, 1, .inr (.inl (fun _ => 0))))] s.heap.size = A at hD hAF ⊢
  have hA : ∀ q : Nat, s.heap.size ≤ q → A q := fun q h => by rw [← hAe]; exact Or.inr h
  have hS : va_S A s.heap s.heap [] := va_S.rf
  have hl := lv_entry ([.ref a0, .ref a1]) (n := 3) (Nat.le_of_ble_eq_true rfl)
  rw [lg_entry_eq]
  generalize (lg_sl ([.ref a0, .ref a1]) ++ List.replicate (3 - (lg_sl ([.ref a0, .ref a1])).length) Slot.unset).toArray = ls at hl ⊢
  have hl : lv_has ls 3 [(0, .ref a0), (1, .ref a1)] := hl
  have hP : va_P D vwCl [(a0, .inr (13, [.ref a3, .ref a9, .ref a2, .int 0, .ref a10, .int 0, .ref a11, .int 0, .ref a12])), (a2, .inl (cy 7, 40, .inr (.inr (.inr (.inr (fun _ => none)))))), (a3, .inr (8, [.ref a4, .int 0, .int 0, .int 0])), (a4, .inr (6, [.ref a13, .int 0, .ref a5, .ref a6, .ref a7, .ref a8, .int 0, .ref a14])), (a5, .inl (cy 0, 41, .inl (fun _ => 0))), (a6, .inl (cy 0, 41, .inl (fun _ => 0))), (a7, .inl (cy 0, 41, .inl (fun _ => 0))), (a8, .inl (cy 6, 41, .inr (.inr (.inr (.inr (fun _ => none)))))), (a1, .inl (cy 1, 1, .inr (.inl (fun _ => 0))))] s.heap := hP
  refine lv_aload_n hx hb dL_parse_0 rfl (lv_at hl 1 rfl) ?_
  refine lv_iconst (v := 0) hx hb dL_parse_1 (by decide +kernel) ?_
  refine lv_aload_n hx hb dL_parse_2 rfl (lv_at hl 0 rfl) ?_
  have hPc := hP.sub (ws' := [(a0, .inr (13, [.ref a3, .ref a9, .ref a2, .int 0, .ref a10, .int 0, .ref a11, .int 0, .ref a12])), (a2, .inl (cy 7, 40, .inr (.inr (.inr (.inr (fun _ => none)))))), (a3, .inr (8, [.ref a4, .int 0, .int 0, .int 0])), (a4, .inr (6, [.ref a13, .int 0, .ref a5, .ref a6, .ref a7, .ref a8, .int 0, .ref a14])), (a5, .inl (cy 0, 41, .inl (fun _ => 0))), (a6, .inl (cy 0, 41, .inl (fun _ => 0))), (a7, .inl (cy 0, 41, .inl (fun _ => 0))), (a8, .inl (cy 6, 41, .inr (.inr (.inr (.inr (fun _ => none))))))]) [0, 1, 2, 3, 4, 5, 6, 7] rfl
  have hDc := hD.sub (ws' := [(a0, .inr (13, [.ref a3, .ref a9, .ref a2, .int 0, .ref a10, .int 0, .ref a11, .int 0, .ref a12])), (a2, .inl (cy 7, 40, .inr (.inr (.inr (.inr (fun _ => none)))))), (a3, .inr (8, [.ref a4, .int 0, .int 0, .int 0])), (a4, .inr (6, [.ref a13, .int 0, .ref a5, .ref a6, .ref a7, .ref a8, .int 0, .ref a14])), (a5, .inl (cy 0, 41, .inl (fun _ => 0))), (a6, .inl (cy 0, 41, .inl (fun _ => 0))), (a7, .inl (cy 0, 41, .inl (fun _ => 0))), (a8, .inl (cy 6, 41, .inr (.inr (.inr (.inr (fun _ => none))))))]) [0, 1, 2, 3, 4, 5, 6, 7] (by decide) rfl
  have hFc := va_free (wc := [(a0, .inr (13, [.ref a3, .ref a9, .ref a2, .int 0, .ref a10, .int 0, .ref a11, .int 0, .ref a12])), (a2, .inl (cy 7, 40, .inr (.inr (.inr (.inr (fun _ => none)))))), (a3, .inr (8, [.ref a4, .int 0, .int 0, .int 0])), (a4, .inr (6, [.ref a13, .int 0, .ref a5, .ref a6, .ref a7, .ref a8, .int 0, .ref a14])), (a5, .inl (cy 0, 41, .inl (fun _ => 0))), (a6, .inl (cy 0, 41, .inl (fun _ => 0))), (a7, .inl (cy 0, 41, .inl (fun _ => 0))), (a8, .inl (cy 6, 41, .inr (.inr (.inr (.inr (fun _ => none))))))]) hD hS hA [0, 1, 2, 3, 4, 5, 6, 7] rfl
  refine va_calli (va_runV (As := []) (rest := [.int 0, .ref a1]) ⟨hx, hb, hml, hown, hts⟩ (C_X11_parse_1 l D cy sz0 sa a0 a2 a3 a4 a5 a6 a7 a8 a9 a10 a11 a12 a13 a14 s.heap.size) (cwV 0 hts (goodIn_app (goodIn_r _ [1, 2, 3, 4] rfl (by decide +kernel)) (goodIn_app (goodIn_app (goodIn_app (goodIn_r wq_X11_parse_10 [5, 6, 7, 8, 9, 10, 11, 12, 13, 14, 15, 16, 17, 18, 19, 20, 21, 22, 23, 24, 25, 26, 27, 28, 29, 30, 31, 32, 33, 34, 35, 36, 37, 38, 39, 40, 41, 42, 43, 44, 45, 46, 47, 48, 49, 50, 51, 52, 53, 54, 55, 56, 57, 58, 59, 60, 61, 62, 63, 64, 65, 66, 67, 68, 69, 70, 71, 72, 73, 74, 75, 76, 77, 78, 79] rfl (by decide +kernel)) (goodIn_sub (fun _ h => (List.mem_append_left _ (List.mem_append_left _ (List.mem_append_right _ h)))) (by decide +kernel))) (goodIn_sub (fun _ h => (List.mem_append_left _ (List.mem_append_right _ h))) (by decide +kernel))) (goodIn_sub (fun _ h => (List.mem_append_right _ h)) (by decide +kernel)))) rfl rfl rfl (by decide +kernel) ⟨Nat.le_of_ble_eq_true rfl, Nat.le_of_ble_eq_true rfl⟩) ⟨PcW.blind, va_recv hK hPc (ci := 13) (q0 := 0) rfl rfl, PcW.mk hE hS hAF hPc hDc⟩ rfl rfl hl.1 rfl (lv_room (Nat.le_of_ble_eq_true rfl)) dL_parse_3 ⟨Nat.le_of_ble_eq_true rfl, Nat.le_of_ble_eq_true rfl⟩) hS (fun q _ h => hFc q h) hFc (fun r_1 u t H1 locs ht hvm hw hB hz1 hk1 hS => ?_)
  obtain ⟨hP, hD⟩ := va_join (wr := [(a1, .inl (cy 1, 1, .inr (.inl (fun _ => 0))))]) (w1 := []) hP hD [0, 1, 2, 3, 4, 5, 6, 7] [8] rfl rfl (by decide) (by decide) hk1 hFc nilP nilD
  clear hPc hDc hFc hk1 hz1
  generalize H1 = H at hP hS ⊢
  have hP : va_P D vwCl [(a1, .inl (cy 1, 1, .inr (.inl (fun _ => 0))))] H := hP
  have hD : va_D A [(a1, .inl (cy 1, 1, .inr (.inl (fun _ => 0))))] := hD
  refine W.widen (k := 0) (n := 0) (Nat.le_of_ble_eq_true rfl) (Nat.le_of_ble_eq_true rfl) ?_
  have hr := hw
  obtain rfl : r_1 = (-2000) := hr
  refine lv_i2l (v := (-2000)) hx hb dL_parse_6 (by decide +kernel) ?_
  refine va_last hx hb hK hP hD hS 0 1 rfl rfl (by unfold vp_in; decide +kernel) dL_parse_7 (fun H locs hP hD hS => ?_)
  have hP : va_P D vwCl [(a1, .inl (cy 1, 1, .inr (.inl (vp_updL (fun _ => 0) 0 (-2000)))))] H := hP
  have hD : va_D A [(a1, .inl (cy 1, 1, .inr (.inl (vp_updL (fun _ => 0) 0 (-2000)))))] := hD
  refine lv_goto (tgt := 14) hx hb dL_parse_8 (by decide) ?_
  refine lv_iconst (v := 0) hx hb dL_parse_14 (by decide +kernel) ?_
  refine W.widen (k := 0) (n := 0) (Nat.le_of_ble_eq_true rfl) (Nat.le_of_ble_eq_true rfl) ?_
  have hP9 := hP.sub (ws' := [(a1, .inl (cy 1, 1, .inr (.inl (vp_updL (fun _ => 0) 0 (-2000)))))]) [0] rfl
  have hD9 := hD.sub (ws' := [(a1, .inl (cy 1, 1, .inr (.inl (vp_updL (fun _ => 0) 0 (-2000)))))]) [0] (by decide) rfl
  exact W.iret (v := 0) hx hb hr (fun t ht hW => ⟨⟨0, (-2000), rfl, ⟨rfl, rfl⟩, ⟨(vp_updL (fun _ => 0) 0 (-2000)), ⟨by rw [ht]; exact hP9, hD9⟩, by decide +kernel⟩⟩, hS.F ht⟩) hS.2.2 dL_parse_15
