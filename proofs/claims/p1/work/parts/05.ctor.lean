set_option maxHeartbeats 4000000 in
set_option maxRecDepth 100000 in
theorem C_J5_init_d00df_1 (l : Launch) (D : va_G) (cy : Nat → ClassId) (sz0 : Nat) (sa : Nat → Nat) (a0 : Nat) (sz : Nat)  : Met l yJ5_init_d00df wsJ5_init_d00df ({ frames := 1, cells := 1, slots := 16, locals := 20 }) (PcW D cy sz0 sa [.ref a0, .int 16] [(a0, .inr (1, [.null, .int 0, .int 0, .int 0]))] sz) (va_Qv (fun (u : Unit) => True) (fun (u : Unit) (t : State) => ∃ (n0 : Nat), BW D [(a0, .inr (1, [.ref n0, .int 0, .int 0, .int 0])), (n0, .inl (cy 5, 16, .inl (fun _ => 0)))] (va_A [(a0, .inr (1, [.null, .int 0, .int 0, .int 0]))] sz) t) (va_A [(a0, .inr (1, [.null, .int 0, .int 0, .int 0]))] sz)) 1 16 (va_A [(a0, .inr (1, [.null, .int 0, .int 0, .int 0]))] sz) := by
  refine Met.ofW (cc := cJ5_init_d00df) (maxL := 2) (ret := none) (by decide) rfl ?_
  intro p e s m args below meth c s₁ B hml hv
  obtain ⟨rfl, hsz, hP, hD0, hE⟩ := hv
  have hx := B.exec
  have hb := B.bytes
  have hr := B.returns
  have hts := atoms_spec (ws := wsJ5_init_d00df) B.pre
  have hown : s.vm.findClass RJ5 = some m.cls := findClass_of_methodNamed B.named
  have hlocks := B.notSynchronized
  have hin : meth.name = "<init>" := (name_of_methodNamed B.named B.method).1
  subst hsz
  have hK := hE.1
  have hAm := hE.2.2.1
  have hWm := hE.2.2.2
  have hAO := hWm.2.2.2.1
  have hD := hD0.self (sz := s.heap.size)
  have hAF := frA hD0 hE.2.1
  generalize hAe : va_A [(a0, .inr (1, [.null, .int 0, .int 0, .int 0]))] s.heap.size = A at hD hAF ⊢
  have hA : ∀ q : Nat, s.heap.size ≤ q → A q := fun q h => by rw [← hAe]; exact Or.inr h
  have hS : va_S A s.heap s.heap [] := va_S.rf
  have hl := lv_entry ([.ref a0, .int 16]) (n := 2) (Nat.le_of_ble_eq_true rfl)
  rw [lg_entry_eq]
  generalize (lg_sl ([.ref a0, .int 16]) ++ List.replicate (2 - (lg_sl ([.ref a0, .int 16])).length) Slot.unset).toArray = ls at hl ⊢
  have hl : lv_has ls 2 [(0, .ref a0), (1, .int 16)] := hl
  have hP : va_P D vwCl [(a0, .inr (1, [.null, .int 0, .int 0, .int 0]))] s.heap := hP
  refine lv_aload_n hx hb dJ5_init_d00df_0 rfl (lv_at hl 0 rfl) ?_
  refine W.objInit hx hb hown (hts (.methodLink RJ5 3 objectInit) (List.mem_of_getElem? (i := 1) rfl)) (hts (.instanceMethod objectInit) (List.mem_of_getElem? (i := 2) rfl)) (hts (.code objectInit ⟨#[0xb1]⟩ 1 none) (List.mem_of_getElem? (i := 3) rfl)) rfl (by rw [hml]; exact hl.1) rfl dJ5_init_d00df_1 (Nat.le_of_ble_eq_true rfl) (Nat.le_of_ble_eq_true rfl) ?_
  refine W.eq (g2 := F0 m 4 ls []) rfl ?_
  refine va_gets (C := "java/lang/String") (n := "COMPACT_STRINGS") (d := "Z") (A := A) (v := .int 1) hx hb (hAm.1.narrow hAF) hS hown (hts (.fieldLink RJ5 18 "java/lang/String" "COMPACT_STRINGS" "Z") (List.mem_of_getElem? (i := 4) rfl)) (fun _ h9 => h9) dJ5_init_d00df_4 ?_
  refine lv_if_eq (tgt := 25) hx hb dJ5_init_d00df_7 (by decide) (fun c1 => absurd c1 (by decide +kernel)) (fun _ => ?_)
  refine lv_aload_n hx hb dJ5_init_d00df_10 rfl (lv_at hl 0 rfl) ?_
  refine lv_iload_n hx hb dJ5_init_d00df_11 rfl (lv_at hl 1 rfl) ?_
  refine g_newa (atype := .byte) (ty := .byte) hx hb (hts (.arrayClass .byte) (List.mem_of_getElem? (i := 5) rfl)) rfl hK hP hD hS hA 5 rfl (a0 := (16, .inl (fun _ => 0))) (N' := 16) (za_5 16) (by decide +kernel) (by decide +kernel) (by decide +kernel) (Nat.le_of_ble_eq_true rfl) (Nat.le_of_ble_eq_true rfl) dJ5_init_d00df_12 (fun q2 H hP hD hS => ?_)
  have hP : va_P D vwCl [(a0, .inr (1, [.null, .int 0, .int 0, .int 0])), (q2, .inl (cy 5, 16, .inl (fun _ => 0)))] H := hP
  have hD : va_D A [(a0, .inr (1, [.null, .int 0, .int 0, .int 0])), (q2, .inl (cy 5, 16, .inl (fun _ => 0)))] := hD
  refine W.widen (k := 1) (n := 16) (Nat.le_of_ble_eq_true rfl) (Nat.le_of_ble_eq_true rfl) ?_
  refine va_put (D := D) (ci := 1) (v := .ref q2) (ty := .array .byte) (C := RJ4) (T := TJ4) (N := 4) hx hb hts (fun _ h => List.mem_cons_of_mem _ (List.mem_append_right _ h)) tyJ4 tyJ4_ok nmJ4 hown hK hP hD hS 0 rfl rfl 0 (by decide) (hts (.fieldLink RJ5 15 "java/lang/AbstractStringBuilder" "value" "[B") (List.mem_of_getElem? (i := 6) rfl)) (fun _ h9 => h9) rfl (by decide +kernel) rfl rfl (Nat.le_of_ble_eq_true rfl) dJ5_init_d00df_14 (fun H locs hP hD hS => ?_)
  have hP : va_P D vwCl [(a0, .inr (1, [.ref q2, .int 0, .int 0, .int 0])), (q2, .inl (cy 5, 16, .inl (fun _ => 0)))] H := hP
  have hD : va_D A [(a0, .inr (1, [.ref q2, .int 0, .int 0, .int 0])), (q2, .inl (cy 5, 16, .inl (fun _ => 0)))] := hD
  refine lv_aload_n hx hb dJ5_init_d00df_17 rfl (lv_at hl 0 rfl) ?_
  refine lv_iconst (v := 0) hx hb dJ5_init_d00df_18 (by decide +kernel) ?_
  refine va_put (D := D) (ci := 1) (v := .int 0) (ty := .byte) (C := RJ4) (T := TJ4) (N := 4) hx hb hts (fun _ h => List.mem_cons_of_mem _ (List.mem_append_right _ h)) tyJ4 tyJ4_ok nmJ4 hown hK hP hD hS 0 rfl rfl 1 (by decide) (hts (.fieldLink RJ5 22 "java/lang/AbstractStringBuilder" "coder" "B") (List.mem_of_getElem? (i := 7) rfl)) (fun _ h9 => h9) rfl (by decide +kernel) rfl rfl (Nat.le_of_ble_eq_true rfl) dJ5_init_d00df_19 (fun H locs hP hD hS => ?_)
  have hP : va_P D vwCl [(a0, .inr (1, [.ref q2, .int 0, .int 0, .int 0])), (q2, .inl (cy 5, 16, .inl (fun _ => 0)))] H := hP
  have hD : va_D A [(a0, .inr (1, [.ref q2, .int 0, .int 0, .int 0])), (q2, .inl (cy 5, 16, .inl (fun _ => 0)))] := hD
  refine lv_goto (tgt := 38) hx hb dJ5_init_d00df_22 (by decide) ?_
  refine W.widen (k := 1) (n := 16) (Nat.le_of_ble_eq_true rfl) (Nat.le_of_ble_eq_true rfl) ?_
  have hP9 := hP.sub (ws' := [(a0, .inr (1, [.ref q2, .int 0, .int 0, .int 0])), (q2, .inl (cy 5, 16, .inl (fun _ => 0)))]) [0, 1] rfl
  have hD9 := hD.sub (ws' := [(a0, .inr (1, [.ref q2, .int 0, .int 0, .int 0])), (q2, .inl (cy 5, 16, .inl (fun _ => 0)))]) [0, 1] (by decide) rfl
  exact W.vret hx hb hr (fun t ht hW => ⟨⟨(), rfl, trivial, ⟨q2, by rw [ht]; exact hP9, hD9⟩⟩, hS.F ht⟩) hS.2.2 dJ5_init_d00df_38

set_option maxHeartbeats 4000000 in
set_option maxRecDepth 100000 in
theorem C_J4_init_da8c8_1 (l : Launch) (D : va_G) (cy : Nat → ClassId) (sz0 : Nat) (sa : Nat → Nat) (a0 : Nat) (sz : Nat)  : Met l yJ4_init_da8c8 wsJ4_init_da8c8 ({ frames := 2, cells := 1, slots := 16, locals := 41 }) (PcW D cy sz0 sa [.ref a0] [(a0, .inr (1, [.null, .int 0, .int 0, .int 0]))] sz) (va_Qv (fun (u : Unit) => True) (fun (u : Unit) (t : State) => ∃ (n0 : Nat), BW D [(a0, .inr (1, [.ref n0, .int 0, .int 0, .int 0])), (n0, .inl (cy 5, 16, .inl (fun _ => 0)))] (va_A [(a0, .inr (1, [.null, .int 0, .int 0, .int 0]))] sz) t) (va_A [(a0, .inr (1, [.null, .int 0, .int 0, .int 0]))] sz)) 1 16 (va_A [(a0, .inr (1, [.null, .int 0, .int 0, .int 0]))] sz) := by
  refine Met.ofW (cc := cJ4_init_da8c8) (maxL := 1) (ret := none) (by decide) rfl ?_
  intro p e s m args below meth c s₁ B hml hv
  obtain ⟨rfl, hsz, hP, hD0, hE⟩ := hv
  have hx := B.exec
  have hb := B.bytes
  have hr := B.returns
  have hts := atoms_spec (ws := wsJ4_init_da8c8) B.pre
  have hown : s.vm.findClass RJ4 = some m.cls := findClass_of_methodNamed B.named
  have hlocks := B.notSynchronized
  have hin : meth.name = "<init>" := (name_of_methodNamed B.named B.method).1
  subst hsz
  have hK := hE.1
  have hAm := hE.2.2.1
  have hWm := hE.2.2.2
  have hAO := hWm.2.2.2.1
  have hD := hD0.self (sz := s.heap.size)
  have hAF := frA hD0 hE.2.1
  generalize hAe : va_A [(a0, .inr (1, [.null, .int 0, .int 0, .int 0]))] s.heap.size = A at hD hAF ⊢
  have hA : ∀ q : Nat, s.heap.size ≤ q → A q := fun q h => by rw [← hAe]; exact Or.inr h
  have hS : va_S A s.heap s.heap [] := va_S.rf
  have hl := lv_entry ([.ref a0]) (n := 1) (Nat.le_of_ble_eq_true rfl)
  rw [lg_entry_eq]
  generalize (lg_sl ([.ref a0]) ++ List.replicate (1 - (lg_sl ([.ref a0])).length) Slot.unset).toArray = ls at hl ⊢
  have hl : lv_has ls 1 [(0, .ref a0)] := hl
  have hP : va_P D vwCl [(a0, .inr (1, [.null, .int 0, .int 0, .int 0]))] s.heap := hP
  refine lv_aload_n hx hb dJ4_init_da8c8_0 rfl (lv_at hl 0 rfl) ?_
  refine lv_bipush (v := 16) hx hb dJ4_init_da8c8_1 (by decide +kernel) ?_
  have hPc := hP.sub (ws' := [(a0, .inr (1, [.null, .int 0, .int 0, .int 0]))]) [0] rfl
  have hDc := hD.sub (ws' := [(a0, .inr (1, [.null, .int 0, .int 0, .int 0]))]) [0] (by decide) rfl
  have hFc := va_free (wc := [(a0, .inr (1, [.null, .int 0, .int 0, .int 0]))]) hD hS hA [0] rfl
  refine va_callv (va_runI (As := [.int 16]) (rest := []) ⟨hx, hb, hml, hown, hts⟩ (C_J5_init_d00df_1 l D cy sz0 sa a0 s.heap.size) (cwI 1 hts gJ4_init_da8c8_J5_init_d00df rfl rfl rfl (hts (.initialized RJ5) (List.mem_of_getElem? (i := 3) rfl)) (hts (.methodLink RJ4 1 yJ5_init_d00df) (List.mem_of_getElem? (i := 1) rfl)) (hts (.instanceMethod yJ5_init_d00df) (List.mem_of_getElem? (i := 2) rfl)) rfl (by decide +kernel) ⟨Nat.le_of_ble_eq_true rfl, Nat.le_of_ble_eq_true rfl⟩) ⟨PcW.blind, PcW.mk hE hS hAF hPc hDc⟩ rfl rfl hl.1 rfl (lv_room (Nat.le_of_ble_eq_true rfl)) dJ4_init_da8c8_3 ⟨Nat.le_of_ble_eq_true rfl, Nat.le_of_ble_eq_true rfl⟩) hS (fun q _ h => hFc q h) hFc (fun u t H1 locs ht hvm hw hB hz1 hk1 hS => ?_)
  obtain ⟨q1, hP1, hD1⟩ := hB
  rw [ht] at hP1
  have hP1 : va_P D vwCl [(a0, .inr (1, [.ref q1, .int 0, .int 0, .int 0])), (q1, .inl (cy 5, 16, .inl (fun _ => 0)))] H1 := hP1
  obtain ⟨hP, hD⟩ := va_join (wr := []) (w1 := [(a0, .inr (1, [.ref q1, .int 0, .int 0, .int 0])), (q1, .inl (cy 5, 16, .inl (fun _ => 0)))]) hP hD [0] [] rfl rfl (by decide) (by decide) hk1 hFc hP1 hD1
  clear hP1 hD1 hPc hDc hFc hk1 hz1
  generalize H1 = H at hP hS ⊢
  have hP : va_P D vwCl [(a0, .inr (1, [.ref q1, .int 0, .int 0, .int 0])), (q1, .inl (cy 5, 16, .inl (fun _ => 0)))] H := hP
  have hD : va_D A [(a0, .inr (1, [.ref q1, .int 0, .int 0, .int 0])), (q1, .inl (cy 5, 16, .inl (fun _ => 0)))] := hD
  refine W.widen (k := 1) (n := 16) (Nat.le_of_ble_eq_true rfl) (Nat.le_of_ble_eq_true rfl) ?_
  refine W.widen (k := 1) (n := 16) (Nat.le_of_ble_eq_true rfl) (Nat.le_of_ble_eq_true rfl) ?_
  have hP9 := hP.sub (ws' := [(a0, .inr (1, [.ref q1, .int 0, .int 0, .int 0])), (q1, .inl (cy 5, 16, .inl (fun _ => 0)))]) [0, 1] rfl
  have hD9 := hD.sub (ws' := [(a0, .inr (1, [.ref q1, .int 0, .int 0, .int 0])), (q1, .inl (cy 5, 16, .inl (fun _ => 0)))]) [0, 1] (by decide) rfl
  exact W.vret hx hb hr (fun t ht hW => ⟨⟨(), rfl, trivial, ⟨q1, by rw [ht]; exact hP9, hD9⟩⟩, hS.F ht⟩) hS.2.2 dJ4_init_da8c8_6

set_option maxHeartbeats 4000000 in
set_option maxRecDepth 100000 in
theorem C_X4_init_1 (l : Launch) (D : va_G) (cy : Nat → ClassId) (sz0 : Nat) (sa : Nat → Nat) (a0 : Nat) (sz : Nat)  : Met l yX4_init wsX4_init ({ frames := 3, cells := 7, slots := 224, locals := 61 }) (PcW D cy sz0 sa [.ref a0] [(a0, .inr (6, [.null, .int 0, .null, .null, .null, .null, .int 0, .null]))] sz) (va_Qv (fun (u : Unit) => True) (fun (u : Unit) (t : State) => ∃ (n0 n1 n2 n3 n4 n5 n6 : Nat), BW D [(a0, .inr (6, [.ref n0, .int 0, .ref n1, .ref n2, .ref n3, .ref n4, .int 0, .ref n5])), (n0, .inl (cy 4, 40, .inl (fun _ => 0))), (n1, .inl (cy 0, 41, .inl (fun _ => 0))), (n2, .inl (cy 0, 41, .inl (fun _ => 0))), (n3, .inl (cy 0, 41, .inl (fun _ => 0))), (n4, .inl (cy 6, 41, .inr (.inr (.inr (.inr (fun _ => none)))))), (n5, .inr (1, [.ref n6, .int 0, .int 0, .int 0])), (n6, .inl (cy 5, 16, .inl (fun _ => 0)))] (va_A [(a0, .inr (6, [.null, .int 0, .null, .null, .null, .null, .int 0, .null]))] sz) t) (va_A [(a0, .inr (6, [.null, .int 0, .null, .null, .null, .null, .int 0, .null]))] sz)) 7 224 (va_A [(a0, .inr (6, [.null, .int 0, .null, .null, .null, .null, .int 0, .null]))] sz) := by
  refine Met.ofW (cc := cX4_init) (maxL := 1) (ret := none) (by decide) rfl ?_
  intro p e s m args below meth c s₁ B hml hv
  obtain ⟨rfl, hsz, hP, hD0, hE⟩ := hv
  have hx := B.exec
  have hb := B.bytes
  have hr := B.returns
  have hts := atoms_spec (ws := wsX4_init) B.pre
  have hown : s.vm.findClass RX4 = some m.cls := findClass_of_methodNamed B.named
  have hlocks := B.notSynchronized
  have hin : meth.name = "<init>" := (name_of_methodNamed B.named B.method).1
  subst hsz
  have hK := hE.1
  have hAm := hE.2.2.1
  have hWm := hE.2.2.2
  have hAO := hWm.2.2.2.1
  have hD := hD0.self (sz := s.heap.size)
  have hAF := frA hD0 hE.2.1
  generalize hAe : va_A [(a0, .inr (6, [.null, .int 0, .null, .null, .null, .null, .int 0, .null]))] s.heap.size = A at hD hAF ⊢
  have hA : ∀ q : Nat, s.heap.size ≤ q → A q := fun q h => by rw [← hAe]; exact Or.inr h
  have hS : va_S A s.heap s.heap [] := va_S.rf
  have hl := lv_entry ([.ref a0]) (n := 1) (Nat.le_of_ble_eq_true rfl)
  rw [lg_entry_eq]
  generalize (lg_sl ([.ref a0]) ++ List.replicate (1 - (lg_sl ([.ref a0])).length) Slot.unset).toArray = ls at hl ⊢
  have hl : lv_has ls 1 [(0, .ref a0)] := hl
  have hP : va_P D vwCl [(a0, .inr (6, [.null, .int 0, .null, .null, .null, .null, .int 0, .null]))] s.heap := hP
  refine lv_aload_n hx hb dX4_init_0 rfl (lv_at hl 0 rfl) ?_
  refine W.objInit hx hb hown (hts (.methodLink RX4 3 objectInit) (List.mem_of_getElem? (i := 1) rfl)) (hts (.instanceMethod objectInit) (List.mem_of_getElem? (i := 2) rfl)) (hts (.code objectInit ⟨#[0xb1]⟩ 1 none) (List.mem_of_getElem? (i := 3) rfl)) rfl (by rw [hml]; exact hl.1) rfl dX4_init_1 (Nat.le_of_ble_eq_true rfl) (Nat.le_of_ble_eq_true rfl) ?_
  refine W.eq (g2 := F0 m 4 ls []) rfl ?_
  refine lv_aload_n hx hb dX4_init_4 rfl (lv_at hl 0 rfl) ?_
  refine lv_bipush (v := 40) hx hb dX4_init_5 (by decide +kernel) ?_
  refine g_newa (atype := .char) (ty := .char) hx hb (hts (.arrayClass .char) (List.mem_of_getElem? (i := 4) rfl)) rfl hK hP hD hS hA 4 rfl (a0 := (40, .inl (fun _ => 0))) (N' := 40) (za_4 40) (by decide +kernel) (by decide +kernel) (by decide +kernel) (Nat.le_of_ble_eq_true rfl) (Nat.le_of_ble_eq_true rfl) dX4_init_7 (fun q1 H hP hD hS => ?_)
  have hP : va_P D vwCl [(a0, .inr (6, [.null, .int 0, .null, .null, .null, .null, .int 0, .null])), (q1, .inl (cy 4, 40, .inl (fun _ => 0)))] H := hP
  have hD : va_D A [(a0, .inr (6, [.null, .int 0, .null, .null, .null, .null, .int 0, .null])), (q1, .inl (cy 4, 40, .inl (fun _ => 0)))] := hD
  refine W.widen (k := 1) (n := 40) (Nat.le_of_ble_eq_true rfl) (Nat.le_of_ble_eq_true rfl) ?_
  refine va_putF (D := D) (ci := 6) (v := .ref q1) (ty := .array .char) (C := RX4) (T := TX4) (N := 8) hx hb hts (fun _ h => List.mem_cons_of_mem _ (List.mem_append_left _ (List.mem_append_right _ h))) tyX4 tyX4_ok nmX4 hown hK hP hD hS 0 rfl rfl 0 (by decide) (hts (.fieldLink RX4 9 "PhraseDesk$Lexer" "letters" "[C") (List.mem_of_getElem? (i := 5) rfl)) (fun _ h9 => h9) rfl hin rfl (by decide +kernel) rfl rfl (Nat.le_of_ble_eq_true rfl) dX4_init_9 (fun H locs hP hD hS => ?_)
  have hP : va_P D vwCl [(a0, .inr (6, [.ref q1, .int 0, .null, .null, .null, .null, .int 0, .null])), (q1, .inl (cy 4, 40, .inl (fun _ => 0)))] H := hP
  have hD : va_D A [(a0, .inr (6, [.ref q1, .int 0, .null, .null, .null, .null, .int 0, .null])), (q1, .inl (cy 4, 40, .inl (fun _ => 0)))] := hD
  refine lv_aload_n hx hb dX4_init_12 rfl (lv_at hl 0 rfl) ?_
  refine lv_bipush (v := 41) hx hb dX4_init_13 (by decide +kernel) ?_
  refine g_newa (atype := .int) (ty := .int) hx hb (hts (.arrayClass .int) (List.mem_of_getElem? (i := 6) rfl)) rfl hK hP hD hS hA 0 rfl (a0 := (41, .inl (fun _ => 0))) (N' := 41) (za_0 41) (by decide +kernel) (by decide +kernel) (by decide +kernel) (Nat.le_of_ble_eq_true rfl) (Nat.le_of_ble_eq_true rfl) dX4_init_15 (fun q2 H hP hD hS => ?_)
  have hP : va_P D vwCl [(a0, .inr (6, [.ref q1, .int 0, .null, .null, .null, .null, .int 0, .null])), (q1, .inl (cy 4, 40, .inl (fun _ => 0))), (q2, .inl (cy 0, 41, .inl (fun _ => 0)))] H := hP
  have hD : va_D A [(a0, .inr (6, [.ref q1, .int 0, .null, .null, .null, .null, .int 0, .null])), (q1, .inl (cy 4, 40, .inl (fun _ => 0))), (q2, .inl (cy 0, 41, .inl (fun _ => 0)))] := hD
  refine W.widen (k := 2) (n := 81) (Nat.le_of_ble_eq_true rfl) (Nat.le_of_ble_eq_true rfl) ?_
  refine va_putF (D := D) (ci := 6) (v := .ref q2) (ty := .array .int) (C := RX4) (T := TX4) (N := 8) hx hb hts (fun _ h => List.mem_cons_of_mem _ (List.mem_append_left _ (List.mem_append_right _ h))) tyX4 tyX4_ok nmX4 hown hK hP hD hS 0 rfl rfl 2 (by decide) (hts (.fieldLink RX4 15 "PhraseDesk$Lexer" "kinds" "[I") (List.mem_of_getElem? (i := 7) rfl)) (fun _ h9 => h9) rfl hin rfl (by decide +kernel) rfl rfl (Nat.le_of_ble_eq_true rfl) dX4_init_17 (fun H locs hP hD hS => ?_)
  have hP : va_P D vwCl [(a0, .inr (6, [.ref q1, .int 0, .ref q2, .null, .null, .null, .int 0, .null])), (q1, .inl (cy 4, 40, .inl (fun _ => 0))), (q2, .inl (cy 0, 41, .inl (fun _ => 0)))] H := hP
  have hD : va_D A [(a0, .inr (6, [.ref q1, .int 0, .ref q2, .null, .null, .null, .int 0, .null])), (q1, .inl (cy 4, 40, .inl (fun _ => 0))), (q2, .inl (cy 0, 41, .inl (fun _ => 0)))] := hD
  refine lv_aload_n hx hb dX4_init_20 rfl (lv_at hl 0 rfl) ?_
  refine lv_bipush (v := 41) hx hb dX4_init_21 (by decide +kernel) ?_
  refine g_newa (atype := .int) (ty := .int) hx hb (hts (.arrayClass .int) (List.mem_of_getElem? (i := 6) rfl)) rfl hK hP hD hS hA 0 rfl (a0 := (41, .inl (fun _ => 0))) (N' := 41) (za_0 41) (by decide +kernel) (by decide +kernel) (by decide +kernel) (Nat.le_of_ble_eq_true rfl) (Nat.le_of_ble_eq_true rfl) dX4_init_23 (fun q3 H hP hD hS => ?_)
  have hP : va_P D vwCl [(a0, .inr (6, [.ref q1, .int 0, .ref q2, .null, .null, .null, .int 0, .null])), (q1, .inl (cy 4, 40, .inl (fun _ => 0))), (q2, .inl (cy 0, 41, .inl (fun _ => 0))), (q3, .inl (cy 0, 41, .inl (fun _ => 0)))] H := hP
  have hD : va_D A [(a0, .inr (6, [.ref q1, .int 0, .ref q2, .null, .null, .null, .int 0, .null])), (q1, .inl (cy 4, 40, .inl (fun _ => 0))), (q2, .inl (cy 0, 41, .inl (fun _ => 0))), (q3, .inl (cy 0, 41, .inl (fun _ => 0)))] := hD
  refine W.widen (k := 3) (n := 122) (Nat.le_of_ble_eq_true rfl) (Nat.le_of_ble_eq_true rfl) ?_
  refine va_putF (D := D) (ci := 6) (v := .ref q3) (ty := .array .int) (C := RX4) (T := TX4) (N := 8) hx hb hts (fun _ h => List.mem_cons_of_mem _ (List.mem_append_left _ (List.mem_append_right _ h))) tyX4 tyX4_ok nmX4 hown hK hP hD hS 0 rfl rfl 3 (by decide) (hts (.fieldLink RX4 19 "PhraseDesk$Lexer" "places" "[I") (List.mem_of_getElem? (i := 8) rfl)) (fun _ h9 => h9) rfl hin rfl (by decide +kernel) rfl rfl (Nat.le_of_ble_eq_true rfl) dX4_init_25 (fun H locs hP hD hS => ?_)
  have hP : va_P D vwCl [(a0, .inr (6, [.ref q1, .int 0, .ref q2, .ref q3, .null, .null, .int 0, .null])), (q1, .inl (cy 4, 40, .inl (fun _ => 0))), (q2, .inl (cy 0, 41, .inl (fun _ => 0))), (q3, .inl (cy 0, 41, .inl (fun _ => 0)))] H := hP
  have hD : va_D A [(a0, .inr (6, [.ref q1, .int 0, .ref q2, .ref q3, .null, .null, .int 0, .null])), (q1, .inl (cy 4, 40, .inl (fun _ => 0))), (q2, .inl (cy 0, 41, .inl (fun _ => 0))), (q3, .inl (cy 0, 41, .inl (fun _ => 0)))] := hD
  refine lv_aload_n hx hb dX4_init_28 rfl (lv_at hl 0 rfl) ?_
  refine lv_bipush (v := 41) hx hb dX4_init_29 (by decide +kernel) ?_
  refine g_newa (atype := .int) (ty := .int) hx hb (hts (.arrayClass .int) (List.mem_of_getElem? (i := 6) rfl)) rfl hK hP hD hS hA 0 rfl (a0 := (41, .inl (fun _ => 0))) (N' := 41) (za_0 41) (by decide +kernel) (by decide +kernel) (by decide +kernel) (Nat.le_of_ble_eq_true rfl) (Nat.le_of_ble_eq_true rfl) dX4_init_31 (fun q4 H hP hD hS => ?_)
  have hP : va_P D vwCl [(a0, .inr (6, [.ref q1, .int 0, .ref q2, .ref q3, .null, .null, .int 0, .null])), (q1, .inl (cy 4, 40, .inl (fun _ => 0))), (q2, .inl (cy 0, 41, .inl (fun _ => 0))), (q3, .inl (cy 0, 41, .inl (fun _ => 0))), (q4, .inl (cy 0, 41, .inl (fun _ => 0)))] H := hP
  have hD : va_D A [(a0, .inr (6, [.ref q1, .int 0, .ref q2, .ref q3, .null, .null, .int 0, .null])), (q1, .inl (cy 4, 40, .inl (fun _ => 0))), (q2, .inl (cy 0, 41, .inl (fun _ => 0))), (q3, .inl (cy 0, 41, .inl (fun _ => 0))), (q4, .inl (cy 0, 41, .inl (fun _ => 0)))] := hD
  refine W.widen (k := 4) (n := 163) (Nat.le_of_ble_eq_true rfl) (Nat.le_of_ble_eq_true rfl) ?_
  refine va_putF (D := D) (ci := 6) (v := .ref q4) (ty := .array .int) (C := RX4) (T := TX4) (N := 8) hx hb hts (fun _ h => List.mem_cons_of_mem _ (List.mem_append_left _ (List.mem_append_right _ h))) tyX4 tyX4_ok nmX4 hown hK hP hD hS 0 rfl rfl 4 (by decide) (hts (.fieldLink RX4 22 "PhraseDesk$Lexer" "names" "[I") (List.mem_of_getElem? (i := 9) rfl)) (fun _ h9 => h9) rfl hin rfl (by decide +kernel) rfl rfl (Nat.le_of_ble_eq_true rfl) dX4_init_33 (fun H locs hP hD hS => ?_)
  have hP : va_P D vwCl [(a0, .inr (6, [.ref q1, .int 0, .ref q2, .ref q3, .ref q4, .null, .int 0, .null])), (q1, .inl (cy 4, 40, .inl (fun _ => 0))), (q2, .inl (cy 0, 41, .inl (fun _ => 0))), (q3, .inl (cy 0, 41, .inl (fun _ => 0))), (q4, .inl (cy 0, 41, .inl (fun _ => 0)))] H := hP
  have hD : va_D A [(a0, .inr (6, [.ref q1, .int 0, .ref q2, .ref q3, .ref q4, .null, .int 0, .null])), (q1, .inl (cy 4, 40, .inl (fun _ => 0))), (q2, .inl (cy 0, 41, .inl (fun _ => 0))), (q3, .inl (cy 0, 41, .inl (fun _ => 0))), (q4, .inl (cy 0, 41, .inl (fun _ => 0)))] := hD
  refine lv_aload_n hx hb dX4_init_36 rfl (lv_at hl 0 rfl) ?_
  refine lv_bipush (v := 41) hx hb dX4_init_37 (by decide +kernel) ?_
  refine g_newq (C := "PhraseDesk$Value") hx hb hown (hts (.classLink RX4 25 RX10) (List.mem_of_getElem? (i := 10) rfl)) hAO.1 hK hP hD hS hA 6 rfl (N' := 41) (by decide +kernel) (by decide +kernel) (by decide +kernel) (Nat.le_of_ble_eq_true rfl) (Nat.le_of_ble_eq_true rfl) dX4_init_39 (fun q5 H hP hD hS => ?_)
  have hP : va_P D vwCl [(a0, .inr (6, [.ref q1, .int 0, .ref q2, .ref q3, .ref q4, .null, .int 0, .null])), (q1, .inl (cy 4, 40, .inl (fun _ => 0))), (q2, .inl (cy 0, 41, .inl (fun _ => 0))), (q3, .inl (cy 0, 41, .inl (fun _ => 0))), (q4, .inl (cy 0, 41, .inl (fun _ => 0))), (q5, .inl (cy 6, 41, .inr (.inr (.inr (.inr (fun _ => none))))))] H := hP
  have hD : va_D A [(a0, .inr (6, [.ref q1, .int 0, .ref q2, .ref q3, .ref q4, .null, .int 0, .null])), (q1, .inl (cy 4, 40, .inl (fun _ => 0))), (q2, .inl (cy 0, 41, .inl (fun _ => 0))), (q3, .inl (cy 0, 41, .inl (fun _ => 0))), (q4, .inl (cy 0, 41, .inl (fun _ => 0))), (q5, .inl (cy 6, 41, .inr (.inr (.inr (.inr (fun _ => none))))))] := hD
  refine W.widen (k := 5) (n := 204) (Nat.le_of_ble_eq_true rfl) (Nat.le_of_ble_eq_true rfl) ?_
  refine va_putF (D := D) (ci := 6) (v := .ref q5) (ty := .array (.object "PhraseDesk$Value")) (C := RX4) (T := TX4) (N := 8) hx hb hts (fun _ h => List.mem_cons_of_mem _ (List.mem_append_left _ (List.mem_append_right _ h))) tyX4 tyX4_ok nmX4 hown hK hP hD hS 0 rfl rfl 5 (by decide) (hts (.fieldLink RX4 27 "PhraseDesk$Lexer" "literals" "[LPhraseDesk$Value;") (List.mem_of_getElem? (i := 11) rfl)) (fun _ h9 => h9) rfl hin rfl (by decide +kernel) rfl rfl (Nat.le_of_ble_eq_true rfl) dX4_init_42 (fun H locs hP hD hS => ?_)
  have hP : va_P D vwCl [(a0, .inr (6, [.ref q1, .int 0, .ref q2, .ref q3, .ref q4, .ref q5, .int 0, .null])), (q1, .inl (cy 4, 40, .inl (fun _ => 0))), (q2, .inl (cy 0, 41, .inl (fun _ => 0))), (q3, .inl (cy 0, 41, .inl (fun _ => 0))), (q4, .inl (cy 0, 41, .inl (fun _ => 0))), (q5, .inl (cy 6, 41, .inr (.inr (.inr (.inr (fun _ => none))))))] H := hP
  have hD : va_D A [(a0, .inr (6, [.ref q1, .int 0, .ref q2, .ref q3, .ref q4, .ref q5, .int 0, .null])), (q1, .inl (cy 4, 40, .inl (fun _ => 0))), (q2, .inl (cy 0, 41, .inl (fun _ => 0))), (q3, .inl (cy 0, 41, .inl (fun _ => 0))), (q4, .inl (cy 0, 41, .inl (fun _ => 0))), (q5, .inl (cy 6, 41, .inr (.inr (.inr (.inr (fun _ => none))))))] := hD
  refine lv_aload_n hx hb dX4_init_45 rfl (lv_at hl 0 rfl) ?_
  refine va_new (ci := 1) (fs := [.null, .int 0, .int 0, .int 0]) (C := RJ4) (T := TJ4) (N := 4) hx hb hts (fun _ h => List.mem_cons_of_mem _ (List.mem_append_right _ h)) tyJ4 tyJ4_ok hown (hts (.classLink RX4 31 RJ4) (List.mem_of_getElem? (i := 12) rfl)) (hts (.instantiable RJ4 4) (List.mem_of_getElem? (i := 13) rfl)) (hts (.initialized RJ4) (List.mem_of_getElem? (i := 14) rfl)) hK hP hD hS hA rfl (fun j hj => by rcases (show j = 0 ∨ j = 1 ∨ j = 2 ∨ j = 3 by omega) with rfl | rfl | rfl | rfl <;> rfl) (Nat.le_of_ble_eq_true rfl) (Nat.le_of_ble_eq_true rfl) dX4_init_46 (fun q6 H hP hD hS => ?_)
  have hP : va_P D vwCl [(a0, .inr (6, [.ref q1, .int 0, .ref q2, .ref q3, .ref q4, .ref q5, .int 0, .null])), (q1, .inl (cy 4, 40, .inl (fun _ => 0))), (q2, .inl (cy 0, 41, .inl (fun _ => 0))), (q3, .inl (cy 0, 41, .inl (fun _ => 0))), (q4, .inl (cy 0, 41, .inl (fun _ => 0))), (q5, .inl (cy 6, 41, .inr (.inr (.inr (.inr (fun _ => none)))))), (q6, .inr (1, [.null, .int 0, .int 0, .int 0]))] H := hP
  have hD : va_D A [(a0, .inr (6, [.ref q1, .int 0, .ref q2, .ref q3, .ref q4, .ref q5, .int 0, .null])), (q1, .inl (cy 4, 40, .inl (fun _ => 0))), (q2, .inl (cy 0, 41, .inl (fun _ => 0))), (q3, .inl (cy 0, 41, .inl (fun _ => 0))), (q4, .inl (cy 0, 41, .inl (fun _ => 0))), (q5, .inl (cy 6, 41, .inr (.inr (.inr (.inr (fun _ => none)))))), (q6, .inr (1, [.null, .int 0, .int 0, .int 0]))] := hD
  refine W.widen (k := 6) (n := 208) (Nat.le_of_ble_eq_true rfl) (Nat.le_of_ble_eq_true rfl) ?_
  refine lv_dup hx hb dX4_init_49 rfl ?_
  have hPc := hP.sub (ws' := [(q6, .inr (1, [.null, .int 0, .int 0, .int 0]))]) [6] rfl
  have hDc := hD.sub (ws' := [(q6, .inr (1, [.null, .int 0, .int 0, .int 0]))]) [6] (by decide) rfl
  have hFc := va_free (wc := [(q6, .inr (1, [.null, .int 0, .int 0, .int 0]))]) hD hS hA [6] rfl
  refine va_callv (va_runI (As := []) (rest := [.ref q6, .ref a0]) ⟨hx, hb, hml, hown, hts⟩ (C_J4_init_da8c8_1 l D cy sz0 sa q6 H.size) (cwI 0 hts gX4_init_J4_init_da8c8 rfl rfl rfl (hts (.initialized RJ4) (List.mem_of_getElem? (i := 14) rfl)) (hts (.methodLink RX4 33 yJ4_init_da8c8) (List.mem_of_getElem? (i := 16) rfl)) (hts (.instanceMethod yJ4_init_da8c8) (List.mem_of_getElem? (i := 17) rfl)) rfl (by decide +kernel) ⟨Nat.le_of_ble_eq_true rfl, Nat.le_of_ble_eq_true rfl⟩) ⟨PcW.blind, PcW.mk hE hS hAF hPc hDc⟩ rfl rfl hl.1 rfl (lv_room (Nat.le_of_ble_eq_true rfl)) dX4_init_50 ⟨Nat.le_of_ble_eq_true rfl, Nat.le_of_ble_eq_true rfl⟩) hS (fun q _ h => hFc q h) hFc (fun u t H1 locs ht hvm hw hB hz1 hk1 hS => ?_)
  obtain ⟨q7, hP1, hD1⟩ := hB
  rw [ht] at hP1
  have hP1 : va_P D vwCl [(q6, .inr (1, [.ref q7, .int 0, .int 0, .int 0])), (q7, .inl (cy 5, 16, .inl (fun _ => 0)))] H1 := hP1
  obtain ⟨hP, hD⟩ := va_join (wr := [(a0, .inr (6, [.ref q1, .int 0, .ref q2, .ref q3, .ref q4, .ref q5, .int 0, .null])), (q1, .inl (cy 4, 40, .inl (fun _ => 0))), (q2, .inl (cy 0, 41, .inl (fun _ => 0))), (q3, .inl (cy 0, 41, .inl (fun _ => 0))), (q4, .inl (cy 0, 41, .inl (fun _ => 0))), (q5, .inl (cy 6, 41, .inr (.inr (.inr (.inr (fun _ => none))))))]) (w1 := [(q6, .inr (1, [.ref q7, .int 0, .int 0, .int 0])), (q7, .inl (cy 5, 16, .inl (fun _ => 0)))]) hP hD [6] [0, 1, 2, 3, 4, 5] rfl rfl (by decide) (by decide) hk1 hFc hP1 hD1
  clear hP1 hD1 hPc hDc hFc hk1 hz1
  generalize H1 = H at hP hS ⊢
  have hP : va_P D vwCl [(a0, .inr (6, [.ref q1, .int 0, .ref q2, .ref q3, .ref q4, .ref q5, .int 0, .null])), (q1, .inl (cy 4, 40, .inl (fun _ => 0))), (q2, .inl (cy 0, 41, .inl (fun _ => 0))), (q3, .inl (cy 0, 41, .inl (fun _ => 0))), (q4, .inl (cy 0, 41, .inl (fun _ => 0))), (q5, .inl (cy 6, 41, .inr (.inr (.inr (.inr (fun _ => none)))))), (q6, .inr (1, [.ref q7, .int 0, .int 0, .int 0])), (q7, .inl (cy 5, 16, .inl (fun _ => 0)))] H := hP
  have hD : va_D A [(a0, .inr (6, [.ref q1, .int 0, .ref q2, .ref q3, .ref q4, .ref q5, .int 0, .null])), (q1, .inl (cy 4, 40, .inl (fun _ => 0))), (q2, .inl (cy 0, 41, .inl (fun _ => 0))), (q3, .inl (cy 0, 41, .inl (fun _ => 0))), (q4, .inl (cy 0, 41, .inl (fun _ => 0))), (q5, .inl (cy 6, 41, .inr (.inr (.inr (.inr (fun _ => none)))))), (q6, .inr (1, [.ref q7, .int 0, .int 0, .int 0])), (q7, .inl (cy 5, 16, .inl (fun _ => 0)))] := hD
  refine W.widen (k := 7) (n := 224) (Nat.le_of_ble_eq_true rfl) (Nat.le_of_ble_eq_true rfl) ?_
  refine va_putF (D := D) (ci := 6) (v := .ref q6) (ty := .object "java/lang/StringBuilder") (C := RX4) (T := TX4) (N := 8) hx hb hts (fun _ h => List.mem_cons_of_mem _ (List.mem_append_left _ (List.mem_append_right _ h))) tyX4 tyX4_ok nmX4 hown hK hP hD hS 0 rfl rfl 7 (by decide) (hts (.fieldLink RX4 34 "PhraseDesk$Lexer" "scratch" "Ljava/lang/StringBuilder;") (List.mem_of_getElem? (i := 15) rfl)) (fun _ h9 => h9) rfl hin rfl (by decide +kernel) rfl rfl (Nat.le_of_ble_eq_true rfl) dX4_init_53 (fun H locs hP hD hS => ?_)
  have hP : va_P D vwCl [(a0, .inr (6, [.ref q1, .int 0, .ref q2, .ref q3, .ref q4, .ref q5, .int 0, .ref q6])), (q1, .inl (cy 4, 40, .inl (fun _ => 0))), (q2, .inl (cy 0, 41, .inl (fun _ => 0))), (q3, .inl (cy 0, 41, .inl (fun _ => 0))), (q4, .inl (cy 0, 41, .inl (fun _ => 0))), (q5, .inl (cy 6, 41, .inr (.inr (.inr (.inr (fun _ => none)))))), (q6, .inr (1, [.ref q7, .int 0, .int 0, .int 0])), (q7, .inl (cy 5, 16, .inl (fun _ => 0)))] H := hP
  have hD : va_D A [(a0, .inr (6, [.ref q1, .int 0, .ref q2, .ref q3, .ref q4, .ref q5, .int 0, .ref q6])), (q1, .inl (cy 4, 40, .inl (fun _ => 0))), (q2, .inl (cy 0, 41, .inl (fun _ => 0))), (q3, .inl (cy 0, 41, .inl (fun _ => 0))), (q4, .inl (cy 0, 41, .inl (fun _ => 0))), (q5, .inl (cy 6, 41, .inr (.inr (.inr (.inr (fun _ => none)))))), (q6, .inr (1, [.ref q7, .int 0, .int 0, .int 0])), (q7, .inl (cy 5, 16, .inl (fun _ => 0)))] := hD
  refine W.widen (k := 7) (n := 224) (Nat.le_of_ble_eq_true rfl) (Nat.le_of_ble_eq_true rfl) ?_
  have hP9 := hP.sub (ws' := [(a0, .inr (6, [.ref q1, .int 0, .ref q2, .ref q3, .ref q4, .ref q5, .int 0, .ref q6])), (q1, .inl (cy 4, 40, .inl (fun _ => 0))), (q2, .inl (cy 0, 41, .inl (fun _ => 0))), (q3, .inl (cy 0, 41, .inl (fun _ => 0))), (q4, .inl (cy 0, 41, .inl (fun _ => 0))), (q5, .inl (cy 6, 41, .inr (.inr (.inr (.inr (fun _ => none)))))), (q6, .inr (1, [.ref q7, .int 0, .int 0, .int 0])), (q7, .inl (cy 5, 16, .inl (fun _ => 0)))]) [0, 1, 2, 3, 4, 5, 6, 7] rfl
  have hD9 := hD.sub (ws' := [(a0, .inr (6, [.ref q1, .int 0, .ref q2, .ref q3, .ref q4, .ref q5, .int 0, .ref q6])), (q1, .inl (cy 4, 40, .inl (fun _ => 0))), (q2, .inl (cy 0, 41, .inl (fun _ => 0))), (q3, .inl (cy 0, 41, .inl (fun _ => 0))), (q4, .inl (cy 0, 41, .inl (fun _ => 0))), (q5, .inl (cy 6, 41, .inr (.inr (.inr (.inr (fun _ => none)))))), (q6, .inr (1, [.ref q7, .int 0, .int 0, .int 0])), (q7, .inl (cy 5, 16, .inl (fun _ => 0)))]) [0, 1, 2, 3, 4, 5, 6, 7] (by decide) rfl
  exact W.vret hx hb hr (fun t ht hW => ⟨⟨(), rfl, trivial, ⟨q1, q2, q3, q4, q5, q6, q7, by rw [ht]; exact hP9, hD9⟩⟩, hS.F ht⟩) hS.2.2 dX4_init_56

set_option maxHeartbeats 4000000 in
set_option maxRecDepth 100000 in
theorem C_X6_init_1 (l : Launch) (D : va_G) (cy : Nat → ClassId) (sz0 : Nat) (sa : Nat → Nat) (a0 : Nat) (sz : Nat)  : Met l yX6_init wsX6_init ({ frames := 4, cells := 8, slots := 232, locals := 81 }) (PcW D cy sz0 sa [.ref a0] [(a0, .inr (8, [.null, .int 0, .int 0, .int 0]))] sz) (va_Qv (fun (u : Unit) => True) (fun (u : Unit) (t : State) => ∃ (n0 n1 n2 n3 n4 n5 n6 n7 : Nat), BW D [(a0, .inr (8, [.ref n0, .int 0, .int 0, .int 0])), (n0, .inr (6, [.ref n1, .int 0, .ref n2, .ref n3, .ref n4, .ref n5, .int 0, .ref n6])), (n1, .inl (cy 4, 40, .inl (fun _ => 0))), (n2, .inl (cy 0, 41, .inl (fun _ => 0))), (n3, .inl (cy 0, 41, .inl (fun _ => 0))), (n4, .inl (cy 0, 41, .inl (fun _ => 0))), (n5, .inl (cy 6, 41, .inr (.inr (.inr (.inr (fun _ => none)))))), (n6, .inr (1, [.ref n7, .int 0, .int 0, .int 0])), (n7, .inl (cy 5, 16, .inl (fun _ => 0)))] (va_A [(a0, .inr (8, [.null, .int 0, .int 0, .int 0]))] sz) t) (va_A [(a0, .inr (8, [.null, .int 0, .int 0, .int 0]))] sz)) 8 232 (va_A [(a0, .inr (8, [.null, .int 0, .int 0, .int 0]))] sz) := by
  refine Met.ofW (cc := cX6_init) (maxL := 1) (ret := none) (by decide) rfl ?_
  intro p e s m args below meth c s₁ B hml hv
  obtain ⟨rfl, hsz, hP, hD0, hE⟩ := hv
  have hx := B.exec
  have hb := B.bytes
  have hr := B.returns
  have hts := atoms_spec (ws := wsX6_init) B.pre
  have hown : s.vm.findClass RX6 = some m.cls := findClass_of_methodNamed B.named
  have hlocks := B.notSynchronized
  have hin : meth.name = "<init>" := (name_of_methodNamed B.named B.method).1
  subst hsz
  have hK := hE.1
  have hAm := hE.2.2.1
  have hWm := hE.2.2.2
  have hAO := hWm.2.2.2.1
  have hD := hD0.self (sz := s.heap.size)
  have hAF := frA hD0 hE.2.1
  generalize hAe : va_A [(a0, .inr (8, [.null, .int 0, .int 0, .int 0]))] s.heap.size = A at hD hAF ⊢
  have hA : ∀ q : Nat, s.heap.size ≤ q → A q := fun q h => by rw [← hAe]; exact Or.inr h
  have hS : va_S A s.heap s.heap [] := va_S.rf
  have hl := lv_entry ([.ref a0]) (n := 1) (Nat.le_of_ble_eq_true rfl)
  rw [lg_entry_eq]
  generalize (lg_sl ([.ref a0]) ++ List.replicate (1 - (lg_sl ([.ref a0])).length) Slot.unset).toArray = ls at hl ⊢
  have hl : lv_has ls 1 [(0, .ref a0)] := hl
  have hP : va_P D vwCl [(a0, .inr (8, [.null, .int 0, .int 0, .int 0]))] s.heap := hP
  refine lv_aload_n hx hb dX6_init_0 rfl (lv_at hl 0 rfl) ?_
  refine W.objInit hx hb hown (hts (.methodLink RX6 3 objectInit) (List.mem_of_getElem? (i := 1) rfl)) (hts (.instanceMethod objectInit) (List.mem_of_getElem? (i := 2) rfl)) (hts (.code objectInit ⟨#[0xb1]⟩ 1 none) (List.mem_of_getElem? (i := 3) rfl)) rfl (by rw [hml]; exact hl.1) rfl dX6_init_1 (Nat.le_of_ble_eq_true rfl) (Nat.le_of_ble_eq_true rfl) ?_
  refine W.eq (g2 := F0 m 4 ls []) rfl ?_
  refine lv_aload_n hx hb dX6_init_4 rfl (lv_at hl 0 rfl) ?_
  refine va_new (ci := 6) (fs := [.null, .int 0, .null, .null, .null, .null, .int 0, .null]) (C := RX4) (T := TX4) (N := 8) hx hb hts (fun _ h => List.mem_cons_of_mem _ (List.mem_append_left _ (List.mem_append_left _ (List.mem_append_right _ h)))) tyX4 tyX4_ok hown (hts (.classLink RX6 9 RX4) (List.mem_of_getElem? (i := 4) rfl)) (hts (.instantiable RX4 8) (List.mem_of_getElem? (i := 5) rfl)) (hts (.initialized RX4) (List.mem_of_getElem? (i := 6) rfl)) hK hP hD hS hA rfl (fun j hj => by rcases (show j = 0 ∨ j = 1 ∨ j = 2 ∨ j = 3 ∨ j = 4 ∨ j = 5 ∨ j = 6 ∨ j = 7 by omega) with rfl | rfl | rfl | rfl | rfl | rfl | rfl | rfl <;> rfl) (Nat.le_of_ble_eq_true rfl) (Nat.le_of_ble_eq_true rfl) dX6_init_5 (fun q1 H hP hD hS => ?_)
  have hP : va_P D vwCl [(a0, .inr (8, [.null, .int 0, .int 0, .int 0])), (q1, .inr (6, [.null, .int 0, .null, .null, .null, .null, .int 0, .null]))] H := hP
  have hD : va_D A [(a0, .inr (8, [.null, .int 0, .int 0, .int 0])), (q1, .inr (6, [.null, .int 0, .null, .null, .null, .null, .int 0, .null]))] := hD
  refine W.widen (k := 1) (n := 8) (Nat.le_of_ble_eq_true rfl) (Nat.le_of_ble_eq_true rfl) ?_
  refine lv_dup hx hb dX6_init_8 rfl ?_
  have hPc := hP.sub (ws' := [(q1, .inr (6, [.null, .int 0, .null, .null, .null, .null, .int 0, .null]))]) [1] rfl
  have hDc := hD.sub (ws' := [(q1, .inr (6, [.null, .int 0, .null, .null, .null, .null, .int 0, .null]))]) [1] (by decide) rfl
  have hFc := va_free (wc := [(q1, .inr (6, [.null, .int 0, .null, .null, .null, .null, .int 0, .null]))]) hD hS hA [1] rfl
  refine va_callv (va_runI (As := []) (rest := [.ref q1, .ref a0]) ⟨hx, hb, hml, hown, hts⟩ (C_X4_init_1 l D cy sz0 sa q1 H.size) (cwI 0 hts gX6_init_X4_init rfl rfl rfl (hts (.initialized RX4) (List.mem_of_getElem? (i := 6) rfl)) (hts (.methodLink RX6 11 yX4_init) (List.mem_of_getElem? (i := 8) rfl)) (hts (.instanceMethod yX4_init) (List.mem_of_getElem? (i := 9) rfl)) rfl (by decide +kernel) ⟨Nat.le_of_ble_eq_true rfl, Nat.le_of_ble_eq_true rfl⟩) ⟨PcW.blind, PcW.mk hE hS hAF hPc hDc⟩ rfl rfl hl.1 rfl (lv_room (Nat.le_of_ble_eq_true rfl)) dX6_init_9 ⟨Nat.le_of_ble_eq_true rfl, Nat.le_of_ble_eq_true rfl⟩) hS (fun q _ h => hFc q h) hFc (fun u t H1 locs ht hvm hw hB hz1 hk1 hS => ?_)
  obtain ⟨q2, q3, q4, q5, q6, q7, q8, hP1, hD1⟩ := hB
  rw [ht] at hP1
  have hP1 : va_P D vwCl [(q1, .inr (6, [.ref q2, .int 0, .ref q3, .ref q4, .ref q5, .ref q6, .int 0, .ref q7])), (q2, .inl (cy 4, 40, .inl (fun _ => 0))), (q3, .inl (cy 0, 41, .inl (fun _ => 0))), (q4, .inl (cy 0, 41, .inl (fun _ => 0))), (q5, .inl (cy 0, 41, .inl (fun _ => 0))), (q6, .inl (cy 6, 41, .inr (.inr (.inr (.inr (fun _ => none)))))), (q7, .inr (1, [.ref q8, .int 0, .int 0, .int 0])), (q8, .inl (cy 5, 16, .inl (fun _ => 0)))] H1 := hP1
  obtain ⟨hP, hD⟩ := va_join (wr := [(a0, .inr (8, [.null, .int 0, .int 0, .int 0]))]) (w1 := [(q1, .inr (6, [.ref q2, .int 0, .ref q3, .ref q4, .ref q5, .ref q6, .int 0, .ref q7])), (q2, .inl (cy 4, 40, .inl (fun _ => 0))), (q3, .inl (cy 0, 41, .inl (fun _ => 0))), (q4, .inl (cy 0, 41, .inl (fun _ => 0))), (q5, .inl (cy 0, 41, .inl (fun _ => 0))), (q6, .inl (cy 6, 41, .inr (.inr (.inr (.inr (fun _ => none)))))), (q7, .inr (1, [.ref q8, .int 0, .int 0, .int 0])), (q8, .inl (cy 5, 16, .inl (fun _ => 0)))]) hP hD [1] [0] rfl rfl (by decide) (by decide) hk1 hFc hP1 hD1
  clear hP1 hD1 hPc hDc hFc hk1 hz1
  generalize H1 = H at hP hS ⊢
  have hP : va_P D vwCl [(a0, .inr (8, [.null, .int 0, .int 0, .int 0])), (q1, .inr (6, [.ref q2, .int 0, .ref q3, .ref q4, .ref q5, .ref q6, .int 0, .ref q7])), (q2, .inl (cy 4, 40, .inl (fun _ => 0))), (q3, .inl (cy 0, 41, .inl (fun _ => 0))), (q4, .inl (cy 0, 41, .inl (fun _ => 0))), (q5, .inl (cy 0, 41, .inl (fun _ => 0))), (q6, .inl (cy 6, 41, .inr (.inr (.inr (.inr (fun _ => none)))))), (q7, .inr (1, [.ref q8, .int 0, .int 0, .int 0])), (q8, .inl (cy 5, 16, .inl (fun _ => 0)))] H := hP
  have hD : va_D A [(a0, .inr (8, [.null, .int 0, .int 0, .int 0])), (q1, .inr (6, [.ref q2, .int 0, .ref q3, .ref q4, .ref q5, .ref q6, .int 0, .ref q7])), (q2, .inl (cy 4, 40, .inl (fun _ => 0))), (q3, .inl (cy 0, 41, .inl (fun _ => 0))), (q4, .inl (cy 0, 41, .inl (fun _ => 0))), (q5, .inl (cy 0, 41, .inl (fun _ => 0))), (q6, .inl (cy 6, 41, .inr (.inr (.inr (.inr (fun _ => none)))))), (q7, .inr (1, [.ref q8, .int 0, .int 0, .int 0])), (q8, .inl (cy 5, 16, .inl (fun _ => 0)))] := hD
  refine W.widen (k := 8) (n := 232) (Nat.le_of_ble_eq_true rfl) (Nat.le_of_ble_eq_true rfl) ?_
  refine va_putF (D := D) (ci := 8) (v := .ref q1) (ty := .object "PhraseDesk$Lexer") (C := RX6) (T := TX6) (N := 4) hx hb hts (fun _ h => List.mem_cons_of_mem _ (List.mem_append_left _ (List.mem_append_right _ h))) tyX6 tyX6_ok nmX6 hown hK hP hD hS 0 rfl rfl 0 (by decide) (hts (.fieldLink RX6 12 "PhraseDesk$Parser" "lexer" "LPhraseDesk$Lexer;") (List.mem_of_getElem? (i := 7) rfl)) (fun _ h9 => h9) rfl hin rfl (by decide +kernel) rfl rfl (Nat.le_of_ble_eq_true rfl) dX6_init_12 (fun H locs hP hD hS => ?_)
  have hP : va_P D vwCl [(a0, .inr (8, [.ref q1, .int 0, .int 0, .int 0])), (q1, .inr (6, [.ref q2, .int 0, .ref q3, .ref q4, .ref q5, .ref q6, .int 0, .ref q7])), (q2, .inl (cy 4, 40, .inl (fun _ => 0))), (q3, .inl (cy 0, 41, .inl (fun _ => 0))), (q4, .inl (cy 0, 41, .inl (fun _ => 0))), (q5, .inl (cy 0, 41, .inl (fun _ => 0))), (q6, .inl (cy 6, 41, .inr (.inr (.inr (.inr (fun _ => none)))))), (q7, .inr (1, [.ref q8, .int 0, .int 0, .int 0])), (q8, .inl (cy 5, 16, .inl (fun _ => 0)))] H := hP
  have hD : va_D A [(a0, .inr (8, [.ref q1, .int 0, .int 0, .int 0])), (q1, .inr (6, [.ref q2, .int 0, .ref q3, .ref q4, .ref q5, .ref q6, .int 0, .ref q7])), (q2, .inl (cy 4, 40, .inl (fun _ => 0))), (q3, .inl (cy 0, 41, .inl (fun _ => 0))), (q4, .inl (cy 0, 41, .inl (fun _ => 0))), (q5, .inl (cy 0, 41, .inl (fun _ => 0))), (q6, .inl (cy 6, 41, .inr (.inr (.inr (.inr (fun _ => none)))))), (q7, .inr (1, [.ref q8, .int 0, .int 0, .int 0])), (q8, .inl (cy 5, 16, .inl (fun _ => 0)))] := hD
  refine W.widen (k := 8) (n := 232) (Nat.le_of_ble_eq_true rfl) (Nat.le_of_ble_eq_true rfl) ?_
  have hP9 := hP.sub (ws' := [(a0, .inr (8, [.ref q1, .int 0, .int 0, .int 0])), (q1, .inr (6, [.ref q2, .int 0, .ref q3, .ref q4, .ref q5, .ref q6, .int 0, .ref q7])), (q2, .inl (cy 4, 40, .inl (fun _ => 0))), (q3, .inl (cy 0, 41, .inl (fun _ => 0))), (q4, .inl (cy 0, 41, .inl (fun _ => 0))), (q5, .inl (cy 0, 41, .inl (fun _ => 0))), (q6, .inl (cy 6, 41, .inr (.inr (.inr (.inr (fun _ => none)))))), (q7, .inr (1, [.ref q8, .int 0, .int 0, .int 0])), (q8, .inl (cy 5, 16, .inl (fun _ => 0)))]) [0, 1, 2, 3, 4, 5, 6, 7, 8] rfl
  have hD9 := hD.sub (ws' := [(a0, .inr (8, [.ref q1, .int 0, .int 0, .int 0])), (q1, .inr (6, [.ref q2, .int 0, .ref q3, .ref q4, .ref q5, .ref q6, .int 0, .ref q7])), (q2, .inl (cy 4, 40, .inl (fun _ => 0))), (q3, .inl (cy 0, 41, .inl (fun _ => 0))), (q4, .inl (cy 0, 41, .inl (fun _ => 0))), (q5, .inl (cy 0, 41, .inl (fun _ => 0))), (q6, .inl (cy 6, 41, .inr (.inr (.inr (.inr (fun _ => none)))))), (q7, .inr (1, [.ref q8, .int 0, .int 0, .int 0])), (q8, .inl (cy 5, 16, .inl (fun _ => 0)))]) [0, 1, 2, 3, 4, 5, 6, 7, 8] (by decide) rfl
  exact W.vret hx hb hr (fun t ht hW => ⟨⟨(), rfl, trivial, ⟨q1, q2, q3, q4, q5, q6, q7, q8, by rw [ht]; exact hP9, hD9⟩⟩, hS.F ht⟩) hS.2.2 dX6_init_15

set_option maxHeartbeats 4000000 in
set_option maxRecDepth 100000 in
theorem C_X10_init_1 (l : Launch) (D : va_G) (cy : Nat → ClassId) (sz0 : Nat) (sa : Nat → Nat) (a0 : Nat) (sz : Nat)  : Met l yX10_init wsX10_init ({ frames := 1, cells := 0, slots := 0, locals := 20 }) (PcW D cy sz0 sa [.ref a0, .int 0, .int 0, .double FP.dconst0, .ref (sa 0), .null] [(a0, .inr (12, [.int 0, .int 0, .double 0, .null, .null]))] sz) (va_Qv (fun (u : Unit) => True) (fun (u : Unit) (t : State) => BW D [(a0, .inr (12, [.int 0, .int 0, .double FP.dconst0, .ref (sa 0), .null]))] (va_A [(a0, .inr (12, [.int 0, .int 0, .double 0, .null, .null]))] sz) t) (va_A [(a0, .inr (12, [.int 0, .int 0, .double 0, .null, .null]))] sz)) 0 0 (va_A [(a0, .inr (12, [.int 0, .int 0, .double 0, .null, .null]))] sz) := by
  refine Met.ofW (cc := cX10_init) (maxL := 7) (ret := none) (by decide) rfl ?_
  intro p e s m args below meth c s₁ B hml hv
  obtain ⟨rfl, hsz, hP, hD0, hE⟩ := hv
  have hx := B.exec
  have hb := B.bytes
  have hr := B.returns
  have hts := atoms_spec (ws := wsX10_init) B.pre
  have hown : s.vm.findClass RX10 = some m.cls := findClass_of_methodNamed B.named
  have hlocks := B.notSynchronized
  have hin : meth.name = "<init>" := (name_of_methodNamed B.named B.method).1
  subst hsz
  have hK := hE.1
  have hAm := hE.2.2.1
  have hWm := hE.2.2.2
  have hAO := hWm.2.2.2.1
  have hD := hD0.self (sz := s.heap.size)
  have hAF := frA hD0 hE.2.1
  generalize hAe : va_A [(a0, .inr (12, [.int 0, .int 0, .double 0, .null, .null]))] s.heap.size = A at hD hAF ⊢
  have hA : ∀ q : Nat, s.heap.size ≤ q → A q := fun q h => by rw [← hAe]; exact Or.inr h
  have hS : va_S A s.heap s.heap [] := va_S.rf
  have hl := lv_entry ([.ref a0, .int 0, .int 0, .double FP.dconst0, .ref (sa 0), .null]) (n := 7) (Nat.le_of_ble_eq_true rfl)
  rw [lg_entry_eq]
  generalize (lg_sl ([.ref a0, .int 0, .int 0, .double FP.dconst0, .ref (sa 0), .null]) ++ List.replicate (7 - (lg_sl ([.ref a0, .int 0, .int 0, .double FP.dconst0, .ref (sa 0), .null])).length) Slot.unset).toArray = ls at hl ⊢
  have hl : lv_has ls 7 [(0, .ref a0), (1, .int 0), (2, .int 0), (3, .double FP.dconst0), (5, .ref (sa 0)), (6, .null)] := hl
  have hP : va_P D vwCl [(a0, .inr (12, [.int 0, .int 0, .double 0, .null, .null]))] s.heap := hP
  refine lv_aload_n hx hb dX10_init_0 rfl (lv_at hl 0 rfl) ?_
  refine W.objInit hx hb hown (hts (.methodLink RX10 3 objectInit) (List.mem_of_getElem? (i := 1) rfl)) (hts (.instanceMethod objectInit) (List.mem_of_getElem? (i := 2) rfl)) (hts (.code objectInit ⟨#[0xb1]⟩ 1 none) (List.mem_of_getElem? (i := 3) rfl)) rfl (by rw [hml]; exact hl.1) rfl dX10_init_1 (Nat.le_of_ble_eq_true rfl) (Nat.le_of_ble_eq_true rfl) ?_
  refine W.eq (g2 := F0 m 4 ls []) rfl ?_
  refine lv_aload_n hx hb dX10_init_4 rfl (lv_at hl 0 rfl) ?_
  refine lv_iload_n hx hb dX10_init_5 rfl (lv_at hl 1 rfl) ?_
  refine va_putF (D := D) (ci := 12) (v := .int 0) (ty := .int) (C := RX10) (T := TX10) (N := 5) hx hb hts (fun _ h => List.mem_cons_of_mem _ (List.mem_append_right _ h)) tyX10 tyX10_ok nmX10 hown hK hP hD hS 0 rfl rfl 0 (by decide) (hts (.fieldLink RX10 9 "PhraseDesk$Value" "kind" "I") (List.mem_of_getElem? (i := 4) rfl)) (fun _ h9 => h9) rfl hin rfl (by decide +kernel) rfl rfl (Nat.le_of_ble_eq_true rfl) dX10_init_6 (fun H locs hP hD hS => ?_)
  have hP : va_P D vwCl [(a0, .inr (12, [.int 0, .int 0, .double 0, .null, .null]))] H := hP
  have hD : va_D A [(a0, .inr (12, [.int 0, .int 0, .double 0, .null, .null]))] := hD
  refine lv_aload_n hx hb dX10_init_9 rfl (lv_at hl 0 rfl) ?_
  refine lv_iload_n hx hb dX10_init_10 rfl (lv_at hl 2 rfl) ?_
  refine va_putF (D := D) (ci := 12) (v := .int 0) (ty := .int) (C := RX10) (T := TX10) (N := 5) hx hb hts (fun _ h => List.mem_cons_of_mem _ (List.mem_append_right _ h)) tyX10 tyX10_ok nmX10 hown hK hP hD hS 0 rfl rfl 1 (by decide) (hts (.fieldLink RX10 15 "PhraseDesk$Value" "number" "I") (List.mem_of_getElem? (i := 5) rfl)) (fun _ h9 => h9) rfl hin rfl (by decide +kernel) rfl rfl (Nat.le_of_ble_eq_true rfl) dX10_init_11 (fun H locs hP hD hS => ?_)
  have hP : va_P D vwCl [(a0, .inr (12, [.int 0, .int 0, .double 0, .null, .null]))] H := hP
  have hD : va_D A [(a0, .inr (12, [.int 0, .int 0, .double 0, .null, .null]))] := hD
  refine lv_aload_n hx hb dX10_init_14 rfl (lv_at hl 0 rfl) ?_
  refine lv_dload_n hx hb dX10_init_15 rfl (lv_at hl 3 rfl) ?_
  refine va_putF (D := D) (ci := 12) (v := .double FP.dconst0) (ty := .double) (C := RX10) (T := TX10) (N := 5) hx hb hts (fun _ h => List.mem_cons_of_mem _ (List.mem_append_right _ h)) tyX10 tyX10_ok nmX10 hown hK hP hD hS 0 rfl rfl 2 (by decide) (hts (.fieldLink RX10 18 "PhraseDesk$Value" "real" "D") (List.mem_of_getElem? (i := 6) rfl)) (fun _ h9 => h9) rfl hin rfl (by decide +kernel) rfl rfl (Nat.le_of_ble_eq_true rfl) dX10_init_16 (fun H locs hP hD hS => ?_)
  have hP : va_P D vwCl [(a0, .inr (12, [.int 0, .int 0, .double FP.dconst0, .null, .null]))] H := hP
  have hD : va_D A [(a0, .inr (12, [.int 0, .int 0, .double FP.dconst0, .null, .null]))] := hD
  refine lv_aload_n hx hb dX10_init_19 rfl (lv_at hl 0 rfl) ?_
  refine lv_aload hx hb dX10_init_20 (lv_at hl 4 rfl) ?_
  refine va_putF (D := D) (ci := 12) (v := .ref (sa 0)) (ty := .object "java/lang/String") (C := RX10) (T := TX10) (N := 5) hx hb hts (fun _ h => List.mem_cons_of_mem _ (List.mem_append_right _ h)) tyX10 tyX10_ok nmX10 hown hK hP hD hS 0 rfl rfl 3 (by decide) (hts (.fieldLink RX10 22 "PhraseDesk$Value" "chars" "Ljava/lang/String;") (List.mem_of_getElem? (i := 7) rfl)) (fun _ h9 => h9) rfl hin rfl (by decide +kernel) rfl rfl (Nat.le_of_ble_eq_true rfl) dX10_init_22 (fun H locs hP hD hS => ?_)
  have hP : va_P D vwCl [(a0, .inr (12, [.int 0, .int 0, .double FP.dconst0, .ref (sa 0), .null]))] H := hP
  have hD : va_D A [(a0, .inr (12, [.int 0, .int 0, .double FP.dconst0, .ref (sa 0), .null]))] := hD
  refine lv_aload_n hx hb dX10_init_25 rfl (lv_at hl 0 rfl) ?_
  refine lv_aloadN hx hb dX10_init_26 (lv_at hl 5 rfl) ?_
  refine va_putF (D := D) (ci := 12) (v := .null) (ty := .object "PhraseDesk$Thing") (C := RX10) (T := TX10) (N := 5) hx hb hts (fun _ h => List.mem_cons_of_mem _ (List.mem_append_right _ h)) tyX10 tyX10_ok nmX10 hown hK hP hD hS 0 rfl rfl 4 (by decide) (hts (.fieldLink RX10 26 "PhraseDesk$Value" "thing" "LPhraseDesk$Thing;") (List.mem_of_getElem? (i := 8) rfl)) (fun _ h9 => h9) rfl hin rfl (by decide +kernel) rfl rfl (Nat.le_of_ble_eq_true rfl) dX10_init_28 (fun H locs hP hD hS => ?_)
  have hP : va_P D vwCl [(a0, .inr (12, [.int 0, .int 0, .double FP.dconst0, .ref (sa 0), .null]))] H := hP
  have hD : va_D A [(a0, .inr (12, [.int 0, .int 0, .double FP.dconst0, .ref (sa 0), .null]))] := hD
  refine W.widen (k := 0) (n := 0) (Nat.le_of_ble_eq_true rfl) (Nat.le_of_ble_eq_true rfl) ?_
  have hP9 := hP.sub (ws' := [(a0, .inr (12, [.int 0, .int 0, .double FP.dconst0, .ref (sa 0), .null]))]) [0] rfl
  have hD9 := hD.sub (ws' := [(a0, .inr (12, [.int 0, .int 0, .double FP.dconst0, .ref (sa 0), .null]))]) [0] (by decide) rfl
  exact W.vret hx hb hr (fun t ht hW => ⟨⟨(), rfl, trivial, ⟨by rw [ht]; exact hP9, hD9⟩⟩, hS.F ht⟩) hS.2.2 dX10_init_31

set_option maxHeartbeats 4000000 in
set_option maxRecDepth 100000 in
theorem C_X10_ofNull_1 (l : Launch) (D : va_G) (cy : Nat → ClassId) (sz0 : Nat) (sa : Nat → Nat)  (sz : Nat)  : Met l yX10_ofNull wsX10_ofNull ({ frames := 2, cells := 1, slots := 5, locals := 46 }) (PcW D cy sz0 sa [] [] sz) (va_Qq (fun (r : Option Nat) (u : Nat) => r = some u) (fun (u : Nat) (t : State) => BW D [(u, .inr (12, [.int 0, .int 0, .double FP.dconst0, .ref (sa 0), .null]))] (va_A [] sz) t) (va_A [] sz)) 1 5 (va_A [] sz) := by
  refine Met.ofW (cc := cX10_ofNull) (maxL := 0) (ret := (some (.object "PhraseDesk$Value"))) (by decide) rfl ?_
  intro p e s m args below meth c s₁ B hml hv
  obtain ⟨rfl, hsz, hP, hD0, hE⟩ := hv
  have hx := B.exec
  have hb := B.bytes
  have hr := B.returns
  have hts := atoms_spec (ws := wsX10_ofNull) B.pre
  have hown : s.vm.findClass RX10 = some m.cls := findClass_of_methodNamed B.named
  have hlocks := B.notSynchronized
  subst hsz
  have hK := hE.1
  have hAm := hE.2.2.1
  have hWm := hE.2.2.2
  have hAO := hWm.2.2.2.1
  have hD := hD0.self (sz := s.heap.size)
  have hAF := frA hD0 hE.2.1
  generalize hAe : va_A [] s.heap.size = A at hD hAF ⊢
  have hA : ∀ q : Nat, s.heap.size ≤ q → A q := fun q h => by rw [← hAe]; exact Or.inr h
  have hS : va_S A s.heap s.heap [] := va_S.rf
  have hl := lv_entry ([]) (n := 0) (Nat.le_of_ble_eq_true rfl)
  rw [lg_entry_eq]
  generalize (lg_sl ([]) ++ List.replicate (0 - (lg_sl ([])).length) Slot.unset).toArray = ls at hl ⊢
  have hl : lv_has ls 0 [] := hl
  have hP : va_P D vwCl [] s.heap := hP
  refine va_new (ci := 12) (fs := [.int 0, .int 0, .double 0, .null, .null]) (C := RX10) (T := TX10) (N := 5) hx hb hts (fun _ h => List.mem_cons_of_mem _ (List.mem_append_right _ h)) tyX10 tyX10_ok hown (hts (.classLink RX10 10 RX10) (List.mem_of_getElem? (i := 1) rfl)) (hts (.instantiable RX10 5) (List.mem_of_getElem? (i := 2) rfl)) (hts (.initialized RX10) (List.mem_of_getElem? (i := 3) rfl)) hK hP hD hS hA rfl (fun j hj => by rcases (show j = 0 ∨ j = 1 ∨ j = 2 ∨ j = 3 ∨ j = 4 by omega) with rfl | rfl | rfl | rfl | rfl <;> rfl) (Nat.le_of_ble_eq_true rfl) (Nat.le_of_ble_eq_true rfl) dX10_ofNull_0 (fun q1 H hP hD hS => ?_)
  have hP : va_P D vwCl [(q1, .inr (12, [.int 0, .int 0, .double 0, .null, .null]))] H := hP
  have hD : va_D A [(q1, .inr (12, [.int 0, .int 0, .double 0, .null, .null]))] := hD
  refine W.widen (k := 1) (n := 5) (Nat.le_of_ble_eq_true rfl) (Nat.le_of_ble_eq_true rfl) ?_
  refine lv_dup hx hb dX10_ofNull_3 rfl ?_
  refine lv_iconst (v := 0) hx hb dX10_ofNull_4 (by decide +kernel) ?_
  refine lv_iconst (v := 0) hx hb dX10_ofNull_5 (by decide +kernel) ?_
  refine lv_dconst0 hx hb dX10_ofNull_6 ?_
  refine va_ldcS hx hb hown hWm.2.1 dX10_ofNull_7 ?_
  refine lv_null hx hb dX10_ofNull_9 ?_
  have hPc := hP.sub (ws' := [(q1, .inr (12, [.int 0, .int 0, .double 0, .null, .null]))]) [0] rfl
  have hDc := hD.sub (ws' := [(q1, .inr (12, [.int 0, .int 0, .double 0, .null, .null]))]) [0] (by decide) rfl
  have hFc := va_free (wc := [(q1, .inr (12, [.int 0, .int 0, .double 0, .null, .null]))]) hD hS hA [0] rfl
  refine va_callv (va_runI (As := [.int 0, .int 0, .double FP.dconst0, .ref (sa 0), .null]) (rest := [.ref q1]) ⟨hx, hb, hml, hown, hts⟩ (C_X10_init_1 l D cy sz0 sa q1 H.size) (cwI 5 hts gX10_ofNull_X10_init rfl rfl rfl (hts (.initialized RX10) (List.mem_of_getElem? (i := 3) rfl)) (hts (.methodLink RX10 32 yX10_init) (List.mem_of_getElem? (i := 4) rfl)) (hts (.instanceMethod yX10_init) (List.mem_of_getElem? (i := 5) rfl)) rfl (by decide +kernel) ⟨Nat.le_of_ble_eq_true rfl, Nat.le_of_ble_eq_true rfl⟩) ⟨PcW.blind, PcW.mk hE hS hAF hPc hDc⟩ rfl rfl hl.1 rfl (lv_room (Nat.le_of_ble_eq_true rfl)) dX10_ofNull_10 ⟨Nat.le_of_ble_eq_true rfl, Nat.le_of_ble_eq_true rfl⟩) hS (fun q _ h => hFc q h) hFc (fun u t H1 locs ht hvm hw hB hz1 hk1 hS => ?_)
  obtain ⟨hP1, hD1⟩ := hB
  rw [ht] at hP1
  have hP1 : va_P D vwCl [(q1, .inr (12, [.int 0, .int 0, .double FP.dconst0, .ref (sa 0), .null]))] H1 := hP1
  obtain ⟨hP, hD⟩ := va_join (wr := []) (w1 := [(q1, .inr (12, [.int 0, .int 0, .double FP.dconst0, .ref (sa 0), .null]))]) hP hD [0] [] rfl rfl (by decide) (by decide) hk1 hFc hP1 hD1
  clear hP1 hD1 hPc hDc hFc hk1 hz1
  generalize H1 = H at hP hS ⊢
  have hP : va_P D vwCl [(q1, .inr (12, [.int 0, .int 0, .double FP.dconst0, .ref (sa 0), .null]))] H := hP
  have hD : va_D A [(q1, .inr (12, [.int 0, .int 0, .double FP.dconst0, .ref (sa 0), .null]))] := hD
  refine W.widen (k := 1) (n := 5) (Nat.le_of_ble_eq_true rfl) (Nat.le_of_ble_eq_true rfl) ?_
  refine W.widen (k := 1) (n := 5) (Nat.le_of_ble_eq_true rfl) (Nat.le_of_ble_eq_true rfl) ?_
  have hP9 := hP.sub (ws' := [(q1, .inr (12, [.int 0, .int 0, .double FP.dconst0, .ref (sa 0), .null]))]) [0] rfl
  have hD9 := hD.sub (ws' := [(q1, .inr (12, [.int 0, .int 0, .double FP.dconst0, .ref (sa 0), .null]))]) [0] (by decide) rfl
  exact W.aret (v := .ref q1) hx hb hr (Or.inl ⟨_, rfl⟩) (Or.inr ⟨_, rfl⟩) (fun t ht hW => ⟨⟨(some q1), q1, rfl, rfl, ⟨by rw [ht]; exact hP9, hD9⟩⟩, hS.F ht⟩) hS.2.2 dX10_ofNull_13

set_option maxHeartbeats 4000000 in
set_option maxRecDepth 100000 in
theorem C_X0_init_1 (l : Launch) (D : va_G) (cy : Nat → ClassId) (sz0 : Nat) (sa : Nat → Nat) (a0 : Nat) (sz : Nat)  : Met l yX0_init wsX0_init ({ frames := 3, cells := 3, slots := 85, locals := 61 }) (PcW D cy sz0 sa [.ref a0] [(a0, .inr (2, [.null, .null]))] sz) (va_Qv (fun (u : Unit) => True) (fun (u : Unit) (t : State) => ∃ (n0 n1 n2 : Nat), BW D [(a0, .inr (2, [.ref n0, .ref n1])), (n0, .inl (cy 2, 65, .inl (fun _ => 0))), (n1, .inr (1, [.ref n2, .int 0, .int 0, .int 0])), (n2, .inl (cy 5, 16, .inl (fun _ => 0)))] (va_A [(a0, .inr (2, [.null, .null]))] sz) t) (va_A [(a0, .inr (2, [.null, .null]))] sz)) 3 85 (va_A [(a0, .inr (2, [.null, .null]))] sz) := by
  refine Met.ofW (cc := cX0_init) (maxL := 1) (ret := none) (by decide) rfl ?_
  intro p e s m args below meth c s₁ B hml hv
  obtain ⟨rfl, hsz, hP, hD0, hE⟩ := hv
  have hx := B.exec
  have hb := B.bytes
  have hr := B.returns
  have hts := atoms_spec (ws := wsX0_init) B.pre
  have hown : s.vm.findClass RX0 = some m.cls := findClass_of_methodNamed B.named
  have hlocks := B.notSynchronized
  have hin : meth.name = "<init>" := (name_of_methodNamed B.named B.method).1
  subst hsz
  have hK := hE.1
  have hAm := hE.2.2.1
  have hWm := hE.2.2.2
  have hAO := hWm.2.2.2.1
  have hD := hD0.self (sz := s.heap.size)
  have hAF := frA hD0 hE.2.1
  generalize hAe : va_A [(a0, .inr (2, [.null, .null]))] s.heap.size = A at hD hAF ⊢
  have hA : ∀ q : Nat, s.heap.size ≤ q → A q := fun q h => by rw [← hAe]; exact Or.inr h
  have hS : va_S A s.heap s.heap [] := va_S.rf
  have hl := lv_entry ([.ref a0]) (n := 1) (Nat.le_of_ble_eq_true rfl)
  rw [lg_entry_eq]
  generalize (lg_sl ([.ref a0]) ++ List.replicate (1 - (lg_sl ([.ref a0])).length) Slot.unset).toArray = ls at hl ⊢
  have hl : lv_has ls 1 [(0, .ref a0)] := hl
  have hP : va_P D vwCl [(a0, .inr (2, [.null, .null]))] s.heap := hP
  refine lv_aload_n hx hb dX0_init_0 rfl (lv_at hl 0 rfl) ?_
  refine W.objInit hx hb hown (hts (.methodLink RX0 3 objectInit) (List.mem_of_getElem? (i := 1) rfl)) (hts (.instanceMethod objectInit) (List.mem_of_getElem? (i := 2) rfl)) (hts (.code objectInit ⟨#[0xb1]⟩ 1 none) (List.mem_of_getElem? (i := 3) rfl)) rfl (by rw [hml]; exact hl.1) rfl dX0_init_1 (Nat.le_of_ble_eq_true rfl) (Nat.le_of_ble_eq_true rfl) ?_
  refine W.eq (g2 := F0 m 4 ls []) rfl ?_
  refine lv_aload_n hx hb dX0_init_4 rfl (lv_at hl 0 rfl) ?_
  refine lv_bipush (v := 65) hx hb dX0_init_5 (by decide +kernel) ?_
  refine g_newa (atype := .boolean) (ty := .boolean) hx hb (hts (.arrayClass .boolean) (List.mem_of_getElem? (i := 4) rfl)) rfl hK hP hD hS hA 2 rfl (a0 := (65, .inl (fun _ => 0))) (N' := 65) (za_2 65) (by decide +kernel) (by decide +kernel) (by decide +kernel) (Nat.le_of_ble_eq_true rfl) (Nat.le_of_ble_eq_true rfl) dX0_init_7 (fun q1 H hP hD hS => ?_)
  have hP : va_P D vwCl [(a0, .inr (2, [.null, .null])), (q1, .inl (cy 2, 65, .inl (fun _ => 0)))] H := hP
  have hD : va_D A [(a0, .inr (2, [.null, .null])), (q1, .inl (cy 2, 65, .inl (fun _ => 0)))] := hD
  refine W.widen (k := 1) (n := 65) (Nat.le_of_ble_eq_true rfl) (Nat.le_of_ble_eq_true rfl) ?_
  refine va_putF (D := D) (ci := 2) (v := .ref q1) (ty := .array .boolean) (C := RX0) (T := TX0) (N := 2) hx hb hts (fun _ h => List.mem_cons_of_mem _ (List.mem_append_left _ (List.mem_append_right _ h))) tyX0 tyX0_ok nmX0 hown hK hP hD hS 0 rfl rfl 0 (by decide) (hts (.fieldLink RX0 11 "PhraseDesk$Converters" "there" "[Z") (List.mem_of_getElem? (i := 5) rfl)) (fun _ h9 => h9) rfl hin rfl (by decide +kernel) rfl rfl (Nat.le_of_ble_eq_true rfl) dX0_init_9 (fun H locs hP hD hS => ?_)
  have hP : va_P D vwCl [(a0, .inr (2, [.ref q1, .null])), (q1, .inl (cy 2, 65, .inl (fun _ => 0)))] H := hP
  have hD : va_D A [(a0, .inr (2, [.ref q1, .null])), (q1, .inl (cy 2, 65, .inl (fun _ => 0)))] := hD
  refine lv_aload_n hx hb dX0_init_12 rfl (lv_at hl 0 rfl) ?_
  refine va_new (ci := 1) (fs := [.null, .int 0, .int 0, .int 0]) (C := RJ4) (T := TJ4) (N := 4) hx hb hts (fun _ h => List.mem_cons_of_mem _ (List.mem_append_right _ h)) tyJ4 tyJ4_ok hown (hts (.classLink RX0 15 RJ4) (List.mem_of_getElem? (i := 6) rfl)) (hts (.instantiable RJ4 4) (List.mem_of_getElem? (i := 7) rfl)) (hts (.initialized RJ4) (List.mem_of_getElem? (i := 8) rfl)) hK hP hD hS hA rfl (fun j hj => by rcases (show j = 0 ∨ j = 1 ∨ j = 2 ∨ j = 3 by omega) with rfl | rfl | rfl | rfl <;> rfl) (Nat.le_of_ble_eq_true rfl) (Nat.le_of_ble_eq_true rfl) dX0_init_13 (fun q2 H hP hD hS => ?_)
  have hP : va_P D vwCl [(a0, .inr (2, [.ref q1, .null])), (q1, .inl (cy 2, 65, .inl (fun _ => 0))), (q2, .inr (1, [.null, .int 0, .int 0, .int 0]))] H := hP
  have hD : va_D A [(a0, .inr (2, [.ref q1, .null])), (q1, .inl (cy 2, 65, .inl (fun _ => 0))), (q2, .inr (1, [.null, .int 0, .int 0, .int 0]))] := hD
  refine W.widen (k := 2) (n := 69) (Nat.le_of_ble_eq_true rfl) (Nat.le_of_ble_eq_true rfl) ?_
  refine lv_dup hx hb dX0_init_16 rfl ?_
  have hPc := hP.sub (ws' := [(q2, .inr (1, [.null, .int 0, .int 0, .int 0]))]) [2] rfl
  have hDc := hD.sub (ws' := [(q2, .inr (1, [.null, .int 0, .int 0, .int 0]))]) [2] (by decide) rfl
  have hFc := va_free (wc := [(q2, .inr (1, [.null, .int 0, .int 0, .int 0]))]) hD hS hA [2] rfl
  refine va_callv (va_runI (As := []) (rest := [.ref q2, .ref a0]) ⟨hx, hb, hml, hown, hts⟩ (C_J4_init_da8c8_1 l D cy sz0 sa q2 H.size) (cwI 0 hts gX0_init_J4_init_da8c8 rfl rfl rfl (hts (.initialized RJ4) (List.mem_of_getElem? (i := 8) rfl)) (hts (.methodLink RX0 17 yJ4_init_da8c8) (List.mem_of_getElem? (i := 10) rfl)) (hts (.instanceMethod yJ4_init_da8c8) (List.mem_of_getElem? (i := 11) rfl)) rfl (by decide +kernel) ⟨Nat.le_of_ble_eq_true rfl, Nat.le_of_ble_eq_true rfl⟩) ⟨PcW.blind, PcW.mk hE hS hAF hPc hDc⟩ rfl rfl hl.1 rfl (lv_room (Nat.le_of_ble_eq_true rfl)) dX0_init_17 ⟨Nat.le_of_ble_eq_true rfl, Nat.le_of_ble_eq_true rfl⟩) hS (fun q _ h => hFc q h) hFc (fun u t H1 locs ht hvm hw hB hz1 hk1 hS => ?_)
  obtain ⟨q3, hP1, hD1⟩ := hB
  rw [ht] at hP1
  have hP1 : va_P D vwCl [(q2, .inr (1, [.ref q3, .int 0, .int 0, .int 0])), (q3, .inl (cy 5, 16, .inl (fun _ => 0)))] H1 := hP1
  obtain ⟨hP, hD⟩ := va_join (wr := [(a0, .inr (2, [.ref q1, .null])), (q1, .inl (cy 2, 65, .inl (fun _ => 0)))]) (w1 := [(q2, .inr (1, [.ref q3, .int 0, .int 0, .int 0])), (q3, .inl (cy 5, 16, .inl (fun _ => 0)))]) hP hD [2] [0, 1] rfl rfl (by decide) (by decide) hk1 hFc hP1 hD1
  clear hP1 hD1 hPc hDc hFc hk1 hz1
  generalize H1 = H at hP hS ⊢
  have hP : va_P D vwCl [(a0, .inr (2, [.ref q1, .null])), (q1, .inl (cy 2, 65, .inl (fun _ => 0))), (q2, .inr (1, [.ref q3, .int 0, .int 0, .int 0])), (q3, .inl (cy 5, 16, .inl (fun _ => 0)))] H := hP
  have hD : va_D A [(a0, .inr (2, [.ref q1, .null])), (q1, .inl (cy 2, 65, .inl (fun _ => 0))), (q2, .inr (1, [.ref q3, .int 0, .int 0, .int 0])), (q3, .inl (cy 5, 16, .inl (fun _ => 0)))] := hD
  refine W.widen (k := 3) (n := 85) (Nat.le_of_ble_eq_true rfl) (Nat.le_of_ble_eq_true rfl) ?_
  refine va_putF (D := D) (ci := 2) (v := .ref q2) (ty := .object "java/lang/StringBuilder") (C := RX0) (T := TX0) (N := 2) hx hb hts (fun _ h => List.mem_cons_of_mem _ (List.mem_append_left _ (List.mem_append_right _ h))) tyX0 tyX0_ok nmX0 hown hK hP hD hS 0 rfl rfl 1 (by decide) (hts (.fieldLink RX0 18 "PhraseDesk$Converters" "scratch" "Ljava/lang/StringBuilder;") (List.mem_of_getElem? (i := 9) rfl)) (fun _ h9 => h9) rfl hin rfl (by decide +kernel) rfl rfl (Nat.le_of_ble_eq_true rfl) dX0_init_20 (fun H locs hP hD hS => ?_)
  have hP : va_P D vwCl [(a0, .inr (2, [.ref q1, .ref q2])), (q1, .inl (cy 2, 65, .inl (fun _ => 0))), (q2, .inr (1, [.ref q3, .int 0, .int 0, .int 0])), (q3, .inl (cy 5, 16, .inl (fun _ => 0)))] H := hP
  have hD : va_D A [(a0, .inr (2, [.ref q1, .ref q2])), (q1, .inl (cy 2, 65, .inl (fun _ => 0))), (q2, .inr (1, [.ref q3, .int 0, .int 0, .int 0])), (q3, .inl (cy 5, 16, .inl (fun _ => 0)))] := hD
  refine W.widen (k := 3) (n := 85) (Nat.le_of_ble_eq_true rfl) (Nat.le_of_ble_eq_true rfl) ?_
  have hP9 := hP.sub (ws' := [(a0, .inr (2, [.ref q1, .ref q2])), (q1, .inl (cy 2, 65, .inl (fun _ => 0))), (q2, .inr (1, [.ref q3, .int 0, .int 0, .int 0])), (q3, .inl (cy 5, 16, .inl (fun _ => 0)))]) [0, 1, 2, 3] rfl
  have hD9 := hD.sub (ws' := [(a0, .inr (2, [.ref q1, .ref q2])), (q1, .inl (cy 2, 65, .inl (fun _ => 0))), (q2, .inr (1, [.ref q3, .int 0, .int 0, .int 0])), (q3, .inl (cy 5, 16, .inl (fun _ => 0)))]) [0, 1, 2, 3] (by decide) rfl
  exact W.vret hx hb hr (fun t ht hW => ⟨⟨(), rfl, trivial, ⟨q1, q2, q3, by rw [ht]; exact hP9, hD9⟩⟩, hS.F ht⟩) hS.2.2 dX0_init_23

set_option maxHeartbeats 4000000 in
set_option maxRecDepth 100000 in
theorem C_X3_init_1 (l : Launch) (D : va_G) (cy : Nat → ClassId) (sz0 : Nat) (sa : Nat → Nat) (a0 : Nat) (sz : Nat)  : Met l yX3_init wsX3_init ({ frames := 1, cells := 1, slots := 30, locals := 20 }) (PcW D cy sz0 sa [.ref a0] [(a0, .inr (5, [.null, .int 0, .int 0]))] sz) (va_Qv (fun (u : Unit) => True) (fun (u : Unit) (t : State) => ∃ (n0 : Nat), BW D [(a0, .inr (5, [.ref n0, .int 0, .int 0])), (n0, .inl (cy 9, 30, .inr (.inr (.inr (.inr (fun _ => none))))))] (va_A [(a0, .inr (5, [.null, .int 0, .int 0]))] sz) t) (va_A [(a0, .inr (5, [.null, .int 0, .int 0]))] sz)) 1 30 (va_A [(a0, .inr (5, [.null, .int 0, .int 0]))] sz) := by
  refine Met.ofW (cc := cX3_init) (maxL := 1) (ret := none) (by decide) rfl ?_
  intro p e s m args below meth c s₁ B hml hv
  obtain ⟨rfl, hsz, hP, hD0, hE⟩ := hv
  have hx := B.exec
  have hb := B.bytes
  have hr := B.returns
  have hts := atoms_spec (ws := wsX3_init) B.pre
  have hown : s.vm.findClass RX3 = some m.cls := findClass_of_methodNamed B.named
  have hlocks := B.notSynchronized
  have hin : meth.name = "<init>" := (name_of_methodNamed B.named B.method).1
  subst hsz
  have hK := hE.1
  have hAm := hE.2.2.1
  have hWm := hE.2.2.2
  have hAO := hWm.2.2.2.1
  have hD := hD0.self (sz := s.heap.size)
  have hAF := frA hD0 hE.2.1
  generalize hAe : va_A [(a0, .inr (5, [.null, .int 0, .int 0]))] s.heap.size = A at hD hAF ⊢
  have hA : ∀ q : Nat, s.heap.size ≤ q → A q := fun q h => by rw [← hAe]; exact Or.inr h
  have hS : va_S A s.heap s.heap [] := va_S.rf
  have hl := lv_entry ([.ref a0]) (n := 1) (Nat.le_of_ble_eq_true rfl)
  rw [lg_entry_eq]
  generalize (lg_sl ([.ref a0]) ++ List.replicate (1 - (lg_sl ([.ref a0])).length) Slot.unset).toArray = ls at hl ⊢
  have hl : lv_has ls 1 [(0, .ref a0)] := hl
  have hP : va_P D vwCl [(a0, .inr (5, [.null, .int 0, .int 0]))] s.heap := hP
  refine lv_aload_n hx hb dX3_init_0 rfl (lv_at hl 0 rfl) ?_
  refine W.objInit hx hb hown (hts (.methodLink RX3 3 objectInit) (List.mem_of_getElem? (i := 1) rfl)) (hts (.instanceMethod objectInit) (List.mem_of_getElem? (i := 2) rfl)) (hts (.code objectInit ⟨#[0xb1]⟩ 1 none) (List.mem_of_getElem? (i := 3) rfl)) rfl (by rw [hml]; exact hl.1) rfl dX3_init_1 (Nat.le_of_ble_eq_true rfl) (Nat.le_of_ble_eq_true rfl) ?_
  refine W.eq (g2 := F0 m 4 ls []) rfl ?_
  refine lv_aload_n hx hb dX3_init_4 rfl (lv_at hl 0 rfl) ?_
  refine lv_bipush (v := 30) hx hb dX3_init_5 (by decide +kernel) ?_
  refine g_newq (C := "PhraseDesk$Routine") hx hb hown (hts (.classLink RX3 9 RX7) (List.mem_of_getElem? (i := 4) rfl)) hAO.2.2.2.1 hK hP hD hS hA 9 rfl (N' := 30) (by decide +kernel) (by decide +kernel) (by decide +kernel) (Nat.le_of_ble_eq_true rfl) (Nat.le_of_ble_eq_true rfl) dX3_init_7 (fun q1 H hP hD hS => ?_)
  have hP : va_P D vwCl [(a0, .inr (5, [.null, .int 0, .int 0])), (q1, .inl (cy 9, 30, .inr (.inr (.inr (.inr (fun _ => none))))))] H := hP
  have hD : va_D A [(a0, .inr (5, [.null, .int 0, .int 0])), (q1, .inl (cy 9, 30, .inr (.inr (.inr (.inr (fun _ => none))))))] := hD
  refine W.widen (k := 1) (n := 30) (Nat.le_of_ble_eq_true rfl) (Nat.le_of_ble_eq_true rfl) ?_
  refine va_putF (D := D) (ci := 5) (v := .ref q1) (ty := .array (.object "PhraseDesk$Routine")) (C := RX3) (T := TX3) (N := 3) hx hb hts (fun _ h => List.mem_cons_of_mem _ (List.mem_append_right _ h)) tyX3 tyX3_ok nmX3 hown hK hP hD hS 0 rfl rfl 0 (by decide) (hts (.fieldLink RX3 11 "PhraseDesk$Finder" "candidates" "[LPhraseDesk$Routine;") (List.mem_of_getElem? (i := 5) rfl)) (fun _ h9 => h9) rfl hin rfl (by decide +kernel) rfl rfl (Nat.le_of_ble_eq_true rfl) dX3_init_10 (fun H locs hP hD hS => ?_)
  have hP : va_P D vwCl [(a0, .inr (5, [.ref q1, .int 0, .int 0])), (q1, .inl (cy 9, 30, .inr (.inr (.inr (.inr (fun _ => none))))))] H := hP
  have hD : va_D A [(a0, .inr (5, [.ref q1, .int 0, .int 0])), (q1, .inl (cy 9, 30, .inr (.inr (.inr (.inr (fun _ => none))))))] := hD
  refine W.widen (k := 1) (n := 30) (Nat.le_of_ble_eq_true rfl) (Nat.le_of_ble_eq_true rfl) ?_
  have hP9 := hP.sub (ws' := [(a0, .inr (5, [.ref q1, .int 0, .int 0])), (q1, .inl (cy 9, 30, .inr (.inr (.inr (.inr (fun _ => none))))))]) [0, 1] rfl
  have hD9 := hD.sub (ws' := [(a0, .inr (5, [.ref q1, .int 0, .int 0])), (q1, .inl (cy 9, 30, .inr (.inr (.inr (.inr (fun _ => none))))))]) [0, 1] (by decide) rfl
  exact W.vret hx hb hr (fun t ht hW => ⟨⟨(), rfl, trivial, ⟨q1, by rw [ht]; exact hP9, hD9⟩⟩, hS.F ht⟩) hS.2.2 dX3_init_13

set_option maxHeartbeats 4000000 in
set_option maxRecDepth 100000 in
theorem C_X8_init_1 (l : Launch) (D : va_G) (cy : Nat → ClassId) (sz0 : Nat) (sa : Nat → Nat) (a0 : Nat) (sz : Nat)  : Met l yX8_init wsX8_init ({ frames := 4, cells := 9, slots := 149, locals := 81 }) (PcW D cy sz0 sa [.ref a0] [(a0, .inr (10, [.null, .null, .null, .null, .null, .int 0, .null, .int 0]))] sz) (va_Qv (fun (u : Unit) => True) (fun (u : Unit) (t : State) => ∃ (n0 n1 n2 n3 n4 n5 n6 n7 n8 : Nat), BW D [(a0, .inr (10, [.ref n0, .ref n1, .ref n5, .ref n7, .ref n8, .int 0, .ref n0, .int 0])), (n0, .inr (12, [.int 0, .int 0, .double FP.dconst0, .ref (sa 0), .null])), (n1, .inr (2, [.ref n2, .ref n3])), (n2, .inl (cy 2, 65, .inl (fun _ => 0))), (n3, .inr (1, [.ref n4, .int 0, .int 0, .int 0])), (n4, .inl (cy 5, 16, .inl (fun _ => 0))), (n5, .inr (5, [.ref n6, .int 0, .int 0])), (n6, .inl (cy 9, 30, .inr (.inr (.inr (.inr (fun _ => none)))))), (n7, .inl (cy 0, 12, .inl (fun _ => 0))), (n8, .inl (cy 6, 12, .inr (.inr (.inr (.inr (fun _ => none))))))] (va_A [(a0, .inr (10, [.null, .null, .null, .null, .null, .int 0, .null, .int 0]))] sz) t) (va_A [(a0, .inr (10, [.null, .null, .null, .null, .null, .int 0, .null, .int 0]))] sz)) 9 149 (va_A [(a0, .inr (10, [.null, .null, .null, .null, .null, .int 0, .null, .int 0]))] sz) := by
  refine Met.ofW (cc := cX8_init) (maxL := 1) (ret := none) (by decide) rfl ?_
  intro p e s m args below meth c s₁ B hml hv
  obtain ⟨rfl, hsz, hP, hD0, hE⟩ := hv
  have hx := B.exec
  have hb := B.bytes
  have hr := B.returns
  have hts := atoms_spec (ws := wsX8_init) B.pre
  have hown : s.vm.findClass RX8 = some m.cls := findClass_of_methodNamed B.named
  have hlocks := B.notSynchronized
  have hin : meth.name = "<init>" := (name_of_methodNamed B.named B.method).1
  subst hsz
  have hK := hE.1
  have hAm := hE.2.2.1
  have hWm := hE.2.2.2
  have hAO := hWm.2.2.2.1
  have hD := hD0.self (sz := s.heap.size)
  have hAF := frA hD0 hE.2.1
  generalize hAe : va_A [(a0, .inr (10, [.null, .null, .null, .null, .null, .int 0, .null, .int 0]))] s.heap.size = A at hD hAF ⊢
  have hA : ∀ q : Nat, s.heap.size ≤ q → A q := fun q h => by rw [← hAe]; exact Or.inr h
  have hS : va_S A s.heap s.heap [] := va_S.rf
  have hl := lv_entry ([.ref a0]) (n := 1) (Nat.le_of_ble_eq_true rfl)
  rw [lg_entry_eq]
  generalize (lg_sl ([.ref a0]) ++ List.replicate (1 - (lg_sl ([.ref a0])).length) Slot.unset).toArray = ls at hl ⊢
  have hl : lv_has ls 1 [(0, .ref a0)] := hl
  have hP : va_P D vwCl [(a0, .inr (10, [.null, .null, .null, .null, .null, .int 0, .null, .int 0]))] s.heap := hP
  refine lv_aload_n hx hb dX8_init_0 rfl (lv_at hl 0 rfl) ?_
  refine W.objInit hx hb hown (hts (.methodLink RX8 3 objectInit) (List.mem_of_getElem? (i := 1) rfl)) (hts (.instanceMethod objectInit) (List.mem_of_getElem? (i := 2) rfl)) (hts (.code objectInit ⟨#[0xb1]⟩ 1 none) (List.mem_of_getElem? (i := 3) rfl)) rfl (by rw [hml]; exact hl.1) rfl dX8_init_1 (Nat.le_of_ble_eq_true rfl) (Nat.le_of_ble_eq_true rfl) ?_
  refine W.eq (g2 := F0 m 4 ls []) rfl ?_
  refine lv_aload_n hx hb dX8_init_4 rfl (lv_at hl 0 rfl) ?_
  have hPc := hP.sub (ws' := []) [] rfl
  have hDc := hD.sub (ws' := []) [] (by decide) rfl
  have hFc := va_free (wc := []) hD hS hA [] rfl
  refine va_callq (va_runS (As := []) (rest := [.ref a0]) ⟨hx, hb, hml, hown, hts⟩ (C_X10_ofNull_1 l D cy sz0 sa s.heap.size) (va_cwS 0 hts gX8_init_X10_ofNull rfl rfl rfl (by decide +kernel) ⟨Nat.le_of_ble_eq_true rfl, Nat.le_of_ble_eq_true rfl⟩) ⟨PcW.blind, PcW.mk hE hS hAF hPc hDc⟩ rfl rfl hl.1 rfl (lv_room (Nat.le_of_ble_eq_true rfl)) dX8_init_5 ⟨Nat.le_of_ble_eq_true rfl, Nat.le_of_ble_eq_true rfl⟩) hS (fun q _ h => hFc q h) hFc (fun r_2 u t H1 locs ht hvm hw hB hz1 hk1 hS => ?_)
  obtain ⟨q1, rfl⟩ : ∃ z, z = u := ⟨_, rfl⟩
  obtain ⟨hP1, hD1⟩ := hB
  rw [ht] at hP1
  have hP1 : va_P D vwCl [(q1, .inr (12, [.int 0, .int 0, .double FP.dconst0, .ref (sa 0), .null]))] H1 := hP1
  obtain ⟨hP, hD⟩ := va_join (wr := [(a0, .inr (10, [.null, .null, .null, .null, .null, .int 0, .null, .int 0]))]) (w1 := [(q1, .inr (12, [.int 0, .int 0, .double FP.dconst0, .ref (sa 0), .null]))]) hP hD [] [0] rfl rfl (by decide) (by decide) hk1 hFc hP1 hD1
  clear hP1 hD1 hPc hDc hFc hk1 hz1
  generalize H1 = H at hP hS ⊢
  have hP : va_P D vwCl [(a0, .inr (10, [.null, .null, .null, .null, .null, .int 0, .null, .int 0])), (q1, .inr (12, [.int 0, .int 0, .double FP.dconst0, .ref (sa 0), .null]))] H := hP
  have hD : va_D A [(a0, .inr (10, [.null, .null, .null, .null, .null, .int 0, .null, .int 0])), (q1, .inr (12, [.int 0, .int 0, .double FP.dconst0, .ref (sa 0), .null]))] := hD
  refine W.widen (k := 1) (n := 5) (Nat.le_of_ble_eq_true rfl) (Nat.le_of_ble_eq_true rfl) ?_
  obtain rfl : r_2 = some q1 := hw
  refine W.eq (g2 := F0 m 8 ls [.ref q1, .ref a0]) rfl ?_
  refine va_putF (D := D) (ci := 10) (v := .ref q1) (ty := .object "PhraseDesk$Value") (C := RX8) (T := TX8) (N := 8) hx hb hts (fun _ h => List.mem_cons_of_mem _ (List.mem_append_left _ (List.mem_append_left _ (List.mem_append_left _ (List.mem_append_left _ (List.mem_append_right _ h)))))) tyX8 tyX8_ok nmX8 hown hK hP hD hS 0 rfl rfl 0 (by decide) (hts (.fieldLink RX8 15 "PhraseDesk$Runner" "nothing" "LPhraseDesk$Value;") (List.mem_of_getElem? (i := 4) rfl)) (fun _ h9 => h9) rfl hin rfl (by decide +kernel) rfl rfl (Nat.le_of_ble_eq_true rfl) dX8_init_8 (fun H locs hP hD hS => ?_)
  have hP : va_P D vwCl [(a0, .inr (10, [.ref q1, .null, .null, .null, .null, .int 0, .null, .int 0])), (q1, .inr (12, [.int 0, .int 0, .double FP.dconst0, .ref (sa 0), .null]))] H := hP
  have hD : va_D A [(a0, .inr (10, [.ref q1, .null, .null, .null, .null, .int 0, .null, .int 0])), (q1, .inr (12, [.int 0, .int 0, .double FP.dconst0, .ref (sa 0), .null]))] := hD
  refine lv_aload_n hx hb dX8_init_11 rfl (lv_at hl 0 rfl) ?_
  refine va_new (ci := 2) (fs := [.null, .null]) (C := RX0) (T := TX0) (N := 2) hx hb hts (fun _ h => List.mem_cons_of_mem _ (List.mem_append_left _ (List.mem_append_left _ (List.mem_append_left _ (List.mem_append_right _ h))))) tyX0 tyX0_ok hown (hts (.classLink RX8 21 RX0) (List.mem_of_getElem? (i := 5) rfl)) (hts (.instantiable RX0 2) (List.mem_of_getElem? (i := 6) rfl)) (hts (.initialized RX0) (List.mem_of_getElem? (i := 7) rfl)) hK hP hD hS hA rfl (fun j hj => by rcases (show j = 0 ∨ j = 1 by omega) with rfl | rfl <;> rfl) (Nat.le_of_ble_eq_true rfl) (Nat.le_of_ble_eq_true rfl) dX8_init_12 (fun q3 H hP hD hS => ?_)
  have hP : va_P D vwCl [(a0, .inr (10, [.ref q1, .null, .null, .null, .null, .int 0, .null, .int 0])), (q1, .inr (12, [.int 0, .int 0, .double FP.dconst0, .ref (sa 0), .null])), (q3, .inr (2, [.null, .null]))] H := hP
  have hD : va_D A [(a0, .inr (10, [.ref q1, .null, .null, .null, .null, .int 0, .null, .int 0])), (q1, .inr (12, [.int 0, .int 0, .double FP.dconst0, .ref (sa 0), .null])), (q3, .inr (2, [.null, .null]))] := hD
  refine W.widen (k := 2) (n := 7) (Nat.le_of_ble_eq_true rfl) (Nat.le_of_ble_eq_true rfl) ?_
  refine lv_dup hx hb dX8_init_15 rfl ?_
  have hPc := hP.sub (ws' := [(q3, .inr (2, [.null, .null]))]) [2] rfl
  have hDc := hD.sub (ws' := [(q3, .inr (2, [.null, .null]))]) [2] (by decide) rfl
  have hFc := va_free (wc := [(q3, .inr (2, [.null, .null]))]) hD hS hA [2] rfl
  refine va_callv (va_runI (As := []) (rest := [.ref q3, .ref a0]) ⟨hx, hb, hml, hown, hts⟩ (C_X0_init_1 l D cy sz0 sa q3 H.size) (cwI 0 hts gX8_init_X0_init rfl rfl rfl (hts (.initialized RX0) (List.mem_of_getElem? (i := 7) rfl)) (hts (.methodLink RX8 23 yX0_init) (List.mem_of_getElem? (i := 33) rfl)) (hts (.instanceMethod yX0_init) (List.mem_of_getElem? (i := 34) rfl)) rfl (by decide +kernel) ⟨Nat.le_of_ble_eq_true rfl, Nat.le_of_ble_eq_true rfl⟩) ⟨PcW.blind, PcW.mk hE hS hAF hPc hDc⟩ rfl rfl hl.1 rfl (lv_room (Nat.le_of_ble_eq_true rfl)) dX8_init_16 ⟨Nat.le_of_ble_eq_true rfl, Nat.le_of_ble_eq_true rfl⟩) hS (fun q _ h => hFc q h) hFc (fun u t H1 locs ht hvm hw hB hz1 hk1 hS => ?_)
  obtain ⟨q4, q5, q6, hP1, hD1⟩ := hB
  rw [ht] at hP1
  have hP1 : va_P D vwCl [(q3, .inr (2, [.ref q4, .ref q5])), (q4, .inl (cy 2, 65, .inl (fun _ => 0))), (q5, .inr (1, [.ref q6, .int 0, .int 0, .int 0])), (q6, .inl (cy 5, 16, .inl (fun _ => 0)))] H1 := hP1
  obtain ⟨hP, hD⟩ := va_join (wr := [(a0, .inr (10, [.ref q1, .null, .null, .null, .null, .int 0, .null, .int 0])), (q1, .inr (12, [.int 0, .int 0, .double FP.dconst0, .ref (sa 0), .null]))]) (w1 := [(q3, .inr (2, [.ref q4, .ref q5])), (q4, .inl (cy 2, 65, .inl (fun _ => 0))), (q5, .inr (1, [.ref q6, .int 0, .int 0, .int 0])), (q6, .inl (cy 5, 16, .inl (fun _ => 0)))]) hP hD [2] [0, 1] rfl rfl (by decide) (by decide) hk1 hFc hP1 hD1
  clear hP1 hD1 hPc hDc hFc hk1 hz1
  generalize H1 = H at hP hS ⊢
  have hP : va_P D vwCl [(a0, .inr (10, [.ref q1, .null, .null, .null, .null, .int 0, .null, .int 0])), (q1, .inr (12, [.int 0, .int 0, .double FP.dconst0, .ref (sa 0), .null])), (q3, .inr (2, [.ref q4, .ref q5])), (q4, .inl (cy 2, 65, .inl (fun _ => 0))), (q5, .inr (1, [.ref q6, .int 0, .int 0, .int 0])), (q6, .inl (cy 5, 16, .inl (fun _ => 0)))] H := hP
  have hD : va_D A [(a0, .inr (10, [.ref q1, .null, .null, .null, .null, .int 0, .null, .int 0])), (q1, .inr (12, [.int 0, .int 0, .double FP.dconst0, .ref (sa 0), .null])), (q3, .inr (2, [.ref q4, .ref q5])), (q4, .inl (cy 2, 65, .inl (fun _ => 0))), (q5, .inr (1, [.ref q6, .int 0, .int 0, .int 0])), (q6, .inl (cy 5, 16, .inl (fun _ => 0)))] := hD
  refine W.widen (k := 5) (n := 92) (Nat.le_of_ble_eq_true rfl) (Nat.le_of_ble_eq_true rfl) ?_
  refine va_putF (D := D) (ci := 10) (v := .ref q3) (ty := .object "PhraseDesk$Converters") (C := RX8) (T := TX8) (N := 8) hx hb hts (fun _ h => List.mem_cons_of_mem _ (List.mem_append_left _ (List.mem_append_left _ (List.mem_append_left _ (List.mem_append_left _ (List.mem_append_right _ h)))))) tyX8 tyX8_ok nmX8 hown hK hP hD hS 0 rfl rfl 1 (by decide) (hts (.fieldLink RX8 24 "PhraseDesk$Runner" "converters" "LPhraseDesk$Converters;") (List.mem_of_getElem? (i := 8) rfl)) (fun _ h9 => h9) rfl hin rfl (by decide +kernel) rfl rfl (Nat.le_of_ble_eq_true rfl) dX8_init_19 (fun H locs hP hD hS => ?_)
  have hP : va_P D vwCl [(a0, .inr (10, [.ref q1, .ref q3, .null, .null, .null, .int 0, .null, .int 0])), (q1, .inr (12, [.int 0, .int 0, .double FP.dconst0, .ref (sa 0), .null])), (q3, .inr (2, [.ref q4, .ref q5])), (q4, .inl (cy 2, 65, .inl (fun _ => 0))), (q5, .inr (1, [.ref q6, .int 0, .int 0, .int 0])), (q6, .inl (cy 5, 16, .inl (fun _ => 0)))] H := hP
  have hD : va_D A [(a0, .inr (10, [.ref q1, .ref q3, .null, .null, .null, .int 0, .null, .int 0])), (q1, .inr (12, [.int 0, .int 0, .double FP.dconst0, .ref (sa 0), .null])), (q3, .inr (2, [.ref q4, .ref q5])), (q4, .inl (cy 2, 65, .inl (fun _ => 0))), (q5, .inr (1, [.ref q6, .int 0, .int 0, .int 0])), (q6, .inl (cy 5, 16, .inl (fun _ => 0)))] := hD
  refine lv_aload_n hx hb dX8_init_22 rfl (lv_at hl 0 rfl) ?_
  refine va_new (ci := 5) (fs := [.null, .int 0, .int 0]) (C := RX3) (T := TX3) (N := 3) hx hb hts (fun _ h => List.mem_cons_of_mem _ (List.mem_append_left _ (List.mem_append_left _ (List.mem_append_right _ h)))) tyX3 tyX3_ok hown (hts (.classLink RX8 28 RX3) (List.mem_of_getElem? (i := 9) rfl)) (hts (.instantiable RX3 3) (List.mem_of_getElem? (i := 10) rfl)) (hts (.initialized RX3) (List.mem_of_getElem? (i := 11) rfl)) hK hP hD hS hA rfl (fun j hj => by rcases (show j = 0 ∨ j = 1 ∨ j = 2 by omega) with rfl | rfl | rfl <;> rfl) (Nat.le_of_ble_eq_true rfl) (Nat.le_of_ble_eq_true rfl) dX8_init_23 (fun q8 H hP hD hS => ?_)
  have hP : va_P D vwCl [(a0, .inr (10, [.ref q1, .ref q3, .null, .null, .null, .int 0, .null, .int 0])), (q1, .inr (12, [.int 0, .int 0, .double FP.dconst0, .ref (sa 0), .null])), (q3, .inr (2, [.ref q4, .ref q5])), (q4, .inl (cy 2, 65, .inl (fun _ => 0))), (q5, .inr (1, [.ref q6, .int 0, .int 0, .int 0])), (q6, .inl (cy 5, 16, .inl (fun _ => 0))), (q8, .inr (5, [.null, .int 0, .int 0]))] H := hP
  have hD : va_D A [(a0, .inr (10, [.ref q1, .ref q3, .null, .null, .null, .int 0, .null, .int 0])), (q1, .inr (12, [.int 0, .int 0, .double FP.dconst0, .ref (sa 0), .null])), (q3, .inr (2, [.ref q4, .ref q5])), (q4, .inl (cy 2, 65, .inl (fun _ => 0))), (q5, .inr (1, [.ref q6, .int 0, .int 0, .int 0])), (q6, .inl (cy 5, 16, .inl (fun _ => 0))), (q8, .inr (5, [.null, .int 0, .int 0]))] := hD
  refine W.widen (k := 6) (n := 95) (Nat.le_of_ble_eq_true rfl) (Nat.le_of_ble_eq_true rfl) ?_
  refine lv_dup hx hb dX8_init_26 rfl ?_
  have hPc := hP.sub (ws' := [(q8, .inr (5, [.null, .int 0, .int 0]))]) [6] rfl
  have hDc := hD.sub (ws' := [(q8, .inr (5, [.null, .int 0, .int 0]))]) [6] (by decide) rfl
  have hFc := va_free (wc := [(q8, .inr (5, [.null, .int 0, .int 0]))]) hD hS hA [6] rfl
  refine va_callv (va_runI (As := []) (rest := [.ref q8, .ref a0]) ⟨hx, hb, hml, hown, hts⟩ (C_X3_init_1 l D cy sz0 sa q8 H.size) (cwI 0 hts gX8_init_X3_init rfl rfl rfl (hts (.initialized RX3) (List.mem_of_getElem? (i := 11) rfl)) (hts (.methodLink RX8 30 yX3_init) (List.mem_of_getElem? (i := 63) rfl)) (hts (.instanceMethod yX3_init) (List.mem_of_getElem? (i := 64) rfl)) rfl (by decide +kernel) ⟨Nat.le_of_ble_eq_true rfl, Nat.le_of_ble_eq_true rfl⟩) ⟨PcW.blind, PcW.mk hE hS hAF hPc hDc⟩ rfl rfl hl.1 rfl (lv_room (Nat.le_of_ble_eq_true rfl)) dX8_init_27 ⟨Nat.le_of_ble_eq_true rfl, Nat.le_of_ble_eq_true rfl⟩) hS (fun q _ h => hFc q h) hFc (fun u t H1 locs ht hvm hw hB hz1 hk1 hS => ?_)
  obtain ⟨q9, hP1, hD1⟩ := hB
  rw [ht] at hP1
  have hP1 : va_P D vwCl [(q8, .inr (5, [.ref q9, .int 0, .int 0])), (q9, .inl (cy 9, 30, .inr (.inr (.inr (.inr (fun _ => none))))))] H1 := hP1
  obtain ⟨hP, hD⟩ := va_join (wr := [(a0, .inr (10, [.ref q1, .ref q3, .null, .null, .null, .int 0, .null, .int 0])), (q1, .inr (12, [.int 0, .int 0, .double FP.dconst0, .ref (sa 0), .null])), (q3, .inr (2, [.ref q4, .ref q5])), (q4, .inl (cy 2, 65, .inl (fun _ => 0))), (q5, .inr (1, [.ref q6, .int 0, .int 0, .int 0])), (q6, .inl (cy 5, 16, .inl (fun _ => 0)))]) (w1 := [(q8, .inr (5, [.ref q9, .int 0, .int 0])), (q9, .inl (cy 9, 30, .inr (.inr (.inr (.inr (fun _ => none))))))]) hP hD [6] [0, 1, 2, 3, 4, 5] rfl rfl (by decide) (by decide) hk1 hFc hP1 hD1
  clear hP1 hD1 hPc hDc hFc hk1 hz1
  generalize H1 = H at hP hS ⊢
  have hP : va_P D vwCl [(a0, .inr (10, [.ref q1, .ref q3, .null, .null, .null, .int 0, .null, .int 0])), (q1, .inr (12, [.int 0, .int 0, .double FP.dconst0, .ref (sa 0), .null])), (q3, .inr (2, [.ref q4, .ref q5])), (q4, .inl (cy 2, 65, .inl (fun _ => 0))), (q5, .inr (1, [.ref q6, .int 0, .int 0, .int 0])), (q6, .inl (cy 5, 16, .inl (fun _ => 0))), (q8, .inr (5, [.ref q9, .int 0, .int 0])), (q9, .inl (cy 9, 30, .inr (.inr (.inr (.inr (fun _ => none))))))] H := hP
  have hD : va_D A [(a0, .inr (10, [.ref q1, .ref q3, .null, .null, .null, .int 0, .null, .int 0])), (q1, .inr (12, [.int 0, .int 0, .double FP.dconst0, .ref (sa 0), .null])), (q3, .inr (2, [.ref q4, .ref q5])), (q4, .inl (cy 2, 65, .inl (fun _ => 0))), (q5, .inr (1, [.ref q6, .int 0, .int 0, .int 0])), (q6, .inl (cy 5, 16, .inl (fun _ => 0))), (q8, .inr (5, [.ref q9, .int 0, .int 0])), (q9, .inl (cy 9, 30, .inr (.inr (.inr (.inr (fun _ => none))))))] := hD
  refine W.widen (k := 7) (n := 125) (Nat.le_of_ble_eq_true rfl) (Nat.le_of_ble_eq_true rfl) ?_
  refine va_putF (D := D) (ci := 10) (v := .ref q8) (ty := .object "PhraseDesk$Finder") (C := RX8) (T := TX8) (N := 8) hx hb hts (fun _ h => List.mem_cons_of_mem _ (List.mem_append_left _ (List.mem_append_left _ (List.mem_append_left _ (List.mem_append_left _ (List.mem_append_right _ h)))))) tyX8 tyX8_ok nmX8 hown hK hP hD hS 0 rfl rfl 2 (by decide) (hts (.fieldLink RX8 31 "PhraseDesk$Runner" "finder" "LPhraseDesk$Finder;") (List.mem_of_getElem? (i := 12) rfl)) (fun _ h9 => h9) rfl hin rfl (by decide +kernel) rfl rfl (Nat.le_of_ble_eq_true rfl) dX8_init_30 (fun H locs hP hD hS => ?_)
  have hP : va_P D vwCl [(a0, .inr (10, [.ref q1, .ref q3, .ref q8, .null, .null, .int 0, .null, .int 0])), (q1, .inr (12, [.int 0, .int 0, .double FP.dconst0, .ref (sa 0), .null])), (q3, .inr (2, [.ref q4, .ref q5])), (q4, .inl (cy 2, 65, .inl (fun _ => 0))), (q5, .inr (1, [.ref q6, .int 0, .int 0, .int 0])), (q6, .inl (cy 5, 16, .inl (fun _ => 0))), (q8, .inr (5, [.ref q9, .int 0, .int 0])), (q9, .inl (cy 9, 30, .inr (.inr (.inr (.inr (fun _ => none))))))] H := hP
  have hD : va_D A [(a0, .inr (10, [.ref q1, .ref q3, .ref q8, .null, .null, .int 0, .null, .int 0])), (q1, .inr (12, [.int 0, .int 0, .double FP.dconst0, .ref (sa 0), .null])), (q3, .inr (2, [.ref q4, .ref q5])), (q4, .inl (cy 2, 65, .inl (fun _ => 0))), (q5, .inr (1, [.ref q6, .int 0, .int 0, .int 0])), (q6, .inl (cy 5, 16, .inl (fun _ => 0))), (q8, .inr (5, [.ref q9, .int 0, .int 0])), (q9, .inl (cy 9, 30, .inr (.inr (.inr (.inr (fun _ => none))))))] := hD
  refine lv_aload_n hx hb dX8_init_33 rfl (lv_at hl 0 rfl) ?_
  refine lv_bipush (v := 12) hx hb dX8_init_34 (by decide +kernel) ?_
  refine g_newa (atype := .int) (ty := .int) hx hb (hts (.arrayClass .int) (List.mem_of_getElem? (i := 13) rfl)) rfl hK hP hD hS hA 0 rfl (a0 := (12, .inl (fun _ => 0))) (N' := 12) (za_0 12) (by decide +kernel) (by decide +kernel) (by decide +kernel) (Nat.le_of_ble_eq_true rfl) (Nat.le_of_ble_eq_true rfl) dX8_init_36 (fun q11 H hP hD hS => ?_)
  have hP : va_P D vwCl [(a0, .inr (10, [.ref q1, .ref q3, .ref q8, .null, .null, .int 0, .null, .int 0])), (q1, .inr (12, [.int 0, .int 0, .double FP.dconst0, .ref (sa 0), .null])), (q3, .inr (2, [.ref q4, .ref q5])), (q4, .inl (cy 2, 65, .inl (fun _ => 0))), (q5, .inr (1, [.ref q6, .int 0, .int 0, .int 0])), (q6, .inl (cy 5, 16, .inl (fun _ => 0))), (q8, .inr (5, [.ref q9, .int 0, .int 0])), (q9, .inl (cy 9, 30, .inr (.inr (.inr (.inr (fun _ => none)))))), (q11, .inl (cy 0, 12, .inl (fun _ => 0)))] H := hP
  have hD : va_D A [(a0, .inr (10, [.ref q1, .ref q3, .ref q8, .null, .null, .int 0, .null, .int 0])), (q1, .inr (12, [.int 0, .int 0, .double FP.dconst0, .ref (sa 0), .null])), (q3, .inr (2, [.ref q4, .ref q5])), (q4, .inl (cy 2, 65, .inl (fun _ => 0))), (q5, .inr (1, [.ref q6, .int 0, .int 0, .int 0])), (q6, .inl (cy 5, 16, .inl (fun _ => 0))), (q8, .inr (5, [.ref q9, .int 0, .int 0])), (q9, .inl (cy 9, 30, .inr (.inr (.inr (.inr (fun _ => none)))))), (q11, .inl (cy 0, 12, .inl (fun _ => 0)))] := hD
  refine W.widen (k := 8) (n := 137) (Nat.le_of_ble_eq_true rfl) (Nat.le_of_ble_eq_true rfl) ?_
  refine va_putF (D := D) (ci := 10) (v := .ref q11) (ty := .array .int) (C := RX8) (T := TX8) (N := 8) hx hb hts (fun _ h => List.mem_cons_of_mem _ (List.mem_append_left _ (List.mem_append_left _ (List.mem_append_left _ (List.mem_append_left _ (List.mem_append_right _ h)))))) tyX8 tyX8_ok nmX8 hown hK hP hD hS 0 rfl rfl 3 (by decide) (hts (.fieldLink RX8 35 "PhraseDesk$Runner" "variableNames" "[I") (List.mem_of_getElem? (i := 14) rfl)) (fun _ h9 => h9) rfl hin rfl (by decide +kernel) rfl rfl (Nat.le_of_ble_eq_true rfl) dX8_init_38 (fun H locs hP hD hS => ?_)
  have hP : va_P D vwCl [(a0, .inr (10, [.ref q1, .ref q3, .ref q8, .ref q11, .null, .int 0, .null, .int 0])), (q1, .inr (12, [.int 0, .int 0, .double FP.dconst0, .ref (sa 0), .null])), (q3, .inr (2, [.ref q4, .ref q5])), (q4, .inl (cy 2, 65, .inl (fun _ => 0))), (q5, .inr (1, [.ref q6, .int 0, .int 0, .int 0])), (q6, .inl (cy 5, 16, .inl (fun _ => 0))), (q8, .inr (5, [.ref q9, .int 0, .int 0])), (q9, .inl (cy 9, 30, .inr (.inr (.inr (.inr (fun _ => none)))))), (q11, .inl (cy 0, 12, .inl (fun _ => 0)))] H := hP
  have hD : va_D A [(a0, .inr (10, [.ref q1, .ref q3, .ref q8, .ref q11, .null, .int 0, .null, .int 0])), (q1, .inr (12, [.int 0, .int 0, .double FP.dconst0, .ref (sa 0), .null])), (q3, .inr (2, [.ref q4, .ref q5])), (q4, .inl (cy 2, 65, .inl (fun _ => 0))), (q5, .inr (1, [.ref q6, .int 0, .int 0, .int 0])), (q6, .inl (cy 5, 16, .inl (fun _ => 0))), (q8, .inr (5, [.ref q9, .int 0, .int 0])), (q9, .inl (cy 9, 30, .inr (.inr (.inr (.inr (fun _ => none)))))), (q11, .inl (cy 0, 12, .inl (fun _ => 0)))] := hD
  refine lv_aload_n hx hb dX8_init_41 rfl (lv_at hl 0 rfl) ?_
  refine lv_bipush (v := 12) hx hb dX8_init_42 (by decide +kernel) ?_
  refine g_newq (C := "PhraseDesk$Value") hx hb hown (hts (.classLink RX8 10 RX10) (List.mem_of_getElem? (i := 15) rfl)) hAO.1 hK hP hD hS hA 6 rfl (N' := 12) (by decide +kernel) (by decide +kernel) (by decide +kernel) (Nat.le_of_ble_eq_true rfl) (Nat.le_of_ble_eq_true rfl) dX8_init_44 (fun q12 H hP hD hS => ?_)
  have hP : va_P D vwCl [(a0, .inr (10, [.ref q1, .ref q3, .ref q8, .ref q11, .null, .int 0, .null, .int 0])), (q1, .inr (12, [.int 0, .int 0, .double FP.dconst0, .ref (sa 0), .null])), (q3, .inr (2, [.ref q4, .ref q5])), (q4, .inl (cy 2, 65, .inl (fun _ => 0))), (q5, .inr (1, [.ref q6, .int 0, .int 0, .int 0])), (q6, .inl (cy 5, 16, .inl (fun _ => 0))), (q8, .inr (5, [.ref q9, .int 0, .int 0])), (q9, .inl (cy 9, 30, .inr (.inr (.inr (.inr (fun _ => none)))))), (q11, .inl (cy 0, 12, .inl (fun _ => 0))), (q12, .inl (cy 6, 12, .inr (.inr (.inr (.inr (fun _ => none))))))] H := hP
  have hD : va_D A [(a0, .inr (10, [.ref q1, .ref q3, .ref q8, .ref q11, .null, .int 0, .null, .int 0])), (q1, .inr (12, [.int 0, .int 0, .double FP.dconst0, .ref (sa 0), .null])), (q3, .inr (2, [.ref q4, .ref q5])), (q4, .inl (cy 2, 65, .inl (fun _ => 0))), (q5, .inr (1, [.ref q6, .int 0, .int 0, .int 0])), (q6, .inl (cy 5, 16, .inl (fun _ => 0))), (q8, .inr (5, [.ref q9, .int 0, .int 0])), (q9, .inl (cy 9, 30, .inr (.inr (.inr (.inr (fun _ => none)))))), (q11, .inl (cy 0, 12, .inl (fun _ => 0))), (q12, .inl (cy 6, 12, .inr (.inr (.inr (.inr (fun _ => none))))))] := hD
  refine W.widen (k := 9) (n := 149) (Nat.le_of_ble_eq_true rfl) (Nat.le_of_ble_eq_true rfl) ?_
  refine va_putF (D := D) (ci := 10) (v := .ref q12) (ty := .array (.object "PhraseDesk$Value")) (C := RX8) (T := TX8) (N := 8) hx hb hts (fun _ h => List.mem_cons_of_mem _ (List.mem_append_left _ (List.mem_append_left _ (List.mem_append_left _ (List.mem_append_left _ (List.mem_append_right _ h)))))) tyX8 tyX8_ok nmX8 hown hK hP hD hS 0 rfl rfl 4 (by decide) (hts (.fieldLink RX8 39 "PhraseDesk$Runner" "variableValues" "[LPhraseDesk$Value;") (List.mem_of_getElem? (i := 16) rfl)) (fun _ h9 => h9) rfl hin rfl (by decide +kernel) rfl rfl (Nat.le_of_ble_eq_true rfl) dX8_init_47 (fun H locs hP hD hS => ?_)
  have hP : va_P D vwCl [(a0, .inr (10, [.ref q1, .ref q3, .ref q8, .ref q11, .ref q12, .int 0, .null, .int 0])), (q1, .inr (12, [.int 0, .int 0, .double FP.dconst0, .ref (sa 0), .null])), (q3, .inr (2, [.ref q4, .ref q5])), (q4, .inl (cy 2, 65, .inl (fun _ => 0))), (q5, .inr (1, [.ref q6, .int 0, .int 0, .int 0])), (q6, .inl (cy 5, 16, .inl (fun _ => 0))), (q8, .inr (5, [.ref q9, .int 0, .int 0])), (q9, .inl (cy 9, 30, .inr (.inr (.inr (.inr (fun _ => none)))))), (q11, .inl (cy 0, 12, .inl (fun _ => 0))), (q12, .inl (cy 6, 12, .inr (.inr (.inr (.inr (fun _ => none))))))] H := hP
  have hD : va_D A [(a0, .inr (10, [.ref q1, .ref q3, .ref q8, .ref q11, .ref q12, .int 0, .null, .int 0])), (q1, .inr (12, [.int 0, .int 0, .double FP.dconst0, .ref (sa 0), .null])), (q3, .inr (2, [.ref q4, .ref q5])), (q4, .inl (cy 2, 65, .inl (fun _ => 0))), (q5, .inr (1, [.ref q6, .int 0, .int 0, .int 0])), (q6, .inl (cy 5, 16, .inl (fun _ => 0))), (q8, .inr (5, [.ref q9, .int 0, .int 0])), (q9, .inl (cy 9, 30, .inr (.inr (.inr (.inr (fun _ => none)))))), (q11, .inl (cy 0, 12, .inl (fun _ => 0))), (q12, .inl (cy 6, 12, .inr (.inr (.inr (.inr (fun _ => none))))))] := hD
  refine lv_aload_n hx hb dX8_init_50 rfl (lv_at hl 0 rfl) ?_
  refine lv_aload_n hx hb dX8_init_51 rfl (lv_at hl 0 rfl) ?_
  refine va_get (D := D) (ci := 10) (v := .ref q1) (C := RX8) (T := TX8) (N := 8) hx hb hts (fun _ h => List.mem_cons_of_mem _ (List.mem_append_left _ (List.mem_append_left _ (List.mem_append_left _ (List.mem_append_left _ (List.mem_append_right _ h)))))) hown hK hP 0 rfl rfl 0 (by decide) (hts (.fieldLink RX8 15 "PhraseDesk$Runner" "nothing" "LPhraseDesk$Value;") (List.mem_of_getElem? (i := 4) rfl)) (fun _ h9 => h9) rfl dX8_init_52 ?_
  refine va_put (D := D) (ci := 10) (v := .ref q1) (ty := .object "PhraseDesk$Value") (C := RX8) (T := TX8) (N := 8) hx hb hts (fun _ h => List.mem_cons_of_mem _ (List.mem_append_left _ (List.mem_append_left _ (List.mem_append_left _ (List.mem_append_left _ (List.mem_append_right _ h)))))) tyX8 tyX8_ok nmX8 hown hK hP hD hS 0 rfl rfl 6 (by decide) (hts (.fieldLink RX8 43 "PhraseDesk$Runner" "root" "LPhraseDesk$Value;") (List.mem_of_getElem? (i := 17) rfl)) (fun _ h9 => h9) rfl (by decide +kernel) rfl rfl (Nat.le_of_ble_eq_true rfl) dX8_init_55 (fun H locs hP hD hS => ?_)
  have hP : va_P D vwCl [(a0, .inr (10, [.ref q1, .ref q3, .ref q8, .ref q11, .ref q12, .int 0, .ref q1, .int 0])), (q1, .inr (12, [.int 0, .int 0, .double FP.dconst0, .ref (sa 0), .null])), (q3, .inr (2, [.ref q4, .ref q5])), (q4, .inl (cy 2, 65, .inl (fun _ => 0))), (q5, .inr (1, [.ref q6, .int 0, .int 0, .int 0])), (q6, .inl (cy 5, 16, .inl (fun _ => 0))), (q8, .inr (5, [.ref q9, .int 0, .int 0])), (q9, .inl (cy 9, 30, .inr (.inr (.inr (.inr (fun _ => none)))))), (q11, .inl (cy 0, 12, .inl (fun _ => 0))), (q12, .inl (cy 6, 12, .inr (.inr (.inr (.inr (fun _ => none))))))] H := hP
  have hD : va_D A [(a0, .inr (10, [.ref q1, .ref q3, .ref q8, .ref q11, .ref q12, .int 0, .ref q1, .int 0])), (q1, .inr (12, [.int 0, .int 0, .double FP.dconst0, .ref (sa 0), .null])), (q3, .inr (2, [.ref q4, .ref q5])), (q4, .inl (cy 2, 65, .inl (fun _ => 0))), (q5, .inr (1, [.ref q6, .int 0, .int 0, .int 0])), (q6, .inl (cy 5, 16, .inl (fun _ => 0))), (q8, .inr (5, [.ref q9, .int 0, .int 0])), (q9, .inl (cy 9, 30, .inr (.inr (.inr (.inr (fun _ => none)))))), (q11, .inl (cy 0, 12, .inl (fun _ => 0))), (q12, .inl (cy 6, 12, .inr (.inr (.inr (.inr (fun _ => none))))))] := hD
  refine W.widen (k := 9) (n := 149) (Nat.le_of_ble_eq_true rfl) (Nat.le_of_ble_eq_true rfl) ?_
  have hP9 := hP.sub (ws' := [(a0, .inr (10, [.ref q1, .ref q3, .ref q8, .ref q11, .ref q12, .int 0, .ref q1, .int 0])), (q1, .inr (12, [.int 0, .int 0, .double FP.dconst0, .ref (sa 0), .null])), (q3, .inr (2, [.ref q4, .ref q5])), (q4, .inl (cy 2, 65, .inl (fun _ => 0))), (q5, .inr (1, [.ref q6, .int 0, .int 0, .int 0])), (q6, .inl (cy 5, 16, .inl (fun _ => 0))), (q8, .inr (5, [.ref q9, .int 0, .int 0])), (q9, .inl (cy 9, 30, .inr (.inr (.inr (.inr (fun _ => none)))))), (q11, .inl (cy 0, 12, .inl (fun _ => 0))), (q12, .inl (cy 6, 12, .inr (.inr (.inr (.inr (fun _ => none))))))]) [0, 1, 2, 3, 4, 5, 6, 7, 8, 9] rfl
  have hD9 := hD.sub (ws' := [(a0, .inr (10, [.ref q1, .ref q3, .ref q8, .ref q11, .ref q12, .int 0, .ref q1, .int 0])), (q1, .inr (12, [.int 0, .int 0, .double FP.dconst0, .ref (sa 0), .null])), (q3, .inr (2, [.ref q4, .ref q5])), (q4, .inl (cy 2, 65, .inl (fun _ => 0))), (q5, .inr (1, [.ref q6, .int 0, .int 0, .int 0])), (q6, .inl (cy 5, 16, .inl (fun _ => 0))), (q8, .inr (5, [.ref q9, .int 0, .int 0])), (q9, .inl (cy 9, 30, .inr (.inr (.inr (.inr (fun _ => none)))))), (q11, .inl (cy 0, 12, .inl (fun _ => 0))), (q12, .inl (cy 6, 12, .inr (.inr (.inr (.inr (fun _ => none))))))]) [0, 1, 2, 3, 4, 5, 6, 7, 8, 9] (by decide) rfl
  exact W.vret hx hb hr (fun t ht hW => ⟨⟨(), rfl, trivial, ⟨q1, q3, q4, q5, q6, q8, q9, q11, q12, by rw [ht]; exact hP9, hD9⟩⟩, hS.F ht⟩) hS.2.2 dX8_init_58

set_option maxHeartbeats 4000000 in
set_option maxRecDepth 100000 in
theorem C_X11_init_1 (l : Launch) (D : va_G) (cy : Nat → ClassId) (sz0 : Nat) (sa : Nat → Nat) (a0 : Nat) (sz : Nat)  : Met l yX11_init wsX11_init ({ frames := 5, cells := 23, slots := 473, locals := 101 }) (PcW D cy sz0 sa [.ref a0] [(a0, .inr (13, [.null, .null, .null, .int 0, .null, .int 0, .null, .int 0, .null]))] sz) (va_Qv (fun (u : Unit) => True) (fun (u : Unit) (t : State) => ∃ (n0 n1 n2 n3 n4 n5 n6 n7 n8 n9 n10 n11 n12 n13 n14 n15 n16 n17 n18 n19 n20 n21 n22 : Nat), BW D [(a0, .inr (13, [.ref n0, .ref n9, .ref n19, .int 0, .ref n20, .int 0, .ref n21, .int 0, .ref n22])), (n0, .inr (8, [.ref n1, .int 0, .int 0, .int 0])), (n1, .inr (6, [.ref n2, .int 0, .ref n3, .ref n4, .ref n5, .ref n6, .int 0, .ref n7])), (n2, .inl (cy 4, 40, .inl (fun _ => 0))), (n3, .inl (cy 0, 41, .inl (fun _ => 0))), (n4, .inl (cy 0, 41, .inl (fun _ => 0))), (n5, .inl (cy 0, 41, .inl (fun _ => 0))), (n6, .inl (cy 6, 41, .inr (.inr (.inr (.inr (fun _ => none)))))), (n7, .inr (1, [.ref n8, .int 0, .int 0, .int 0])), (n8, .inl (cy 5, 16, .inl (fun _ => 0))), (n9, .inr (10, [.ref n10, .ref n11, .ref n15, .ref n17, .ref n18, .int 0, .ref n10, .int 0])), (n10, .inr (12, [.int 0, .int 0, .double FP.dconst0, .ref (sa 0), .null])), (n11, .inr (2, [.ref n12, .ref n13])), (n12, .inl (cy 2, 65, .inl (fun _ => 0))), (n13, .inr (1, [.ref n14, .int 0, .int 0, .int 0])), (n14, .inl (cy 5, 16, .inl (fun _ => 0))), (n15, .inr (5, [.ref n16, .int 0, .int 0])), (n16, .inl (cy 9, 30, .inr (.inr (.inr (.inr (fun _ => none)))))), (n17, .inl (cy 0, 12, .inl (fun _ => 0))), (n18, .inl (cy 6, 12, .inr (.inr (.inr (.inr (fun _ => none)))))), (n19, .inl (cy 7, 40, .inr (.inr (.inr (.inr (fun _ => none)))))), (n20, .inl (cy 8, 5, .inr (.inr (.inr (.inr (fun _ => none)))))), (n21, .inl (cy 6, 30, .inr (.inr (.inr (.inr (fun _ => none)))))), (n22, .inr (12, [.int 0, .int 0, .double FP.dconst0, .ref (sa 0), .null]))] (va_A [(a0, .inr (13, [.null, .null, .null, .int 0, .null, .int 0, .null, .int 0, .null]))] sz) t) (va_A [(a0, .inr (13, [.null, .null, .null, .int 0, .null, .int 0, .null, .int 0, .null]))] sz)) 23 473 (va_A [(a0, .inr (13, [.null, .null, .null, .int 0, .null, .int 0, .null, .int 0, .null]))] sz) := by
  refine Met.ofW (cc := cX11_init) (maxL := 1) (ret := none) (by decide) rfl ?_
  intro p e s m args below meth c s₁ B hml hv
  obtain ⟨rfl, hsz, hP, hD0, hE⟩ := hv
  have hx := B.exec
  have hb := B.bytes
  have hr := B.returns
  have hts := atoms_spec (ws := wsX11_init) B.pre
  have hown : s.vm.findClass RX11 = some m.cls := findClass_of_methodNamed B.named
  have hlocks := B.notSynchronized
  have hin : meth.name = "<init>" := (name_of_methodNamed B.named B.method).1
  subst hsz
  have hK := hE.1
  have hAm := hE.2.2.1
  have hWm := hE.2.2.2
  have hAO := hWm.2.2.2.1
  have hD := hD0.self (sz := s.heap.size)
  have hAF := frA hD0 hE.2.1
  generalize hAe : va_A [(a0, .inr (13, [.null, .null, .null, .int 0, .null, .int 0, .null, .int 0, .null]))] s.heap.size = A at hD hAF ⊢
  have hA : ∀ q : Nat, s.heap.size ≤ q → A q := fun q h => by rw [← hAe]; exact Or.inr h
  have hS : va_S A s.heap s.heap [] := va_S.rf
  have hl := lv_entry ([.ref a0]) (n := 1) (Nat.le_of_ble_eq_true rfl)
  rw [lg_entry_eq]
  generalize (lg_sl ([.ref a0]) ++ List.replicate (1 - (lg_sl ([.ref a0])).length) Slot.unset).toArray = ls at hl ⊢
  have hl : lv_has ls 1 [(0, .ref a0)] := hl
  have hP : va_P D vwCl [(a0, .inr (13, [.null, .null, .null, .int 0, .null, .int 0, .null, .int 0, .null]))] s.heap := hP
  refine lv_aload_n hx hb dX11_init_0 rfl (lv_at hl 0 rfl) ?_
  refine W.objInit hx hb hown (hts (.methodLink RX11 1 objectInit) (List.mem_of_getElem? (i := 1) rfl)) (hts (.instanceMethod objectInit) (List.mem_of_getElem? (i := 2) rfl)) (hts (.code objectInit ⟨#[0xb1]⟩ 1 none) (List.mem_of_getElem? (i := 3) rfl)) rfl (by rw [hml]; exact hl.1) rfl dX11_init_1 (Nat.le_of_ble_eq_true rfl) (Nat.le_of_ble_eq_true rfl) ?_
  refine W.eq (g2 := F0 m 4 ls []) rfl ?_
  refine lv_aload_n hx hb dX11_init_4 rfl (lv_at hl 0 rfl) ?_
  refine va_new (ci := 8) (fs := [.null, .int 0, .int 0, .int 0]) (C := RX6) (T := TX6) (N := 4) hx hb hts (fun _ h => List.mem_cons_of_mem _ (List.mem_append_left _ (List.mem_append_left _ (List.mem_append_left _ (List.mem_append_left _ (List.mem_append_left _ (List.mem_append_left _ (List.mem_append_left _ (List.mem_append_right _ h))))))))) tyX6 tyX6_ok hown (hts (.classLink RX11 7 RX6) (List.mem_of_getElem? (i := 4) rfl)) (hts (.instantiable RX6 4) (List.mem_of_getElem? (i := 5) rfl)) (hts (.initialized RX6) (List.mem_of_getElem? (i := 6) rfl)) hK hP hD hS hA rfl (fun j hj => by rcases (show j = 0 ∨ j = 1 ∨ j = 2 ∨ j = 3 by omega) with rfl | rfl | rfl | rfl <;> rfl) (Nat.le_of_ble_eq_true rfl) (Nat.le_of_ble_eq_true rfl) dX11_init_5 (fun q1 H hP hD hS => ?_)
  have hP : va_P D vwCl [(a0, .inr (13, [.null, .null, .null, .int 0, .null, .int 0, .null, .int 0, .null])), (q1, .inr (8, [.null, .int 0, .int 0, .int 0]))] H := hP
  have hD : va_D A [(a0, .inr (13, [.null, .null, .null, .int 0, .null, .int 0, .null, .int 0, .null])), (q1, .inr (8, [.null, .int 0, .int 0, .int 0]))] := hD
  refine W.widen (k := 1) (n := 4) (Nat.le_of_ble_eq_true rfl) (Nat.le_of_ble_eq_true rfl) ?_
  refine lv_dup hx hb dX11_init_8 rfl ?_
  have hPc := hP.sub (ws' := [(q1, .inr (8, [.null, .int 0, .int 0, .int 0]))]) [1] rfl
  have hDc := hD.sub (ws' := [(q1, .inr (8, [.null, .int 0, .int 0, .int 0]))]) [1] (by decide) rfl
  have hFc := va_free (wc := [(q1, .inr (8, [.null, .int 0, .int 0, .int 0]))]) hD hS hA [1] rfl
  refine va_callv (va_runI (As := []) (rest := [.ref q1, .ref a0]) ⟨hx, hb, hml, hown, hts⟩ (C_X6_init_1 l D cy sz0 sa q1 H.size) (cwI 0 hts gX11_init_X6_init rfl rfl rfl (hts (.initialized RX6) (List.mem_of_getElem? (i := 6) rfl)) (hts (.methodLink RX11 9 yX6_init) (List.mem_of_getElem? (i := 19) rfl)) (hts (.instanceMethod yX6_init) (List.mem_of_getElem? (i := 20) rfl)) rfl (by decide +kernel) ⟨Nat.le_of_ble_eq_true rfl, Nat.le_of_ble_eq_true rfl⟩) ⟨PcW.blind, PcW.mk hE hS hAF hPc hDc⟩ rfl rfl hl.1 rfl (lv_room (Nat.le_of_ble_eq_true rfl)) dX11_init_9 ⟨Nat.le_of_ble_eq_true rfl, Nat.le_of_ble_eq_true rfl⟩) hS (fun q _ h => hFc q h) hFc (fun u t H1 locs ht hvm hw hB hz1 hk1 hS => ?_)
  obtain ⟨q2, q3, q4, q5, q6, q7, q8, q9, hP1, hD1⟩ := hB
  rw [ht] at hP1
  have hP1 : va_P D vwCl [(q1, .inr (8, [.ref q2, .int 0, .int 0, .int 0])), (q2, .inr (6, [.ref q3, .int 0, .ref q4, .ref q5, .ref q6, .ref q7, .int 0, .ref q8])), (q3, .inl (cy 4, 40, .inl (fun _ => 0))), (q4, .inl (cy 0, 41, .inl (fun _ => 0))), (q5, .inl (cy 0, 41, .inl (fun _ => 0))), (q6, .inl (cy 0, 41, .inl (fun _ => 0))), (q7, .inl (cy 6, 41, .inr (.inr (.inr (.inr (fun _ => none)))))), (q8, .inr (1, [.ref q9, .int 0, .int 0, .int 0])), (q9, .inl (cy 5, 16, .inl (fun _ => 0)))] H1 := hP1
  obtain ⟨hP, hD⟩ := va_join (wr := [(a0, .inr (13, [.null, .null, .null, .int 0, .null, .int 0, .null, .int 0, .null]))]) (w1 := [(q1, .inr (8, [.ref q2, .int 0, .int 0, .int 0])), (q2, .inr (6, [.ref q3, .int 0, .ref q4, .ref q5, .ref q6, .ref q7, .int 0, .ref q8])), (q3, .inl (cy 4, 40, .inl (fun _ => 0))), (q4, .inl (cy 0, 41, .inl (fun _ => 0))), (q5, .inl (cy 0, 41, .inl (fun _ => 0))), (q6, .inl (cy 0, 41, .inl (fun _ => 0))), (q7, .inl (cy 6, 41, .inr (.inr (.inr (.inr (fun _ => none)))))), (q8, .inr (1, [.ref q9, .int 0, .int 0, .int 0])), (q9, .inl (cy 5, 16, .inl (fun _ => 0)))]) hP hD [1] [0] rfl rfl (by decide) (by decide) hk1 hFc hP1 hD1
  clear hP1 hD1 hPc hDc hFc hk1 hz1
  generalize H1 = H at hP hS ⊢
  have hP : va_P D vwCl [(a0, .inr (13, [.null, .null, .null, .int 0, .null, .int 0, .null, .int 0, .null])), (q1, .inr (8, [.ref q2, .int 0, .int 0, .int 0])), (q2, .inr (6, [.ref q3, .int 0, .ref q4, .ref q5, .ref q6, .ref q7, .int 0, .ref q8])), (q3, .inl (cy 4, 40, .inl (fun _ => 0))), (q4, .inl (cy 0, 41, .inl (fun _ => 0))), (q5, .inl (cy 0, 41, .inl (fun _ => 0))), (q6, .inl (cy 0, 41, .inl (fun _ => 0))), (q7, .inl (cy 6, 41, .inr (.inr (.inr (.inr (fun _ => none)))))), (q8, .inr (1, [.ref q9, .int 0, .int 0, .int 0])), (q9, .inl (cy 5, 16, .inl (fun _ => 0)))] H := hP
  have hD : va_D A [(a0, .inr (13, [.null, .null, .null, .int 0, .null, .int 0, .null, .int 0, .null])), (q1, .inr (8, [.ref q2, .int 0, .int 0, .int 0])), (q2, .inr (6, [.ref q3, .int 0, .ref q4, .ref q5, .ref q6, .ref q7, .int 0, .ref q8])), (q3, .inl (cy 4, 40, .inl (fun _ => 0))), (q4, .inl (cy 0, 41, .inl (fun _ => 0))), (q5, .inl (cy 0, 41, .inl (fun _ => 0))), (q6, .inl (cy 0, 41, .inl (fun _ => 0))), (q7, .inl (cy 6, 41, .inr (.inr (.inr (.inr (fun _ => none)))))), (q8, .inr (1, [.ref q9, .int 0, .int 0, .int 0])), (q9, .inl (cy 5, 16, .inl (fun _ => 0)))] := hD
  refine W.widen (k := 9) (n := 236) (Nat.le_of_ble_eq_true rfl) (Nat.le_of_ble_eq_true rfl) ?_
  refine va_putF (D := D) (ci := 13) (v := .ref q1) (ty := .object "PhraseDesk$Parser") (C := RX11) (T := TX11) (N := 9) hx hb hts (fun _ h => List.mem_cons_of_mem _ (List.mem_append_left _ (List.mem_append_left _ (List.mem_append_left _ (List.mem_append_left _ (List.mem_append_left _ (List.mem_append_left _ (List.mem_append_right _ h)))))))) tyX11 tyX11_ok nmX11 hown hK hP hD hS 0 rfl rfl 0 (by decide) (hts (.fieldLink RX11 10 "PhraseDesk" "parser" "LPhraseDesk$Parser;") (List.mem_of_getElem? (i := 7) rfl)) (fun _ h9 => h9) rfl hin rfl (by decide +kernel) rfl rfl (Nat.le_of_ble_eq_true rfl) dX11_init_12 (fun H locs hP hD hS => ?_)
  have hP : va_P D vwCl [(a0, .inr (13, [.ref q1, .null, .null, .int 0, .null, .int 0, .null, .int 0, .null])), (q1, .inr (8, [.ref q2, .int 0, .int 0, .int 0])), (q2, .inr (6, [.ref q3, .int 0, .ref q4, .ref q5, .ref q6, .ref q7, .int 0, .ref q8])), (q3, .inl (cy 4, 40, .inl (fun _ => 0))), (q4, .inl (cy 0, 41, .inl (fun _ => 0))), (q5, .inl (cy 0, 41, .inl (fun _ => 0))), (q6, .inl (cy 0, 41, .inl (fun _ => 0))), (q7, .inl (cy 6, 41, .inr (.inr (.inr (.inr (fun _ => none)))))), (q8, .inr (1, [.ref q9, .int 0, .int 0, .int 0])), (q9, .inl (cy 5, 16, .inl (fun _ => 0)))] H := hP
  have hD : va_D A [(a0, .inr (13, [.ref q1, .null, .null, .int 0, .null, .int 0, .null, .int 0, .null])), (q1, .inr (8, [.ref q2, .int 0, .int 0, .int 0])), (q2, .inr (6, [.ref q3, .int 0, .ref q4, .ref q5, .ref q6, .ref q7, .int 0, .ref q8])), (q3, .inl (cy 4, 40, .inl (fun _ => 0))), (q4, .inl (cy 0, 41, .inl (fun _ => 0))), (q5, .inl (cy 0, 41, .inl (fun _ => 0))), (q6, .inl (cy 0, 41, .inl (fun _ => 0))), (q7, .inl (cy 6, 41, .inr (.inr (.inr (.inr (fun _ => none)))))), (q8, .inr (1, [.ref q9, .int 0, .int 0, .int 0])), (q9, .inl (cy 5, 16, .inl (fun _ => 0)))] := hD
  refine lv_aload_n hx hb dX11_init_15 rfl (lv_at hl 0 rfl) ?_
  refine va_new (ci := 10) (fs := [.null, .null, .null, .null, .null, .int 0, .null, .int 0]) (C := RX8) (T := TX8) (N := 8) hx hb hts (fun _ h => List.mem_cons_of_mem _ (List.mem_append_left _ (List.mem_append_left _ (List.mem_append_left _ (List.mem_append_left _ (List.mem_append_left _ (List.mem_append_right _ h))))))) tyX8 tyX8_ok hown (hts (.classLink RX11 16 RX8) (List.mem_of_getElem? (i := 8) rfl)) (hts (.instantiable RX8 8) (List.mem_of_getElem? (i := 9) rfl)) (hts (.initialized RX8) (List.mem_of_getElem? (i := 10) rfl)) hK hP hD hS hA rfl (fun j hj => by rcases (show j = 0 ∨ j = 1 ∨ j = 2 ∨ j = 3 ∨ j = 4 ∨ j = 5 ∨ j = 6 ∨ j = 7 by omega) with rfl | rfl | rfl | rfl | rfl | rfl | rfl | rfl <;> rfl) (Nat.le_of_ble_eq_true rfl) (Nat.le_of_ble_eq_true rfl) dX11_init_16 (fun q11 H hP hD hS => ?_)
  have hP : va_P D vwCl [(a0, .inr (13, [.ref q1, .null, .null, .int 0, .null, .int 0, .null, .int 0, .null])), (q1, .inr (8, [.ref q2, .int 0, .int 0, .int 0])), (q2, .inr (6, [.ref q3, .int 0, .ref q4, .ref q5, .ref q6, .ref q7, .int 0, .ref q8])), (q3, .inl (cy 4, 40, .inl (fun _ => 0))), (q4, .inl (cy 0, 41, .inl (fun _ => 0))), (q5, .inl (cy 0, 41, .inl (fun _ => 0))), (q6, .inl (cy 0, 41, .inl (fun _ => 0))), (q7, .inl (cy 6, 41, .inr (.inr (.inr (.inr (fun _ => none)))))), (q8, .inr (1, [.ref q9, .int 0, .int 0, .int 0])), (q9, .inl (cy 5, 16, .inl (fun _ => 0))), (q11, .inr (10, [.null, .null, .null, .null, .null, .int 0, .null, .int 0]))] H := hP
  have hD : va_D A [(a0, .inr (13, [.ref q1, .null, .null, .int 0, .null, .int 0, .null, .int 0, .null])), (q1, .inr (8, [.ref q2, .int 0, .int 0, .int 0])), (q2, .inr (6, [.ref q3, .int 0, .ref q4, .ref q5, .ref q6, .ref q7, .int 0, .ref q8])), (q3, .inl (cy 4, 40, .inl (fun _ => 0))), (q4, .inl (cy 0, 41, .inl (fun _ => 0))), (q5, .inl (cy 0, 41, .inl (fun _ => 0))), (q6, .inl (cy 0, 41, .inl (fun _ => 0))), (q7, .inl (cy 6, 41, .inr (.inr (.inr (.inr (fun _ => none)))))), (q8, .inr (1, [.ref q9, .int 0, .int 0, .int 0])), (q9, .inl (cy 5, 16, .inl (fun _ => 0))), (q11, .inr (10, [.null, .null, .null, .null, .null, .int 0, .null, .int 0]))] := hD
  refine W.widen (k := 10) (n := 244) (Nat.le_of_ble_eq_true rfl) (Nat.le_of_ble_eq_true rfl) ?_
  refine lv_dup hx hb dX11_init_19 rfl ?_
  have hPc := hP.sub (ws' := [(q11, .inr (10, [.null, .null, .null, .null, .null, .int 0, .null, .int 0]))]) [10] rfl
  have hDc := hD.sub (ws' := [(q11, .inr (10, [.null, .null, .null, .null, .null, .int 0, .null, .int 0]))]) [10] (by decide) rfl
  have hFc := va_free (wc := [(q11, .inr (10, [.null, .null, .null, .null, .null, .int 0, .null, .int 0]))]) hD hS hA [10] rfl
  refine va_callv (va_runI (As := []) (rest := [.ref q11, .ref a0]) ⟨hx, hb, hml, hown, hts⟩ (C_X8_init_1 l D cy sz0 sa q11 H.size) (cwI 0 hts gX11_init_X8_init rfl rfl rfl (hts (.initialized RX8) (List.mem_of_getElem? (i := 10) rfl)) (hts (.methodLink RX11 18 yX8_init) (List.mem_of_getElem? (i := 63) rfl)) (hts (.instanceMethod yX8_init) (List.mem_of_getElem? (i := 64) rfl)) rfl (by decide +kernel) ⟨Nat.le_of_ble_eq_true rfl, Nat.le_of_ble_eq_true rfl⟩) ⟨PcW.blind, PcW.mk hE hS hAF hPc hDc⟩ rfl rfl hl.1 rfl (lv_room (Nat.le_of_ble_eq_true rfl)) dX11_init_20 ⟨Nat.le_of_ble_eq_true rfl, Nat.le_of_ble_eq_true rfl⟩) hS (fun q _ h => hFc q h) hFc (fun u t H1 locs ht hvm hw hB hz1 hk1 hS => ?_)
  obtain ⟨q12, q13, q14, q15, q16, q17, q18, q19, q20, hP1, hD1⟩ := hB
  rw [ht] at hP1
  have hP1 : va_P D vwCl [(q11, .inr (10, [.ref q12, .ref q13, .ref q17, .ref q19, .ref q20, .int 0, .ref q12, .int 0])), (q12, .inr (12, [.int 0, .int 0, .double FP.dconst0, .ref (sa 0), .null])), (q13, .inr (2, [.ref q14, .ref q15])), (q14, .inl (cy 2, 65, .inl (fun _ => 0))), (q15, .inr (1, [.ref q16, .int 0, .int 0, .int 0])), (q16, .inl (cy 5, 16, .inl (fun _ => 0))), (q17, .inr (5, [.ref q18, .int 0, .int 0])), (q18, .inl (cy 9, 30, .inr (.inr (.inr (.inr (fun _ => none)))))), (q19, .inl (cy 0, 12, .inl (fun _ => 0))), (q20, .inl (cy 6, 12, .inr (.inr (.inr (.inr (fun _ => none))))))] H1 := hP1
  obtain ⟨hP, hD⟩ := va_join (wr := [(a0, .inr (13, [.ref q1, .null, .null, .int 0, .null, .int 0, .null, .int 0, .null])), (q1, .inr (8, [.ref q2, .int 0, .int 0, .int 0])), (q2, .inr (6, [.ref q3, .int 0, .ref q4, .ref q5, .ref q6, .ref q7, .int 0, .ref q8])), (q3, .inl (cy 4, 40, .inl (fun _ => 0))), (q4, .inl (cy 0, 41, .inl (fun _ => 0))), (q5, .inl (cy 0, 41, .inl (fun _ => 0))), (q6, .inl (cy 0, 41, .inl (fun _ => 0))), (q7, .inl (cy 6, 41, .inr (.inr (.inr (.inr (fun _ => none)))))), (q8, .inr (1, [.ref q9, .int 0, .int 0, .int 0])), (q9, .inl (cy 5, 16, .inl (fun _ => 0)))]) (w1 := [(q11, .inr (10, [.ref q12, .ref q13, .ref q17, .ref q19, .ref q20, .int 0, .ref q12, .int 0])), (q12, .inr (12, [.int 0, .int 0, .double FP.dconst0, .ref (sa 0), .null])), (q13, .inr (2, [.ref q14, .ref q15])), (q14, .inl (cy 2, 65, .inl (fun _ => 0))), (q15, .inr (1, [.ref q16, .int 0, .int 0, .int 0])), (q16, .inl (cy 5, 16, .inl (fun _ => 0))), (q17, .inr (5, [.ref q18, .int 0, .int 0])), (q18, .inl (cy 9, 30, .inr (.inr (.inr (.inr (fun _ => none)))))), (q19, .inl (cy 0, 12, .inl (fun _ => 0))), (q20, .inl (cy 6, 12, .inr (.inr (.inr (.inr (fun _ => none))))))]) hP hD [10] [0, 1, 2, 3, 4, 5, 6, 7, 8, 9] rfl rfl (by decide) (by decide) hk1 hFc hP1 hD1
  clear hP1 hD1 hPc hDc hFc hk1 hz1
  generalize H1 = H at hP hS ⊢
  have hP : va_P D vwCl [(a0, .inr (13, [.ref q1, .null, .null, .int 0, .null, .int 0, .null, .int 0, .null])), (q1, .inr (8, [.ref q2, .int 0, .int 0, .int 0])), (q2, .inr (6, [.ref q3, .int 0, .ref q4, .ref q5, .ref q6, .ref q7, .int 0, .ref q8])), (q3, .inl (cy 4, 40, .inl (fun _ => 0))), (q4, .inl (cy 0, 41, .inl (fun _ => 0))), (q5, .inl (cy 0, 41, .inl (fun _ => 0))), (q6, .inl (cy 0, 41, .inl (fun _ => 0))), (q7, .inl (cy 6, 41, .inr (.inr (.inr (.inr (fun _ => none)))))), (q8, .inr (1, [.ref q9, .int 0, .int 0, .int 0])), (q9, .inl (cy 5, 16, .inl (fun _ => 0))), (q11, .inr (10, [.ref q12, .ref q13, .ref q17, .ref q19, .ref q20, .int 0, .ref q12, .int 0])), (q12, .inr (12, [.int 0, .int 0, .double FP.dconst0, .ref (sa 0), .null])), (q13, .inr (2, [.ref q14, .ref q15])), (q14, .inl (cy 2, 65, .inl (fun _ => 0))), (q15, .inr (1, [.ref q16, .int 0, .int 0, .int 0])), (q16, .inl (cy 5, 16, .inl (fun _ => 0))), (q17, .inr (5, [.ref q18, .int 0, .int 0])), (q18, .inl (cy 9, 30, .inr (.inr (.inr (.inr (fun _ => none)))))), (q19, .inl (cy 0, 12, .inl (fun _ => 0))), (q20, .inl (cy 6, 12, .inr (.inr (.inr (.inr (fun _ => none))))))] H := hP
  have hD : va_D A [(a0, .inr (13, [.ref q1, .null, .null, .int 0, .null, .int 0, .null, .int 0, .null])), (q1, .inr (8, [.ref q2, .int 0, .int 0, .int 0])), (q2, .inr (6, [.ref q3, .int 0, .ref q4, .ref q5, .ref q6, .ref q7, .int 0, .ref q8])), (q3, .inl (cy 4, 40, .inl (fun _ => 0))), (q4, .inl (cy 0, 41, .inl (fun _ => 0))), (q5, .inl (cy 0, 41, .inl (fun _ => 0))), (q6, .inl (cy 0, 41, .inl (fun _ => 0))), (q7, .inl (cy 6, 41, .inr (.inr (.inr (.inr (fun _ => none)))))), (q8, .inr (1, [.ref q9, .int 0, .int 0, .int 0])), (q9, .inl (cy 5, 16, .inl (fun _ => 0))), (q11, .inr (10, [.ref q12, .ref q13, .ref q17, .ref q19, .ref q20, .int 0, .ref q12, .int 0])), (q12, .inr (12, [.int 0, .int 0, .double FP.dconst0, .ref (sa 0), .null])), (q13, .inr (2, [.ref q14, .ref q15])), (q14, .inl (cy 2, 65, .inl (fun _ => 0))), (q15, .inr (1, [.ref q16, .int 0, .int 0, .int 0])), (q16, .inl (cy 5, 16, .inl (fun _ => 0))), (q17, .inr (5, [.ref q18, .int 0, .int 0])), (q18, .inl (cy 9, 30, .inr (.inr (.inr (.inr (fun _ => none)))))), (q19, .inl (cy 0, 12, .inl (fun _ => 0))), (q20, .inl (cy 6, 12, .inr (.inr (.inr (.inr (fun _ => none))))))] := hD
  refine W.widen (k := 19) (n := 393) (Nat.le_of_ble_eq_true rfl) (Nat.le_of_ble_eq_true rfl) ?_
  refine va_putF (D := D) (ci := 13) (v := .ref q11) (ty := .object "PhraseDesk$Runner") (C := RX11) (T := TX11) (N := 9) hx hb hts (fun _ h => List.mem_cons_of_mem _ (List.mem_append_left _ (List.mem_append_left _ (List.mem_append_left _ (List.mem_append_left _ (List.mem_append_left _ (List.mem_append_left _ (List.mem_append_right _ h)))))))) tyX11 tyX11_ok nmX11 hown hK hP hD hS 0 rfl rfl 1 (by decide) (hts (.fieldLink RX11 19 "PhraseDesk" "runner" "LPhraseDesk$Runner;") (List.mem_of_getElem? (i := 11) rfl)) (fun _ h9 => h9) rfl hin rfl (by decide +kernel) rfl rfl (Nat.le_of_ble_eq_true rfl) dX11_init_23 (fun H locs hP hD hS => ?_)
  have hP : va_P D vwCl [(a0, .inr (13, [.ref q1, .ref q11, .null, .int 0, .null, .int 0, .null, .int 0, .null])), (q1, .inr (8, [.ref q2, .int 0, .int 0, .int 0])), (q2, .inr (6, [.ref q3, .int 0, .ref q4, .ref q5, .ref q6, .ref q7, .int 0, .ref q8])), (q3, .inl (cy 4, 40, .inl (fun _ => 0))), (q4, .inl (cy 0, 41, .inl (fun _ => 0))), (q5, .inl (cy 0, 41, .inl (fun _ => 0))), (q6, .inl (cy 0, 41, .inl (fun _ => 0))), (q7, .inl (cy 6, 41, .inr (.inr (.inr (.inr (fun _ => none)))))), (q8, .inr (1, [.ref q9, .int 0, .int 0, .int 0])), (q9, .inl (cy 5, 16, .inl (fun _ => 0))), (q11, .inr (10, [.ref q12, .ref q13, .ref q17, .ref q19, .ref q20, .int 0, .ref q12, .int 0])), (q12, .inr (12, [.int 0, .int 0, .double FP.dconst0, .ref (sa 0), .null])), (q13, .inr (2, [.ref q14, .ref q15])), (q14, .inl (cy 2, 65, .inl (fun _ => 0))), (q15, .inr (1, [.ref q16, .int 0, .int 0, .int 0])), (q16, .inl (cy 5, 16, .inl (fun _ => 0))), (q17, .inr (5, [.ref q18, .int 0, .int 0])), (q18, .inl (cy 9, 30, .inr (.inr (.inr (.inr (fun _ => none)))))), (q19, .inl (cy 0, 12, .inl (fun _ => 0))), (q20, .inl (cy 6, 12, .inr (.inr (.inr (.inr (fun _ => none))))))] H := hP
  have hD : va_D A [(a0, .inr (13, [.ref q1, .ref q11, .null, .int 0, .null, .int 0, .null, .int 0, .null])), (q1, .inr (8, [.ref q2, .int 0, .int 0, .int 0])), (q2, .inr (6, [.ref q3, .int 0, .ref q4, .ref q5, .ref q6, .ref q7, .int 0, .ref q8])), (q3, .inl (cy 4, 40, .inl (fun _ => 0))), (q4, .inl (cy 0, 41, .inl (fun _ => 0))), (q5, .inl (cy 0, 41, .inl (fun _ => 0))), (q6, .inl (cy 0, 41, .inl (fun _ => 0))), (q7, .inl (cy 6, 41, .inr (.inr (.inr (.inr (fun _ => none)))))), (q8, .inr (1, [.ref q9, .int 0, .int 0, .int 0])), (q9, .inl (cy 5, 16, .inl (fun _ => 0))), (q11, .inr (10, [.ref q12, .ref q13, .ref q17, .ref q19, .ref q20, .int 0, .ref q12, .int 0])), (q12, .inr (12, [.int 0, .int 0, .double FP.dconst0, .ref (sa 0), .null])), (q13, .inr (2, [.ref q14, .ref q15])), (q14, .inl (cy 2, 65, .inl (fun _ => 0))), (q15, .inr (1, [.ref q16, .int 0, .int 0, .int 0])), (q16, .inl (cy 5, 16, .inl (fun _ => 0))), (q17, .inr (5, [.ref q18, .int 0, .int 0])), (q18, .inl (cy 9, 30, .inr (.inr (.inr (.inr (fun _ => none)))))), (q19, .inl (cy 0, 12, .inl (fun _ => 0))), (q20, .inl (cy 6, 12, .inr (.inr (.inr (.inr (fun _ => none))))))] := hD
  refine lv_aload_n hx hb dX11_init_26 rfl (lv_at hl 0 rfl) ?_
  refine lv_bipush (v := 40) hx hb dX11_init_27 (by decide +kernel) ?_
  refine g_newq (C := "PhraseDesk$Node") hx hb hown (hts (.classLink RX11 23 RX5) (List.mem_of_getElem? (i := 12) rfl)) hAO.2.1 hK hP hD hS hA 7 rfl (N' := 40) (by decide +kernel) (by decide +kernel) (by decide +kernel) (Nat.le_of_ble_eq_true rfl) (Nat.le_of_ble_eq_true rfl) dX11_init_29 (fun q22 H hP hD hS => ?_)
  have hP : va_P D vwCl [(a0, .inr (13, [.ref q1, .ref q11, .null, .int 0, .null, .int 0, .null, .int 0, .null])), (q1, .inr (8, [.ref q2, .int 0, .int 0, .int 0])), (q2, .inr (6, [.ref q3, .int 0, .ref q4, .ref q5, .ref q6, .ref q7, .int 0, .ref q8])), (q3, .inl (cy 4, 40, .inl (fun _ => 0))), (q4, .inl (cy 0, 41, .inl (fun _ => 0))), (q5, .inl (cy 0, 41, .inl (fun _ => 0))), (q6, .inl (cy 0, 41, .inl (fun _ => 0))), (q7, .inl (cy 6, 41, .inr (.inr (.inr (.inr (fun _ => none)))))), (q8, .inr (1, [.ref q9, .int 0, .int 0, .int 0])), (q9, .inl (cy 5, 16, .inl (fun _ => 0))), (q11, .inr (10, [.ref q12, .ref q13, .ref q17, .ref q19, .ref q20, .int 0, .ref q12, .int 0])), (q12, .inr (12, [.int 0, .int 0, .double FP.dconst0, .ref (sa 0), .null])), (q13, .inr (2, [.ref q14, .ref q15])), (q14, .inl (cy 2, 65, .inl (fun _ => 0))), (q15, .inr (1, [.ref q16, .int 0, .int 0, .int 0])), (q16, .inl (cy 5, 16, .inl (fun _ => 0))), (q17, .inr (5, [.ref q18, .int 0, .int 0])), (q18, .inl (cy 9, 30, .inr (.inr (.inr (.inr (fun _ => none)))))), (q19, .inl (cy 0, 12, .inl (fun _ => 0))), (q20, .inl (cy 6, 12, .inr (.inr (.inr (.inr (fun _ => none)))))), (q22, .inl (cy 7, 40, .inr (.inr (.inr (.inr (fun _ => none))))))] H := hP
  have hD : va_D A [(a0, .inr (13, [.ref q1, .ref q11, .null, .int 0, .null, .int 0, .null, .int 0, .null])), (q1, .inr (8, [.ref q2, .int 0, .int 0, .int 0])), (q2, .inr (6, [.ref q3, .int 0, .ref q4, .ref q5, .ref q6, .ref q7, .int 0, .ref q8])), (q3, .inl (cy 4, 40, .inl (fun _ => 0))), (q4, .inl (cy 0, 41, .inl (fun _ => 0))), (q5, .inl (cy 0, 41, .inl (fun _ => 0))), (q6, .inl (cy 0, 41, .inl (fun _ => 0))), (q7, .inl (cy 6, 41, .inr (.inr (.inr (.inr (fun _ => none)))))), (q8, .inr (1, [.ref q9, .int 0, .int 0, .int 0])), (q9, .inl (cy 5, 16, .inl (fun _ => 0))), (q11, .inr (10, [.ref q12, .ref q13, .ref q17, .ref q19, .ref q20, .int 0, .ref q12, .int 0])), (q12, .inr (12, [.int 0, .int 0, .double FP.dconst0, .ref (sa 0), .null])), (q13, .inr (2, [.ref q14, .ref q15])), (q14, .inl (cy 2, 65, .inl (fun _ => 0))), (q15, .inr (1, [.ref q16, .int 0, .int 0, .int 0])), (q16, .inl (cy 5, 16, .inl (fun _ => 0))), (q17, .inr (5, [.ref q18, .int 0, .int 0])), (q18, .inl (cy 9, 30, .inr (.inr (.inr (.inr (fun _ => none)))))), (q19, .inl (cy 0, 12, .inl (fun _ => 0))), (q20, .inl (cy 6, 12, .inr (.inr (.inr (.inr (fun _ => none)))))), (q22, .inl (cy 7, 40, .inr (.inr (.inr (.inr (fun _ => none))))))] := hD
  refine W.widen (k := 20) (n := 433) (Nat.le_of_ble_eq_true rfl) (Nat.le_of_ble_eq_true rfl) ?_
  refine va_putF (D := D) (ci := 13) (v := .ref q22) (ty := .array (.object "PhraseDesk$Node")) (C := RX11) (T := TX11) (N := 9) hx hb hts (fun _ h => List.mem_cons_of_mem _ (List.mem_append_left _ (List.mem_append_left _ (List.mem_append_left _ (List.mem_append_left _ (List.mem_append_left _ (List.mem_append_left _ (List.mem_append_right _ h)))))))) tyX11 tyX11_ok nmX11 hown hK hP hD hS 0 rfl rfl 2 (by decide) (hts (.fieldLink RX11 25 "PhraseDesk" "programs" "[LPhraseDesk$Node;") (List.mem_of_getElem? (i := 13) rfl)) (fun _ h9 => h9) rfl hin rfl (by decide +kernel) rfl rfl (Nat.le_of_ble_eq_true rfl) dX11_init_32 (fun H locs hP hD hS => ?_)
  have hP : va_P D vwCl [(a0, .inr (13, [.ref q1, .ref q11, .ref q22, .int 0, .null, .int 0, .null, .int 0, .null])), (q1, .inr (8, [.ref q2, .int 0, .int 0, .int 0])), (q2, .inr (6, [.ref q3, .int 0, .ref q4, .ref q5, .ref q6, .ref q7, .int 0, .ref q8])), (q3, .inl (cy 4, 40, .inl (fun _ => 0))), (q4, .inl (cy 0, 41, .inl (fun _ => 0))), (q5, .inl (cy 0, 41, .inl (fun _ => 0))), (q6, .inl (cy 0, 41, .inl (fun _ => 0))), (q7, .inl (cy 6, 41, .inr (.inr (.inr (.inr (fun _ => none)))))), (q8, .inr (1, [.ref q9, .int 0, .int 0, .int 0])), (q9, .inl (cy 5, 16, .inl (fun _ => 0))), (q11, .inr (10, [.ref q12, .ref q13, .ref q17, .ref q19, .ref q20, .int 0, .ref q12, .int 0])), (q12, .inr (12, [.int 0, .int 0, .double FP.dconst0, .ref (sa 0), .null])), (q13, .inr (2, [.ref q14, .ref q15])), (q14, .inl (cy 2, 65, .inl (fun _ => 0))), (q15, .inr (1, [.ref q16, .int 0, .int 0, .int 0])), (q16, .inl (cy 5, 16, .inl (fun _ => 0))), (q17, .inr (5, [.ref q18, .int 0, .int 0])), (q18, .inl (cy 9, 30, .inr (.inr (.inr (.inr (fun _ => none)))))), (q19, .inl (cy 0, 12, .inl (fun _ => 0))), (q20, .inl (cy 6, 12, .inr (.inr (.inr (.inr (fun _ => none)))))), (q22, .inl (cy 7, 40, .inr (.inr (.inr (.inr (fun _ => none))))))] H := hP
  have hD : va_D A [(a0, .inr (13, [.ref q1, .ref q11, .ref q22, .int 0, .null, .int 0, .null, .int 0, .null])), (q1, .inr (8, [.ref q2, .int 0, .int 0, .int 0])), (q2, .inr (6, [.ref q3, .int 0, .ref q4, .ref q5, .ref q6, .ref q7, .int 0, .ref q8])), (q3, .inl (cy 4, 40, .inl (fun _ => 0))), (q4, .inl (cy 0, 41, .inl (fun _ => 0))), (q5, .inl (cy 0, 41, .inl (fun _ => 0))), (q6, .inl (cy 0, 41, .inl (fun _ => 0))), (q7, .inl (cy 6, 41, .inr (.inr (.inr (.inr (fun _ => none)))))), (q8, .inr (1, [.ref q9, .int 0, .int 0, .int 0])), (q9, .inl (cy 5, 16, .inl (fun _ => 0))), (q11, .inr (10, [.ref q12, .ref q13, .ref q17, .ref q19, .ref q20, .int 0, .ref q12, .int 0])), (q12, .inr (12, [.int 0, .int 0, .double FP.dconst0, .ref (sa 0), .null])), (q13, .inr (2, [.ref q14, .ref q15])), (q14, .inl (cy 2, 65, .inl (fun _ => 0))), (q15, .inr (1, [.ref q16, .int 0, .int 0, .int 0])), (q16, .inl (cy 5, 16, .inl (fun _ => 0))), (q17, .inr (5, [.ref q18, .int 0, .int 0])), (q18, .inl (cy 9, 30, .inr (.inr (.inr (.inr (fun _ => none)))))), (q19, .inl (cy 0, 12, .inl (fun _ => 0))), (q20, .inl (cy 6, 12, .inr (.inr (.inr (.inr (fun _ => none)))))), (q22, .inl (cy 7, 40, .inr (.inr (.inr (.inr (fun _ => none))))))] := hD
  refine lv_aload_n hx hb dX11_init_35 rfl (lv_at hl 0 rfl) ?_
  refine lv_iconst (v := 5) hx hb dX11_init_36 (by decide +kernel) ?_
  refine g_newq (C := "PhraseDesk$Family") hx hb hown (hts (.classLink RX11 29 RX1) (List.mem_of_getElem? (i := 14) rfl)) hAO.2.2.1 hK hP hD hS hA 8 rfl (N' := 5) (by decide +kernel) (by decide +kernel) (by decide +kernel) (Nat.le_of_ble_eq_true rfl) (Nat.le_of_ble_eq_true rfl) dX11_init_37 (fun q23 H hP hD hS => ?_)
  have hP : va_P D vwCl [(a0, .inr (13, [.ref q1, .ref q11, .ref q22, .int 0, .null, .int 0, .null, .int 0, .null])), (q1, .inr (8, [.ref q2, .int 0, .int 0, .int 0])), (q2, .inr (6, [.ref q3, .int 0, .ref q4, .ref q5, .ref q6, .ref q7, .int 0, .ref q8])), (q3, .inl (cy 4, 40, .inl (fun _ => 0))), (q4, .inl (cy 0, 41, .inl (fun _ => 0))), (q5, .inl (cy 0, 41, .inl (fun _ => 0))), (q6, .inl (cy 0, 41, .inl (fun _ => 0))), (q7, .inl (cy 6, 41, .inr (.inr (.inr (.inr (fun _ => none)))))), (q8, .inr (1, [.ref q9, .int 0, .int 0, .int 0])), (q9, .inl (cy 5, 16, .inl (fun _ => 0))), (q11, .inr (10, [.ref q12, .ref q13, .ref q17, .ref q19, .ref q20, .int 0, .ref q12, .int 0])), (q12, .inr (12, [.int 0, .int 0, .double FP.dconst0, .ref (sa 0), .null])), (q13, .inr (2, [.ref q14, .ref q15])), (q14, .inl (cy 2, 65, .inl (fun _ => 0))), (q15, .inr (1, [.ref q16, .int 0, .int 0, .int 0])), (q16, .inl (cy 5, 16, .inl (fun _ => 0))), (q17, .inr (5, [.ref q18, .int 0, .int 0])), (q18, .inl (cy 9, 30, .inr (.inr (.inr (.inr (fun _ => none)))))), (q19, .inl (cy 0, 12, .inl (fun _ => 0))), (q20, .inl (cy 6, 12, .inr (.inr (.inr (.inr (fun _ => none)))))), (q22, .inl (cy 7, 40, .inr (.inr (.inr (.inr (fun _ => none)))))), (q23, .inl (cy 8, 5, .inr (.inr (.inr (.inr (fun _ => none))))))] H := hP
  have hD : va_D A [(a0, .inr (13, [.ref q1, .ref q11, .ref q22, .int 0, .null, .int 0, .null, .int 0, .null])), (q1, .inr (8, [.ref q2, .int 0, .int 0, .int 0])), (q2, .inr (6, [.ref q3, .int 0, .ref q4, .ref q5, .ref q6, .ref q7, .int 0, .ref q8])), (q3, .inl (cy 4, 40, .inl (fun _ => 0))), (q4, .inl (cy 0, 41, .inl (fun _ => 0))), (q5, .inl (cy 0, 41, .inl (fun _ => 0))), (q6, .inl (cy 0, 41, .inl (fun _ => 0))), (q7, .inl (cy 6, 41, .inr (.inr (.inr (.inr (fun _ => none)))))), (q8, .inr (1, [.ref q9, .int 0, .int 0, .int 0])), (q9, .inl (cy 5, 16, .inl (fun _ => 0))), (q11, .inr (10, [.ref q12, .ref q13, .ref q17, .ref q19, .ref q20, .int 0, .ref q12, .int 0])), (q12, .inr (12, [.int 0, .int 0, .double FP.dconst0, .ref (sa 0), .null])), (q13, .inr (2, [.ref q14, .ref q15])), (q14, .inl (cy 2, 65, .inl (fun _ => 0))), (q15, .inr (1, [.ref q16, .int 0, .int 0, .int 0])), (q16, .inl (cy 5, 16, .inl (fun _ => 0))), (q17, .inr (5, [.ref q18, .int 0, .int 0])), (q18, .inl (cy 9, 30, .inr (.inr (.inr (.inr (fun _ => none)))))), (q19, .inl (cy 0, 12, .inl (fun _ => 0))), (q20, .inl (cy 6, 12, .inr (.inr (.inr (.inr (fun _ => none)))))), (q22, .inl (cy 7, 40, .inr (.inr (.inr (.inr (fun _ => none)))))), (q23, .inl (cy 8, 5, .inr (.inr (.inr (.inr (fun _ => none))))))] := hD
  refine W.widen (k := 21) (n := 438) (Nat.le_of_ble_eq_true rfl) (Nat.le_of_ble_eq_true rfl) ?_
  refine va_putF (D := D) (ci := 13) (v := .ref q23) (ty := .array (.object "PhraseDesk$Family")) (C := RX11) (T := TX11) (N := 9) hx hb hts (fun _ h => List.mem_cons_of_mem _ (List.mem_append_left _ (List.mem_append_left _ (List.mem_append_left _ (List.mem_append_left _ (List.mem_append_left _ (List.mem_append_left _ (List.mem_append_right _ h)))))))) tyX11 tyX11_ok nmX11 hown hK hP hD hS 0 rfl rfl 4 (by decide) (hts (.fieldLink RX11 31 "PhraseDesk" "families" "[LPhraseDesk$Family;") (List.mem_of_getElem? (i := 15) rfl)) (fun _ h9 => h9) rfl hin rfl (by decide +kernel) rfl rfl (Nat.le_of_ble_eq_true rfl) dX11_init_40 (fun H locs hP hD hS => ?_)
  have hP : va_P D vwCl [(a0, .inr (13, [.ref q1, .ref q11, .ref q22, .int 0, .ref q23, .int 0, .null, .int 0, .null])), (q1, .inr (8, [.ref q2, .int 0, .int 0, .int 0])), (q2, .inr (6, [.ref q3, .int 0, .ref q4, .ref q5, .ref q6, .ref q7, .int 0, .ref q8])), (q3, .inl (cy 4, 40, .inl (fun _ => 0))), (q4, .inl (cy 0, 41, .inl (fun _ => 0))), (q5, .inl (cy 0, 41, .inl (fun _ => 0))), (q6, .inl (cy 0, 41, .inl (fun _ => 0))), (q7, .inl (cy 6, 41, .inr (.inr (.inr (.inr (fun _ => none)))))), (q8, .inr (1, [.ref q9, .int 0, .int 0, .int 0])), (q9, .inl (cy 5, 16, .inl (fun _ => 0))), (q11, .inr (10, [.ref q12, .ref q13, .ref q17, .ref q19, .ref q20, .int 0, .ref q12, .int 0])), (q12, .inr (12, [.int 0, .int 0, .double FP.dconst0, .ref (sa 0), .null])), (q13, .inr (2, [.ref q14, .ref q15])), (q14, .inl (cy 2, 65, .inl (fun _ => 0))), (q15, .inr (1, [.ref q16, .int 0, .int 0, .int 0])), (q16, .inl (cy 5, 16, .inl (fun _ => 0))), (q17, .inr (5, [.ref q18, .int 0, .int 0])), (q18, .inl (cy 9, 30, .inr (.inr (.inr (.inr (fun _ => none)))))), (q19, .inl (cy 0, 12, .inl (fun _ => 0))), (q20, .inl (cy 6, 12, .inr (.inr (.inr (.inr (fun _ => none)))))), (q22, .inl (cy 7, 40, .inr (.inr (.inr (.inr (fun _ => none)))))), (q23, .inl (cy 8, 5, .inr (.inr (.inr (.inr (fun _ => none))))))] H := hP
  have hD : va_D A [(a0, .inr (13, [.ref q1, .ref q11, .ref q22, .int 0, .ref q23, .int 0, .null, .int 0, .null])), (q1, .inr (8, [.ref q2, .int 0, .int 0, .int 0])), (q2, .inr (6, [.ref q3, .int 0, .ref q4, .ref q5, .ref q6, .ref q7, .int 0, .ref q8])), (q3, .inl (cy 4, 40, .inl (fun _ => 0))), (q4, .inl (cy 0, 41, .inl (fun _ => 0))), (q5, .inl (cy 0, 41, .inl (fun _ => 0))), (q6, .inl (cy 0, 41, .inl (fun _ => 0))), (q7, .inl (cy 6, 41, .inr (.inr (.inr (.inr (fun _ => none)))))), (q8, .inr (1, [.ref q9, .int 0, .int 0, .int 0])), (q9, .inl (cy 5, 16, .inl (fun _ => 0))), (q11, .inr (10, [.ref q12, .ref q13, .ref q17, .ref q19, .ref q20, .int 0, .ref q12, .int 0])), (q12, .inr (12, [.int 0, .int 0, .double FP.dconst0, .ref (sa 0), .null])), (q13, .inr (2, [.ref q14, .ref q15])), (q14, .inl (cy 2, 65, .inl (fun _ => 0))), (q15, .inr (1, [.ref q16, .int 0, .int 0, .int 0])), (q16, .inl (cy 5, 16, .inl (fun _ => 0))), (q17, .inr (5, [.ref q18, .int 0, .int 0])), (q18, .inl (cy 9, 30, .inr (.inr (.inr (.inr (fun _ => none)))))), (q19, .inl (cy 0, 12, .inl (fun _ => 0))), (q20, .inl (cy 6, 12, .inr (.inr (.inr (.inr (fun _ => none)))))), (q22, .inl (cy 7, 40, .inr (.inr (.inr (.inr (fun _ => none)))))), (q23, .inl (cy 8, 5, .inr (.inr (.inr (.inr (fun _ => none))))))] := hD
  refine lv_aload_n hx hb dX11_init_43 rfl (lv_at hl 0 rfl) ?_
  refine lv_bipush (v := 30) hx hb dX11_init_44 (by decide +kernel) ?_
  refine g_newq (C := "PhraseDesk$Value") hx hb hown (hts (.classLink RX11 35 RX10) (List.mem_of_getElem? (i := 16) rfl)) hAO.1 hK hP hD hS hA 6 rfl (N' := 30) (by decide +kernel) (by decide +kernel) (by decide +kernel) (Nat.le_of_ble_eq_true rfl) (Nat.le_of_ble_eq_true rfl) dX11_init_46 (fun q24 H hP hD hS => ?_)
  have hP : va_P D vwCl [(a0, .inr (13, [.ref q1, .ref q11, .ref q22, .int 0, .ref q23, .int 0, .null, .int 0, .null])), (q1, .inr (8, [.ref q2, .int 0, .int 0, .int 0])), (q2, .inr (6, [.ref q3, .int 0, .ref q4, .ref q5, .ref q6, .ref q7, .int 0, .ref q8])), (q3, .inl (cy 4, 40, .inl (fun _ => 0))), (q4, .inl (cy 0, 41, .inl (fun _ => 0))), (q5, .inl (cy 0, 41, .inl (fun _ => 0))), (q6, .inl (cy 0, 41, .inl (fun _ => 0))), (q7, .inl (cy 6, 41, .inr (.inr (.inr (.inr (fun _ => none)))))), (q8, .inr (1, [.ref q9, .int 0, .int 0, .int 0])), (q9, .inl (cy 5, 16, .inl (fun _ => 0))), (q11, .inr (10, [.ref q12, .ref q13, .ref q17, .ref q19, .ref q20, .int 0, .ref q12, .int 0])), (q12, .inr (12, [.int 0, .int 0, .double FP.dconst0, .ref (sa 0), .null])), (q13, .inr (2, [.ref q14, .ref q15])), (q14, .inl (cy 2, 65, .inl (fun _ => 0))), (q15, .inr (1, [.ref q16, .int 0, .int 0, .int 0])), (q16, .inl (cy 5, 16, .inl (fun _ => 0))), (q17, .inr (5, [.ref q18, .int 0, .int 0])), (q18, .inl (cy 9, 30, .inr (.inr (.inr (.inr (fun _ => none)))))), (q19, .inl (cy 0, 12, .inl (fun _ => 0))), (q20, .inl (cy 6, 12, .inr (.inr (.inr (.inr (fun _ => none)))))), (q22, .inl (cy 7, 40, .inr (.inr (.inr (.inr (fun _ => none)))))), (q23, .inl (cy 8, 5, .inr (.inr (.inr (.inr (fun _ => none)))))), (q24, .inl (cy 6, 30, .inr (.inr (.inr (.inr (fun _ => none))))))] H := hP
  have hD : va_D A [(a0, .inr (13, [.ref q1, .ref q11, .ref q22, .int 0, .ref q23, .int 0, .null, .int 0, .null])), (q1, .inr (8, [.ref q2, .int 0, .int 0, .int 0])), (q2, .inr (6, [.ref q3, .int 0, .ref q4, .ref q5, .ref q6, .ref q7, .int 0, .ref q8])), (q3, .inl (cy 4, 40, .inl (fun _ => 0))), (q4, .inl (cy 0, 41, .inl (fun _ => 0))), (q5, .inl (cy 0, 41, .inl (fun _ => 0))), (q6, .inl (cy 0, 41, .inl (fun _ => 0))), (q7, .inl (cy 6, 41, .inr (.inr (.inr (.inr (fun _ => none)))))), (q8, .inr (1, [.ref q9, .int 0, .int 0, .int 0])), (q9, .inl (cy 5, 16, .inl (fun _ => 0))), (q11, .inr (10, [.ref q12, .ref q13, .ref q17, .ref q19, .ref q20, .int 0, .ref q12, .int 0])), (q12, .inr (12, [.int 0, .int 0, .double FP.dconst0, .ref (sa 0), .null])), (q13, .inr (2, [.ref q14, .ref q15])), (q14, .inl (cy 2, 65, .inl (fun _ => 0))), (q15, .inr (1, [.ref q16, .int 0, .int 0, .int 0])), (q16, .inl (cy 5, 16, .inl (fun _ => 0))), (q17, .inr (5, [.ref q18, .int 0, .int 0])), (q18, .inl (cy 9, 30, .inr (.inr (.inr (.inr (fun _ => none)))))), (q19, .inl (cy 0, 12, .inl (fun _ => 0))), (q20, .inl (cy 6, 12, .inr (.inr (.inr (.inr (fun _ => none)))))), (q22, .inl (cy 7, 40, .inr (.inr (.inr (.inr (fun _ => none)))))), (q23, .inl (cy 8, 5, .inr (.inr (.inr (.inr (fun _ => none)))))), (q24, .inl (cy 6, 30, .inr (.inr (.inr (.inr (fun _ => none))))))] := hD
  refine W.widen (k := 22) (n := 468) (Nat.le_of_ble_eq_true rfl) (Nat.le_of_ble_eq_true rfl) ?_
  refine va_putF (D := D) (ci := 13) (v := .ref q24) (ty := .array (.object "PhraseDesk$Value")) (C := RX11) (T := TX11) (N := 9) hx hb hts (fun _ h => List.mem_cons_of_mem _ (List.mem_append_left _ (List.mem_append_left _ (List.mem_append_left _ (List.mem_append_left _ (List.mem_append_left _ (List.mem_append_left _ (List.mem_append_right _ h)))))))) tyX11 tyX11_ok nmX11 hown hK hP hD hS 0 rfl rfl 6 (by decide) (hts (.fieldLink RX11 37 "PhraseDesk" "objects" "[LPhraseDesk$Value;") (List.mem_of_getElem? (i := 17) rfl)) (fun _ h9 => h9) rfl hin rfl (by decide +kernel) rfl rfl (Nat.le_of_ble_eq_true rfl) dX11_init_49 (fun H locs hP hD hS => ?_)
  have hP : va_P D vwCl [(a0, .inr (13, [.ref q1, .ref q11, .ref q22, .int 0, .ref q23, .int 0, .ref q24, .int 0, .null])), (q1, .inr (8, [.ref q2, .int 0, .int 0, .int 0])), (q2, .inr (6, [.ref q3, .int 0, .ref q4, .ref q5, .ref q6, .ref q7, .int 0, .ref q8])), (q3, .inl (cy 4, 40, .inl (fun _ => 0))), (q4, .inl (cy 0, 41, .inl (fun _ => 0))), (q5, .inl (cy 0, 41, .inl (fun _ => 0))), (q6, .inl (cy 0, 41, .inl (fun _ => 0))), (q7, .inl (cy 6, 41, .inr (.inr (.inr (.inr (fun _ => none)))))), (q8, .inr (1, [.ref q9, .int 0, .int 0, .int 0])), (q9, .inl (cy 5, 16, .inl (fun _ => 0))), (q11, .inr (10, [.ref q12, .ref q13, .ref q17, .ref q19, .ref q20, .int 0, .ref q12, .int 0])), (q12, .inr (12, [.int 0, .int 0, .double FP.dconst0, .ref (sa 0), .null])), (q13, .inr (2, [.ref q14, .ref q15])), (q14, .inl (cy 2, 65, .inl (fun _ => 0))), (q15, .inr (1, [.ref q16, .int 0, .int 0, .int 0])), (q16, .inl (cy 5, 16, .inl (fun _ => 0))), (q17, .inr (5, [.ref q18, .int 0, .int 0])), (q18, .inl (cy 9, 30, .inr (.inr (.inr (.inr (fun _ => none)))))), (q19, .inl (cy 0, 12, .inl (fun _ => 0))), (q20, .inl (cy 6, 12, .inr (.inr (.inr (.inr (fun _ => none)))))), (q22, .inl (cy 7, 40, .inr (.inr (.inr (.inr (fun _ => none)))))), (q23, .inl (cy 8, 5, .inr (.inr (.inr (.inr (fun _ => none)))))), (q24, .inl (cy 6, 30, .inr (.inr (.inr (.inr (fun _ => none))))))] H := hP
  have hD : va_D A [(a0, .inr (13, [.ref q1, .ref q11, .ref q22, .int 0, .ref q23, .int 0, .ref q24, .int 0, .null])), (q1, .inr (8, [.ref q2, .int 0, .int 0, .int 0])), (q2, .inr (6, [.ref q3, .int 0, .ref q4, .ref q5, .ref q6, .ref q7, .int 0, .ref q8])), (q3, .inl (cy 4, 40, .inl (fun _ => 0))), (q4, .inl (cy 0, 41, .inl (fun _ => 0))), (q5, .inl (cy 0, 41, .inl (fun _ => 0))), (q6, .inl (cy 0, 41, .inl (fun _ => 0))), (q7, .inl (cy 6, 41, .inr (.inr (.inr (.inr (fun _ => none)))))), (q8, .inr (1, [.ref q9, .int 0, .int 0, .int 0])), (q9, .inl (cy 5, 16, .inl (fun _ => 0))), (q11, .inr (10, [.ref q12, .ref q13, .ref q17, .ref q19, .ref q20, .int 0, .ref q12, .int 0])), (q12, .inr (12, [.int 0, .int 0, .double FP.dconst0, .ref (sa 0), .null])), (q13, .inr (2, [.ref q14, .ref q15])), (q14, .inl (cy 2, 65, .inl (fun _ => 0))), (q15, .inr (1, [.ref q16, .int 0, .int 0, .int 0])), (q16, .inl (cy 5, 16, .inl (fun _ => 0))), (q17, .inr (5, [.ref q18, .int 0, .int 0])), (q18, .inl (cy 9, 30, .inr (.inr (.inr (.inr (fun _ => none)))))), (q19, .inl (cy 0, 12, .inl (fun _ => 0))), (q20, .inl (cy 6, 12, .inr (.inr (.inr (.inr (fun _ => none)))))), (q22, .inl (cy 7, 40, .inr (.inr (.inr (.inr (fun _ => none)))))), (q23, .inl (cy 8, 5, .inr (.inr (.inr (.inr (fun _ => none)))))), (q24, .inl (cy 6, 30, .inr (.inr (.inr (.inr (fun _ => none))))))] := hD
  refine lv_aload_n hx hb dX11_init_52 rfl (lv_at hl 0 rfl) ?_
  have hPc := hP.sub (ws' := []) [] rfl
  have hDc := hD.sub (ws' := []) [] (by decide) rfl
  have hFc := va_free (wc := []) hD hS hA [] rfl
  refine va_callq (va_runS (As := []) (rest := [.ref a0]) ⟨hx, hb, hml, hown, hts⟩ (C_X10_ofNull_1 l D cy sz0 sa H.size) (va_cwS 0 hts gX11_init_X10_ofNull rfl rfl rfl (by decide +kernel) ⟨Nat.le_of_ble_eq_true rfl, Nat.le_of_ble_eq_true rfl⟩) ⟨PcW.blind, PcW.mk hE hS hAF hPc hDc⟩ rfl rfl hl.1 rfl (lv_room (Nat.le_of_ble_eq_true rfl)) dX11_init_53 ⟨Nat.le_of_ble_eq_true rfl, Nat.le_of_ble_eq_true rfl⟩) hS (fun q _ h => hFc q h) hFc (fun r_26 u t H1 locs ht hvm hw hB hz1 hk1 hS => ?_)
  obtain ⟨q25, rfl⟩ : ∃ z, z = u := ⟨_, rfl⟩
  obtain ⟨hP1, hD1⟩ := hB
  rw [ht] at hP1
  have hP1 : va_P D vwCl [(q25, .inr (12, [.int 0, .int 0, .double FP.dconst0, .ref (sa 0), .null]))] H1 := hP1
  obtain ⟨hP, hD⟩ := va_join (wr := [(a0, .inr (13, [.ref q1, .ref q11, .ref q22, .int 0, .ref q23, .int 0, .ref q24, .int 0, .null])), (q1, .inr (8, [.ref q2, .int 0, .int 0, .int 0])), (q2, .inr (6, [.ref q3, .int 0, .ref q4, .ref q5, .ref q6, .ref q7, .int 0, .ref q8])), (q3, .inl (cy 4, 40, .inl (fun _ => 0))), (q4, .inl (cy 0, 41, .inl (fun _ => 0))), (q5, .inl (cy 0, 41, .inl (fun _ => 0))), (q6, .inl (cy 0, 41, .inl (fun _ => 0))), (q7, .inl (cy 6, 41, .inr (.inr (.inr (.inr (fun _ => none)))))), (q8, .inr (1, [.ref q9, .int 0, .int 0, .int 0])), (q9, .inl (cy 5, 16, .inl (fun _ => 0))), (q11, .inr (10, [.ref q12, .ref q13, .ref q17, .ref q19, .ref q20, .int 0, .ref q12, .int 0])), (q12, .inr (12, [.int 0, .int 0, .double FP.dconst0, .ref (sa 0), .null])), (q13, .inr (2, [.ref q14, .ref q15])), (q14, .inl (cy 2, 65, .inl (fun _ => 0))), (q15, .inr (1, [.ref q16, .int 0, .int 0, .int 0])), (q16, .inl (cy 5, 16, .inl (fun _ => 0))), (q17, .inr (5, [.ref q18, .int 0, .int 0])), (q18, .inl (cy 9, 30, .inr (.inr (.inr (.inr (fun _ => none)))))), (q19, .inl (cy 0, 12, .inl (fun _ => 0))), (q20, .inl (cy 6, 12, .inr (.inr (.inr (.inr (fun _ => none)))))), (q22, .inl (cy 7, 40, .inr (.inr (.inr (.inr (fun _ => none)))))), (q23, .inl (cy 8, 5, .inr (.inr (.inr (.inr (fun _ => none)))))), (q24, .inl (cy 6, 30, .inr (.inr (.inr (.inr (fun _ => none))))))]) (w1 := [(q25, .inr (12, [.int 0, .int 0, .double FP.dconst0, .ref (sa 0), .null]))]) hP hD [] [0, 1, 2, 3, 4, 5, 6, 7, 8, 9, 10, 11, 12, 13, 14, 15, 16, 17, 18, 19, 20, 21, 22] rfl rfl (by decide) (by decide) hk1 hFc hP1 hD1
  clear hP1 hD1 hPc hDc hFc hk1 hz1
  generalize H1 = H at hP hS ⊢
  have hP : va_P D vwCl [(a0, .inr (13, [.ref q1, .ref q11, .ref q22, .int 0, .ref q23, .int 0, .ref q24, .int 0, .null])), (q1, .inr (8, [.ref q2, .int 0, .int 0, .int 0])), (q2, .inr (6, [.ref q3, .int 0, .ref q4, .ref q5, .ref q6, .ref q7, .int 0, .ref q8])), (q3, .inl (cy 4, 40, .inl (fun _ => 0))), (q4, .inl (cy 0, 41, .inl (fun _ => 0))), (q5, .inl (cy 0, 41, .inl (fun _ => 0))), (q6, .inl (cy 0, 41, .inl (fun _ => 0))), (q7, .inl (cy 6, 41, .inr (.inr (.inr (.inr (fun _ => none)))))), (q8, .inr (1, [.ref q9, .int 0, .int 0, .int 0])), (q9, .inl (cy 5, 16, .inl (fun _ => 0))), (q11, .inr (10, [.ref q12, .ref q13, .ref q17, .ref q19, .ref q20, .int 0, .ref q12, .int 0])), (q12, .inr (12, [.int 0, .int 0, .double FP.dconst0, .ref (sa 0), .null])), (q13, .inr (2, [.ref q14, .ref q15])), (q14, .inl (cy 2, 65, .inl (fun _ => 0))), (q15, .inr (1, [.ref q16, .int 0, .int 0, .int 0])), (q16, .inl (cy 5, 16, .inl (fun _ => 0))), (q17, .inr (5, [.ref q18, .int 0, .int 0])), (q18, .inl (cy 9, 30, .inr (.inr (.inr (.inr (fun _ => none)))))), (q19, .inl (cy 0, 12, .inl (fun _ => 0))), (q20, .inl (cy 6, 12, .inr (.inr (.inr (.inr (fun _ => none)))))), (q22, .inl (cy 7, 40, .inr (.inr (.inr (.inr (fun _ => none)))))), (q23, .inl (cy 8, 5, .inr (.inr (.inr (.inr (fun _ => none)))))), (q24, .inl (cy 6, 30, .inr (.inr (.inr (.inr (fun _ => none)))))), (q25, .inr (12, [.int 0, .int 0, .double FP.dconst0, .ref (sa 0), .null]))] H := hP
  have hD : va_D A [(a0, .inr (13, [.ref q1, .ref q11, .ref q22, .int 0, .ref q23, .int 0, .ref q24, .int 0, .null])), (q1, .inr (8, [.ref q2, .int 0, .int 0, .int 0])), (q2, .inr (6, [.ref q3, .int 0, .ref q4, .ref q5, .ref q6, .ref q7, .int 0, .ref q8])), (q3, .inl (cy 4, 40, .inl (fun _ => 0))), (q4, .inl (cy 0, 41, .inl (fun _ => 0))), (q5, .inl (cy 0, 41, .inl (fun _ => 0))), (q6, .inl (cy 0, 41, .inl (fun _ => 0))), (q7, .inl (cy 6, 41, .inr (.inr (.inr (.inr (fun _ => none)))))), (q8, .inr (1, [.ref q9, .int 0, .int 0, .int 0])), (q9, .inl (cy 5, 16, .inl (fun _ => 0))), (q11, .inr (10, [.ref q12, .ref q13, .ref q17, .ref q19, .ref q20, .int 0, .ref q12, .int 0])), (q12, .inr (12, [.int 0, .int 0, .double FP.dconst0, .ref (sa 0), .null])), (q13, .inr (2, [.ref q14, .ref q15])), (q14, .inl (cy 2, 65, .inl (fun _ => 0))), (q15, .inr (1, [.ref q16, .int 0, .int 0, .int 0])), (q16, .inl (cy 5, 16, .inl (fun _ => 0))), (q17, .inr (5, [.ref q18, .int 0, .int 0])), (q18, .inl (cy 9, 30, .inr (.inr (.inr (.inr (fun _ => none)))))), (q19, .inl (cy 0, 12, .inl (fun _ => 0))), (q20, .inl (cy 6, 12, .inr (.inr (.inr (.inr (fun _ => none)))))), (q22, .inl (cy 7, 40, .inr (.inr (.inr (.inr (fun _ => none)))))), (q23, .inl (cy 8, 5, .inr (.inr (.inr (.inr (fun _ => none)))))), (q24, .inl (cy 6, 30, .inr (.inr (.inr (.inr (fun _ => none)))))), (q25, .inr (12, [.int 0, .int 0, .double FP.dconst0, .ref (sa 0), .null]))] := hD
  refine W.widen (k := 23) (n := 473) (Nat.le_of_ble_eq_true rfl) (Nat.le_of_ble_eq_true rfl) ?_
  obtain rfl : r_26 = some q25 := hw
  refine W.eq (g2 := F0 m 56 ls [.ref q25, .ref a0]) rfl ?_
  refine va_put (D := D) (ci := 13) (v := .ref q25) (ty := .object "PhraseDesk$Value") (C := RX11) (T := TX11) (N := 9) hx hb hts (fun _ h => List.mem_cons_of_mem _ (List.mem_append_left _ (List.mem_append_left _ (List.mem_append_left _ (List.mem_append_left _ (List.mem_append_left _ (List.mem_append_left _ (List.mem_append_right _ h)))))))) tyX11 tyX11_ok nmX11 hown hK hP hD hS 0 rfl rfl 8 (by decide) (hts (.fieldLink RX11 45 "PhraseDesk" "latest" "LPhraseDesk$Value;") (List.mem_of_getElem? (i := 18) rfl)) (fun _ h9 => h9) rfl (by decide +kernel) rfl rfl (Nat.le_of_ble_eq_true rfl) dX11_init_56 (fun H locs hP hD hS => ?_)
  have hP : va_P D vwCl [(a0, .inr (13, [.ref q1, .ref q11, .ref q22, .int 0, .ref q23, .int 0, .ref q24, .int 0, .ref q25])), (q1, .inr (8, [.ref q2, .int 0, .int 0, .int 0])), (q2, .inr (6, [.ref q3, .int 0, .ref q4, .ref q5, .ref q6, .ref q7, .int 0, .ref q8])), (q3, .inl (cy 4, 40, .inl (fun _ => 0))), (q4, .inl (cy 0, 41, .inl (fun _ => 0))), (q5, .inl (cy 0, 41, .inl (fun _ => 0))), (q6, .inl (cy 0, 41, .inl (fun _ => 0))), (q7, .inl (cy 6, 41, .inr (.inr (.inr (.inr (fun _ => none)))))), (q8, .inr (1, [.ref q9, .int 0, .int 0, .int 0])), (q9, .inl (cy 5, 16, .inl (fun _ => 0))), (q11, .inr (10, [.ref q12, .ref q13, .ref q17, .ref q19, .ref q20, .int 0, .ref q12, .int 0])), (q12, .inr (12, [.int 0, .int 0, .double FP.dconst0, .ref (sa 0), .null])), (q13, .inr (2, [.ref q14, .ref q15])), (q14, .inl (cy 2, 65, .inl (fun _ => 0))), (q15, .inr (1, [.ref q16, .int 0, .int 0, .int 0])), (q16, .inl (cy 5, 16, .inl (fun _ => 0))), (q17, .inr (5, [.ref q18, .int 0, .int 0])), (q18, .inl (cy 9, 30, .inr (.inr (.inr (.inr (fun _ => none)))))), (q19, .inl (cy 0, 12, .inl (fun _ => 0))), (q20, .inl (cy 6, 12, .inr (.inr (.inr (.inr (fun _ => none)))))), (q22, .inl (cy 7, 40, .inr (.inr (.inr (.inr (fun _ => none)))))), (q23, .inl (cy 8, 5, .inr (.inr (.inr (.inr (fun _ => none)))))), (q24, .inl (cy 6, 30, .inr (.inr (.inr (.inr (fun _ => none)))))), (q25, .inr (12, [.int 0, .int 0, .double FP.dconst0, .ref (sa 0), .null]))] H := hP
  have hD : va_D A [(a0, .inr (13, [.ref q1, .ref q11, .ref q22, .int 0, .ref q23, .int 0, .ref q24, .int 0, .ref q25])), (q1, .inr (8, [.ref q2, .int 0, .int 0, .int 0])), (q2, .inr (6, [.ref q3, .int 0, .ref q4, .ref q5, .ref q6, .ref q7, .int 0, .ref q8])), (q3, .inl (cy 4, 40, .inl (fun _ => 0))), (q4, .inl (cy 0, 41, .inl (fun _ => 0))), (q5, .inl (cy 0, 41, .inl (fun _ => 0))), (q6, .inl (cy 0, 41, .inl (fun _ => 0))), (q7, .inl (cy 6, 41, .inr (.inr (.inr (.inr (fun _ => none)))))), (q8, .inr (1, [.ref q9, .int 0, .int 0, .int 0])), (q9, .inl (cy 5, 16, .inl (fun _ => 0))), (q11, .inr (10, [.ref q12, .ref q13, .ref q17, .ref q19, .ref q20, .int 0, .ref q12, .int 0])), (q12, .inr (12, [.int 0, .int 0, .double FP.dconst0, .ref (sa 0), .null])), (q13, .inr (2, [.ref q14, .ref q15])), (q14, .inl (cy 2, 65, .inl (fun _ => 0))), (q15, .inr (1, [.ref q16, .int 0, .int 0, .int 0])), (q16, .inl (cy 5, 16, .inl (fun _ => 0))), (q17, .inr (5, [.ref q18, .int 0, .int 0])), (q18, .inl (cy 9, 30, .inr (.inr (.inr (.inr (fun _ => none)))))), (q19, .inl (cy 0, 12, .inl (fun _ => 0))), (q20, .inl (cy 6, 12, .inr (.inr (.inr (.inr (fun _ => none)))))), (q22, .inl (cy 7, 40, .inr (.inr (.inr (.inr (fun _ => none)))))), (q23, .inl (cy 8, 5, .inr (.inr (.inr (.inr (fun _ => none)))))), (q24, .inl (cy 6, 30, .inr (.inr (.inr (.inr (fun _ => none)))))), (q25, .inr (12, [.int 0, .int 0, .double FP.dconst0, .ref (sa 0), .null]))] := hD
  refine W.widen (k := 23) (n := 473) (Nat.le_of_ble_eq_true rfl) (Nat.le_of_ble_eq_true rfl) ?_
  have hP9 := hP.sub (ws' := [(a0, .inr (13, [.ref q1, .ref q11, .ref q22, .int 0, .ref q23, .int 0, .ref q24, .int 0, .ref q25])), (q1, .inr (8, [.ref q2, .int 0, .int 0, .int 0])), (q2, .inr (6, [.ref q3, .int 0, .ref q4, .ref q5, .ref q6, .ref q7, .int 0, .ref q8])), (q3, .inl (cy 4, 40, .inl (fun _ => 0))), (q4, .inl (cy 0, 41, .inl (fun _ => 0))), (q5, .inl (cy 0, 41, .inl (fun _ => 0))), (q6, .inl (cy 0, 41, .inl (fun _ => 0))), (q7, .inl (cy 6, 41, .inr (.inr (.inr (.inr (fun _ => none)))))), (q8, .inr (1, [.ref q9, .int 0, .int 0, .int 0])), (q9, .inl (cy 5, 16, .inl (fun _ => 0))), (q11, .inr (10, [.ref q12, .ref q13, .ref q17, .ref q19, .ref q20, .int 0, .ref q12, .int 0])), (q12, .inr (12, [.int 0, .int 0, .double FP.dconst0, .ref (sa 0), .null])), (q13, .inr (2, [.ref q14, .ref q15])), (q14, .inl (cy 2, 65, .inl (fun _ => 0))), (q15, .inr (1, [.ref q16, .int 0, .int 0, .int 0])), (q16, .inl (cy 5, 16, .inl (fun _ => 0))), (q17, .inr (5, [.ref q18, .int 0, .int 0])), (q18, .inl (cy 9, 30, .inr (.inr (.inr (.inr (fun _ => none)))))), (q19, .inl (cy 0, 12, .inl (fun _ => 0))), (q20, .inl (cy 6, 12, .inr (.inr (.inr (.inr (fun _ => none)))))), (q22, .inl (cy 7, 40, .inr (.inr (.inr (.inr (fun _ => none)))))), (q23, .inl (cy 8, 5, .inr (.inr (.inr (.inr (fun _ => none)))))), (q24, .inl (cy 6, 30, .inr (.inr (.inr (.inr (fun _ => none)))))), (q25, .inr (12, [.int 0, .int 0, .double FP.dconst0, .ref (sa 0), .null]))]) [0, 1, 2, 3, 4, 5, 6, 7, 8, 9, 10, 11, 12, 13, 14, 15, 16, 17, 18, 19, 20, 21, 22, 23] rfl
  have hD9 := hD.sub (ws' := [(a0, .inr (13, [.ref q1, .ref q11, .ref q22, .int 0, .ref q23, .int 0, .ref q24, .int 0, .ref q25])), (q1, .inr (8, [.ref q2, .int 0, .int 0, .int 0])), (q2, .inr (6, [.ref q3, .int 0, .ref q4, .ref q5, .ref q6, .ref q7, .int 0, .ref q8])), (q3, .inl (cy 4, 40, .inl (fun _ => 0))), (q4, .inl (cy 0, 41, .inl (fun _ => 0))), (q5, .inl (cy 0, 41, .inl (fun _ => 0))), (q6, .inl (cy 0, 41, .inl (fun _ => 0))), (q7, .inl (cy 6, 41, .inr (.inr (.inr (.inr (fun _ => none)))))), (q8, .inr (1, [.ref q9, .int 0, .int 0, .int 0])), (q9, .inl (cy 5, 16, .inl (fun _ => 0))), (q11, .inr (10, [.ref q12, .ref q13, .ref q17, .ref q19, .ref q20, .int 0, .ref q12, .int 0])), (q12, .inr (12, [.int 0, .int 0, .double FP.dconst0, .ref (sa 0), .null])), (q13, .inr (2, [.ref q14, .ref q15])), (q14, .inl (cy 2, 65, .inl (fun _ => 0))), (q15, .inr (1, [.ref q16, .int 0, .int 0, .int 0])), (q16, .inl (cy 5, 16, .inl (fun _ => 0))), (q17, .inr (5, [.ref q18, .int 0, .int 0])), (q18, .inl (cy 9, 30, .inr (.inr (.inr (.inr (fun _ => none)))))), (q19, .inl (cy 0, 12, .inl (fun _ => 0))), (q20, .inl (cy 6, 12, .inr (.inr (.inr (.inr (fun _ => none)))))), (q22, .inl (cy 7, 40, .inr (.inr (.inr (.inr (fun _ => none)))))), (q23, .inl (cy 8, 5, .inr (.inr (.inr (.inr (fun _ => none)))))), (q24, .inl (cy 6, 30, .inr (.inr (.inr (.inr (fun _ => none)))))), (q25, .inr (12, [.int 0, .int 0, .double FP.dconst0, .ref (sa 0), .null]))]) [0, 1, 2, 3, 4, 5, 6, 7, 8, 9, 10, 11, 12, 13, 14, 15, 16, 17, 18, 19, 20, 21, 22, 23] (by decide) rfl
  exact W.vret hx hb hr (fun t ht hW => ⟨⟨(), rfl, trivial, ⟨q1, q2, q3, q4, q5, q6, q7, q8, q9, q11, q12, q13, q14, q15, q16, q17, q18, q19, q20, q22, q23, q24, q25, by rw [ht]; exact hP9, hD9⟩⟩, hS.F ht⟩) hS.2.2 dX11_init_59
