def wq_X11_familyAt_10 : List Cond := [.code yX11_familyAt cX11_familyAt 2 (some (.object "PhraseDesk$Family")), .fieldLink RX11 96 "PhraseDesk" "familyCount" "I"]
def wq_X11_familyAt_1 : List Cond := wq_X11_familyAt_10 ++ wsX110
set_option maxHeartbeats 4000000 in
set_option maxRecDepth 100000 in
theorem C_X11_familyAt_1 (l : Launch) (D : va_G) (cy : Nat → ClassId) (sz0 : Nat) (sa : Nat → Nat) (a0 a1 a2 a3 a4 a5 a6 : Nat) (sz : Nat) (k0 : Int32) : Met l yX11_familyAt wq_X11_familyAt_1 ({ frames := 0, cells := 0, slots := 0, locals := 0 }) (PcW D cy sz0 sa [.ref a0, .int k0] [(a0, .inr (13, [.ref a1, .ref a2, .ref a3, .int 0, .ref a4, .int 0, .ref a5, .int 0, .ref a6]))] sz) (va_Qq (fun (r : Option Nat) (u : Unit) => r = none) (fun (u : Unit) (t : State) => BW D [(a0, .inr (13, [.ref a1, .ref a2, .ref a3, .int 0, .ref a4, .int 0, .ref a5, .int 0, .ref a6]))] (va_A [(a0, .inr (13, [.ref a1, .ref a2, .ref a3, .int 0, .ref a4, .int 0, .ref a5, .int 0, .ref a6]))] sz) t) (va_A [(a0, .inr (13, [.ref a1, .ref a2, .ref a3, .int 0, .ref a4, .int 0, .ref a5, .int 0, .ref a6]))] sz)) 0 0 (va_A [(a0, .inr (13, [.ref a1, .ref a2, .ref a3, .int 0, .ref a4, .int 0, .ref a5, .int 0, .ref a6]))] sz) := by
  refine Met.ofW (cc := cX11_familyAt) (maxL := 2) (ret := (some (.object "PhraseDesk$Family"))) (by decide) rfl ?_
  intro p e s m args below meth c s₁ B hml hv
  obtain ⟨rfl, hsz, hP, hD0, hE⟩ := hv
  have hx := B.exec
  have hb := B.bytes
  have hr := B.returns
  have hts := atoms_spec (ws := wq_X11_familyAt_1) B.pre
  have hown : s.vm.findClass RX11 = some m.cls := findClass_of_methodNamed B.named
  have hlocks := B.notSynchronized
  subst hsz
  have hK := hE.1
  have hAm := hE.2.2.1
  have hWm := hE.2.2.2
  have hAO := hWm.2.2.2.1
  have hD := hD0.self (sz := s.heap.size)
  have hAF := frA hD0 hE.2.1
  generalize hAe : va_A [(a0, .inr (13, [.ref a1, .ref a2, .ref a3, .int 0, .ref a4, .int 0, .ref a5, .int 0, .ref a6]))] s.heap.size = A at hD hAF ⊢
  have hA : ∀ q : Nat, s.heap.size ≤ q → A q := fun q h => by rw [← hAe]; exact Or.inr h
  have hS : va_S A s.heap s.heap [] := va_S.rf
  have hl := lv_entry ([.ref a0, .int k0]) (n := 2) (Nat.le_of_ble_eq_true rfl)
  rw [lg_entry_eq]
  generalize (lg_sl ([.ref a0, .int k0]) ++ List.replicate (2 - (lg_sl ([.ref a0, .int k0])).length) Slot.unset).toArray = ls at hl ⊢
  have hl : lv_has ls 2 [(0, .ref a0), (1, .int k0)] := hl
  have hP : va_P D vwCl [(a0, .inr (13, [.ref a1, .ref a2, .ref a3, .int 0, .ref a4, .int 0, .ref a5, .int 0, .ref a6]))] s.heap := hP
  have z0 : (0 : Int32).toInt = 0 := by decide +kernel
  refine lv_iload_n hx hb dX11_familyAt_0 rfl (lv_at hl 1 rfl) ?_
  refine lv_if_lt (tgt := 30) hx hb dX11_familyAt_1 (by decide) (fun c1 => ?_) (fun c1 => ?_)
  · have c1 := z_lt c1
    refine lv_null hx hb dX11_familyAt_30 ?_
    refine W.widen (k := 0) (n := 0) (Nat.le_of_ble_eq_true rfl) (Nat.le_of_ble_eq_true rfl) ?_
    have hP9 := hP.sub (ws' := [(a0, .inr (13, [.ref a1, .ref a2, .ref a3, .int 0, .ref a4, .int 0, .ref a5, .int 0, .ref a6]))]) [0] rfl
    have hD9 := hD.sub (ws' := [(a0, .inr (13, [.ref a1, .ref a2, .ref a3, .int 0, .ref a4, .int 0, .ref a5, .int 0, .ref a6]))]) [0] (by decide) rfl
    exact W.aret (v := .null) hx hb hr (Or.inl ⟨_, rfl⟩) (Or.inl rfl) (fun t ht hW => ⟨⟨none, (), rfl, rfl, ⟨by rw [ht]; exact hP9, hD9⟩⟩, hS.F ht⟩) hS.2.2 dX11_familyAt_31
  · have c1 := z_nlt c1
    refine lv_iload_n hx hb dX11_familyAt_4 rfl (lv_at hl 1 rfl) ?_
    refine lv_aload_n hx hb dX11_familyAt_5 rfl (lv_at hl 0 rfl) ?_
    refine va_get (D := D) (ci := 13) (v := .int 0) (C := RX11) (T := TX11) (N := 9) hx hb hts (fun _ h => (List.mem_append_right _ h)) hown hK hP 0 rfl rfl 5 (by decide) (hts (.fieldLink RX11 96 "PhraseDesk" "familyCount" "I") (List.mem_of_getElem? (i := 1) rfl)) (fun _ h9 => h9) rfl dX11_familyAt_6 ?_
    refine lv_icmp_ge (tgt := 30) hx hb dX11_familyAt_9 (by decide) (fun c2 => ?_) (fun c2 => ?_)
    · have c2 := z_le c2
      refine lv_null hx hb dX11_familyAt_30 ?_
      refine W.widen (k := 0) (n := 0) (Nat.le_of_ble_eq_true rfl) (Nat.le_of_ble_eq_true rfl) ?_
      have hP9 := hP.sub (ws' := [(a0, .inr (13, [.ref a1, .ref a2, .ref a3, .int 0, .ref a4, .int 0, .ref a5, .int 0, .ref a6]))]) [0] rfl
      have hD9 := hD.sub (ws' := [(a0, .inr (13, [.ref a1, .ref a2, .ref a3, .int 0, .ref a4, .int 0, .ref a5, .int 0, .ref a6]))]) [0] (by decide) rfl
      exact W.aret (v := .null) hx hb hr (Or.inl ⟨_, rfl⟩) (Or.inl rfl) (fun t ht hW => ⟨⟨none, (), rfl, rfl, ⟨by rw [ht]; exact hP9, hD9⟩⟩, hS.F ht⟩) hS.2.2 dX11_familyAt_31
    · have c2 := z_nle c2
      exfalso
      omega

def wq_X1_init_10 : List Cond := [.code yX1_init cX1_init 3 none, .methodLink RX1 3 objectInit, .instanceMethod objectInit, .code objectInit ⟨#[0xb1]⟩ 1 none, .fieldLink RX1 9 "PhraseDesk$Family" "number" "I", .fieldLink RX1 15 "PhraseDesk$Family" "kind" "I", .fieldLink RX1 18 "PhraseDesk$Family" "parent" "LPhraseDesk$Family;", .classLink RX1 22 RX2, .fieldLink RX1 24 "PhraseDesk$Family" "fields" "[LPhraseDesk$Field;", .classLink RX1 28 RX7, .fieldLink RX1 30 "PhraseDesk$Family" "routines" "[LPhraseDesk$Routine;"]
def wq_X1_init_1 : List Cond := wq_X1_init_10 ++ wsX10
set_option maxHeartbeats 4000000 in
set_option maxRecDepth 100000 in
theorem C_X1_init_1 (l : Launch) (D : va_G) (cy : Nat → ClassId) (sz0 : Nat) (sa : Nat → Nat) (a0 : Nat) (sz : Nat)  : Met l yX1_init wq_X1_init_1 ({ frames := 1, cells := 2, slots := 12, locals := 20 }) (PcW D cy sz0 sa [.ref a0, .int 0, .null] [(a0, .inr (3, [.int 0, .int 0, .null, .null, .int 0, .null, .int 0]))] sz) (va_Qv (fun (u : Unit) => True) (fun (u : Unit) (t : State) => ∃ (n0 n1 : Nat), BW D [(a0, .inr (3, [.int 0, .int 8, .null, .ref n0, .int 0, .ref n1, .int 0])), (n0, .inl (cy 10, 6, .inr (.inr (.inr (.inr (fun _ => none)))))), (n1, .inl (cy 9, 6, .inr (.inr (.inr (.inr (fun _ => none))))))] (va_A [(a0, .inr (3, [.int 0, .int 0, .null, .null, .int 0, .null, .int 0]))] sz) t) (va_A [(a0, .inr (3, [.int 0, .int 0, .null, .null, .int 0, .null, .int 0]))] sz)) 2 12 (va_A [(a0, .inr (3, [.int 0, .int 0, .null, .null, .int 0, .null, .int 0]))] sz) := by
  refine Met.ofW (cc := cX1_init) (maxL := 3) (ret := none) (by decide) rfl ?_
  intro p e s m args below meth c s₁ B hml hv
  obtain ⟨rfl, hsz, hP, hD0, hE⟩ := hv
  have hx := B.exec
  have hb := B.bytes
  have hr := B.returns
  have hts := atoms_spec (ws := wq_X1_init_1) B.pre
  have hown : s.vm.findClass RX1 = some m.cls := findClass_of_methodNamed B.named
  have hlocks := B.notSynchronized
  have hin : meth.name = "<init>" := (name_of_methodNamed B.named B.method).1
  subst hsz
  have hK := hE.1
  have hAm := hE.2.2.1
  have hWm := hE.2.2.2
  have hAO := hWm.2.2.2.1
  have hD := hD0.self (sz := s.heap.size)
  have hAF := frA hD0 hE.2.1
  generalize hAe : va_A [(a0, .inr (3, [.int 0, .int 0, .null, .null, .int 0, .null, .int 0]))] s.heap.size = A at hD hAF ⊢
  have hA : ∀ q : Nat, s.heap.size ≤ q → A q := fun q h => by rw [← hAe]; exact Or.inr h
  have hS : va_S A s.heap s.heap [] := va_S.rf
  have hl := lv_entry ([.ref a0, .int 0, .null]) (n := 3) (Nat.le_of_ble_eq_true rfl)
  rw [lg_entry_eq]
  generalize (lg_sl ([.ref a0, .int 0, .null]) ++ List.replicate (3 - (lg_sl ([.ref a0, .int 0, .null])).length) Slot.unset).toArray = ls at hl ⊢
  have hl : lv_has ls 3 [(0, .ref a0), (1, .int 0), (2, .null)] := hl
  have hP : va_P D vwCl [(a0, .inr (3, [.int 0, .int 0, .null, .null, .int 0, .null, .int 0]))] s.heap := hP
  refine lv_aload_n hx hb dX1_init_0 rfl (lv_at hl 0 rfl) ?_
  refine W.objInit hx hb hown (hts (.methodLink RX1 3 objectInit) (List.mem_of_getElem? (i := 1) rfl)) (hts (.instanceMethod objectInit) (List.mem_of_getElem? (i := 2) rfl)) (hts (.code objectInit ⟨#[0xb1]⟩ 1 none) (List.mem_of_getElem? (i := 3) rfl)) rfl (by rw [hml]; exact hl.1) rfl dX1_init_1 (Nat.le_of_ble_eq_true rfl) (Nat.le_of_ble_eq_true rfl) ?_
  refine W.eq (g2 := F0 m 4 ls []) rfl ?_
  refine lv_aload_n hx hb dX1_init_4 rfl (lv_at hl 0 rfl) ?_
  refine lv_iload_n hx hb dX1_init_5 rfl (lv_at hl 1 rfl) ?_
  refine va_putF (D := D) (ci := 3) (v := .int 0) (ty := .int) (C := RX1) (T := TX1) (N := 7) hx hb hts (fun _ h => (List.mem_append_right _ h)) tyX1 tyX1_ok nmX1 hown hK hP hD hS 0 rfl rfl 0 (by decide) (hts (.fieldLink RX1 9 "PhraseDesk$Family" "number" "I") (List.mem_of_getElem? (i := 4) rfl)) (fun _ h9 => h9) rfl hin rfl (by decide +kernel) rfl rfl (Nat.le_of_ble_eq_true rfl) dX1_init_6 (fun H locs hP hD hS => ?_)
  have hP : va_P D vwCl [(a0, .inr (3, [.int 0, .int 0, .null, .null, .int 0, .null, .int 0]))] H := hP
  have hD : va_D A [(a0, .inr (3, [.int 0, .int 0, .null, .null, .int 0, .null, .int 0]))] := hD
  refine lv_aload_n hx hb dX1_init_9 rfl (lv_at hl 0 rfl) ?_
  refine lv_bipush (v := 8) hx hb dX1_init_10 (by decide +kernel) ?_
  refine lv_iload_n hx hb dX1_init_12 rfl (lv_at hl 1 rfl) ?_
  refine lv_iadd hx hb dX1_init_13 ?_
  refine lv_topi (fun x1 ex1 => ?_)
  obtain rfl : x1 = 8 := ex1.trans (by decide +kernel)
  refine va_putF (D := D) (ci := 3) (v := .int 8) (ty := .int) (C := RX1) (T := TX1) (N := 7) hx hb hts (fun _ h => (List.mem_append_right _ h)) tyX1 tyX1_ok nmX1 hown hK hP hD hS 0 rfl rfl 1 (by decide) (hts (.fieldLink RX1 15 "PhraseDesk$Family" "kind" "I") (List.mem_of_getElem? (i := 5) rfl)) (fun _ h9 => h9) rfl hin rfl (by decide +kernel) rfl rfl (Nat.le_of_ble_eq_true rfl) dX1_init_14 (fun H locs hP hD hS => ?_)
  have hP : va_P D vwCl [(a0, .inr (3, [.int 0, .int 8, .null, .null, .int 0, .null, .int 0]))] H := hP
  have hD : va_D A [(a0, .inr (3, [.int 0, .int 8, .null, .null, .int 0, .null, .int 0]))] := hD
  refine lv_aload_n hx hb dX1_init_17 rfl (lv_at hl 0 rfl) ?_
  refine lv_aload_nN hx hb dX1_init_18 rfl (lv_at hl 2 rfl) ?_
  refine va_putF (D := D) (ci := 3) (v := .null) (ty := .object "PhraseDesk$Family") (C := RX1) (T := TX1) (N := 7) hx hb hts (fun _ h => (List.mem_append_right _ h)) tyX1 tyX1_ok nmX1 hown hK hP hD hS 0 rfl rfl 2 (by decide) (hts (.fieldLink RX1 18 "PhraseDesk$Family" "parent" "LPhraseDesk$Family;") (List.mem_of_getElem? (i := 6) rfl)) (fun _ h9 => h9) rfl hin rfl (by decide +kernel) rfl rfl (Nat.le_of_ble_eq_true rfl) dX1_init_19 (fun H locs hP hD hS => ?_)
  have hP : va_P D vwCl [(a0, .inr (3, [.int 0, .int 8, .null, .null, .int 0, .null, .int 0]))] H := hP
  have hD : va_D A [(a0, .inr (3, [.int 0, .int 8, .null, .null, .int 0, .null, .int 0]))] := hD
  refine lv_aload_n hx hb dX1_init_22 rfl (lv_at hl 0 rfl) ?_
  refine lv_bipush (v := 6) hx hb dX1_init_23 (by decide +kernel) ?_
  refine g_newq (C := "PhraseDesk$Field") hx hb hown (hts (.classLink RX1 22 RX2) (List.mem_of_getElem? (i := 7) rfl)) hAO.2.2.2.2 hK hP hD hS hA 10 rfl (N' := 6) (by decide +kernel) (by decide +kernel) (by decide +kernel) (Nat.le_of_ble_eq_true rfl) (Nat.le_of_ble_eq_true rfl) dX1_init_25 (fun q2 H hP hD hS => ?_)
  have hP : va_P D vwCl [(a0, .inr (3, [.int 0, .int 8, .null, .null, .int 0, .null, .int 0])), (q2, .inl (cy 10, 6, .inr (.inr (.inr (.inr (fun _ => none))))))] H := hP
  have hD : va_D A [(a0, .inr (3, [.int 0, .int 8, .null, .null, .int 0, .null, .int 0])), (q2, .inl (cy 10, 6, .inr (.inr (.inr (.inr (fun _ => none))))))] := hD
  refine W.widen (k := 1) (n := 6) (Nat.le_of_ble_eq_true rfl) (Nat.le_of_ble_eq_true rfl) ?_
  refine va_putF (D := D) (ci := 3) (v := .ref q2) (ty := .array (.object "PhraseDesk$Field")) (C := RX1) (T := TX1) (N := 7) hx hb hts (fun _ h => (List.mem_append_right _ h)) tyX1 tyX1_ok nmX1 hown hK hP hD hS 0 rfl rfl 3 (by decide) (hts (.fieldLink RX1 24 "PhraseDesk$Family" "fields" "[LPhraseDesk$Field;") (List.mem_of_getElem? (i := 8) rfl)) (fun _ h9 => h9) rfl hin rfl (by decide +kernel) rfl rfl (Nat.le_of_ble_eq_true rfl) dX1_init_28 (fun H locs hP hD hS => ?_)
  have hP : va_P D vwCl [(a0, .inr (3, [.int 0, .int 8, .null, .ref q2, .int 0, .null, .int 0])), (q2, .inl (cy 10, 6, .inr (.inr (.inr (.inr (fun _ => none))))))] H := hP
  have hD : va_D A [(a0, .inr (3, [.int 0, .int 8, .null, .ref q2, .int 0, .null, .int 0])), (q2, .inl (cy 10, 6, .inr (.inr (.inr (.inr (fun _ => none))))))] := hD
  refine lv_aload_n hx hb dX1_init_31 rfl (lv_at hl 0 rfl) ?_
  refine lv_bipush (v := 6) hx hb dX1_init_32 (by decide +kernel) ?_
  refine g_newq (C := "PhraseDesk$Routine") hx hb hown (hts (.classLink RX1 28 RX7) (List.mem_of_getElem? (i := 9) rfl)) hAO.2.2.2.1 hK hP hD hS hA 9 rfl (N' := 6) (by decide +kernel) (by decide +kernel) (by decide +kernel) (Nat.le_of_ble_eq_true rfl) (Nat.le_of_ble_eq_true rfl) dX1_init_34 (fun q3 H hP hD hS => ?_)
  have hP : va_P D vwCl [(a0, .inr (3, [.int 0, .int 8, .null, .ref q2, .int 0, .null, .int 0])), (q2, .inl (cy 10, 6, .inr (.inr (.inr (.inr (fun _ => none)))))), (q3, .inl (cy 9, 6, .inr (.inr (.inr (.inr (fun _ => none))))))] H := hP
  have hD : va_D A [(a0, .inr (3, [.int 0, .int 8, .null, .ref q2, .int 0, .null, .int 0])), (q2, .inl (cy 10, 6, .inr (.inr (.inr (.inr (fun _ => none)))))), (q3, .inl (cy 9, 6, .inr (.inr (.inr (.inr (fun _ => none))))))] := hD
  refine W.widen (k := 2) (n := 12) (Nat.le_of_ble_eq_true rfl) (Nat.le_of_ble_eq_true rfl) ?_
  refine va_putF (D := D) (ci := 3) (v := .ref q3) (ty := .array (.object "PhraseDesk$Routine")) (C := RX1) (T := TX1) (N := 7) hx hb hts (fun _ h => (List.mem_append_right _ h)) tyX1 tyX1_ok nmX1 hown hK hP hD hS 0 rfl rfl 5 (by decide) (hts (.fieldLink RX1 30 "PhraseDesk$Family" "routines" "[LPhraseDesk$Routine;") (List.mem_of_getElem? (i := 10) rfl)) (fun _ h9 => h9) rfl hin rfl (by decide +kernel) rfl rfl (Nat.le_of_ble_eq_true rfl) dX1_init_37 (fun H locs hP hD hS => ?_)
  have hP : va_P D vwCl [(a0, .inr (3, [.int 0, .int 8, .null, .ref q2, .int 0, .ref q3, .int 0])), (q2, .inl (cy 10, 6, .inr (.inr (.inr (.inr (fun _ => none)))))), (q3, .inl (cy 9, 6, .inr (.inr (.inr (.inr (fun _ => none))))))] H := hP
  have hD : va_D A [(a0, .inr (3, [.int 0, .int 8, .null, .ref q2, .int 0, .ref q3, .int 0])), (q2, .inl (cy 10, 6, .inr (.inr (.inr (.inr (fun _ => none)))))), (q3, .inl (cy 9, 6, .inr (.inr (.inr (.inr (fun _ => none))))))] := hD
  refine W.widen (k := 2) (n := 12) (Nat.le_of_ble_eq_true rfl) (Nat.le_of_ble_eq_true rfl) ?_
  have hP9 := hP.sub (ws' := [(a0, .inr (3, [.int 0, .int 8, .null, .ref q2, .int 0, .ref q3, .int 0])), (q2, .inl (cy 10, 6, .inr (.inr (.inr (.inr (fun _ => none)))))), (q3, .inl (cy 9, 6, .inr (.inr (.inr (.inr (fun _ => none))))))]) [0, 1, 2] rfl
  have hD9 := hD.sub (ws' := [(a0, .inr (3, [.int 0, .int 8, .null, .ref q2, .int 0, .ref q3, .int 0])), (q2, .inl (cy 10, 6, .inr (.inr (.inr (.inr (fun _ => none)))))), (q3, .inl (cy 9, 6, .inr (.inr (.inr (.inr (fun _ => none))))))]) [0, 1, 2] (by decide) rfl
  exact W.vret hx hb hr (fun t ht hW => ⟨⟨(), rfl, trivial, ⟨q2, q3, by rw [ht]; exact hP9, hD9⟩⟩, hS.F ht⟩) hS.2.2 dX1_init_40

def wq_X11_type_10 : List Cond := [.code yX11_type cX11_type 3 (some .int), .methodLink RX11 90 yX11_familyAt, .instanceMethod yX11_familyAt, .selects RX11 yX11_familyAt yX11_familyAt, .initialized RX11, .code yX11_familyAt cX11_familyAt 2 (some (.object "PhraseDesk$Family")), .fieldLink RX11 96 "PhraseDesk" "familyCount" "I", .fieldLink RX11 31 "PhraseDesk" "families" "[LPhraseDesk$Family;", .classLink RX11 29 RX1, .instantiable RX1 7, .initialized RX1, .code yX1_init cX1_init 3 none, .methodLink RX1 3 objectInit, .instanceMethod objectInit, .code objectInit ⟨#[0xb1]⟩ 1 none, .fieldLink RX1 9 "PhraseDesk$Family" "number" "I", .fieldLink RX1 15 "PhraseDesk$Family" "kind" "I", .fieldLink RX1 18 "PhraseDesk$Family" "parent" "LPhraseDesk$Family;", .classLink RX1 22 RX2, .fieldLink RX1 24 "PhraseDesk$Family" "fields" "[LPhraseDesk$Field;", .classLink RX1 28 RX7, .fieldLink RX1 30 "PhraseDesk$Family" "routines" "[LPhraseDesk$Routine;", .methodLink RX11 101 yX1_init, .instanceMethod yX1_init, .classLink RX11 49 "java/lang/IllegalArgumentException", .initialized "java/lang/IllegalArgumentException"]
def wq_X11_type_1 : List Cond := wq_X11_type_10 ++ wsX110 ++ wsX10 ++ (vx_atS RX11 53 tIAE tSup).filter goodWord
set_option maxHeartbeats 4000000 in
set_option maxRecDepth 100000 in
theorem C_X11_type_1 (l : Launch) (hfl : l.stackTraces = false) (D : va_G) (cy : Nat → ClassId) (sz0 : Nat) (sa : Nat → Nat) (a0 a1 a2 a3 a4 a5 a6 : Nat) (sz : Nat) (k0 : Int32) : vx_Met l yX11_type wq_X11_type_1 ({ frames := 6, cells := 3, slots := 19, locals := 82 }) (PcW D cy sz0 sa [.ref a0, .int k0] [(a0, .inr (13, [.ref a2, .ref a3, .ref a4, .int 0, .ref a1, .int 0, .ref a5, .int 0, .ref a6])), (a1, .inl (cy 8, 5, .inr (.inr (.inr (.inr (fun _ => none))))))] sz) (va_Qi (fun (r : Int32) (u : Unit) => r = 0 ∧ (k0.toInt = (-1))) (fun (_ : Unit) (_ : State) => True) (va_A [(a0, .inr (13, [.ref a2, .ref a3, .ref a4, .int 0, .ref a1, .int 0, .ref a5, .int 0, .ref a6])), (a1, .inl (cy 8, 5, .inr (.inr (.inr (.inr (fun _ => none))))))] sz)) (vx_X (fun _ : Unit => True) (fun (E : String) (_ : Unit) (_ : State) => E = tIAE ∧ ((¬ k0.toInt = (-1)))) (va_A [(a0, .inr (13, [.ref a2, .ref a3, .ref a4, .int 0, .ref a1, .int 0, .ref a5, .int 0, .ref a6])), (a1, .inl (cy 8, 5, .inr (.inr (.inr (.inr (fun _ => none))))))] sz)) 3 19 (va_A [(a0, .inr (13, [.ref a2, .ref a3, .ref a4, .int 0, .ref a1, .int 0, .ref a5, .int 0, .ref a6])), (a1, .inl (cy 8, 5, .inr (.inr (.inr (.inr (fun _ => none))))))] sz) := by
  refine vx_ofW (cc := cX11_type) (maxL := 3) (ret := (some .int)) (by decide) rfl ?_
  intro p e s m args below meth c s₁ B hml hout hv
  obtain ⟨rfl, hsz, hP, hD0, hE⟩ := hv
  have hx := B.exec
  have hb := B.bytes
  have hr := B.returns
  have hts := atoms_spec (ws := wq_X11_type_1) B.pre
  have hown : s.vm.findClass RX11 = some m.cls := findClass_of_methodNamed B.named
  have hlocks := B.notSynchronized
  subst hsz
  have hK := hE.1
  have hAm := hE.2.2.1
  have hWm := hE.2.2.2
  have hAO := hWm.2.2.2.1
  have hD := hD0.self (sz := s.heap.size)
  have hAF := frA hD0 hE.2.1
  generalize hAe : va_A [(a0, .inr (13, [.ref a2, .ref a3, .ref a4, .int 0, .ref a1, .int 0, .ref a5, .int 0, .ref a6])), (a1, .inl (cy 8, 5, .inr (.inr (.inr (.inr (fun _ => none))))))] s.heap.size = A at hD hAF ⊢
  have hA : ∀ q : Nat, s.heap.size ≤ q → A q := fun q h => by rw [← hAe]; exact Or.inr h
  have hS : va_S A s.heap s.heap [] := va_S.rf
  have hl := lv_entry ([.ref a0, .int k0]) (n := 3) (Nat.le_of_ble_eq_true rfl)
  rw [lg_entry_eq]
  generalize (lg_sl ([.ref a0, .int k0]) ++ List.replicate (3 - (lg_sl ([.ref a0, .int k0])).length) Slot.unset).toArray = ls at hl ⊢
  have hl : lv_has ls 3 [(0, .ref a0), (1, .int k0)] := hl
  have hP : va_P D vwCl [(a0, .inr (13, [.ref a2, .ref a3, .ref a4, .int 0, .ref a1, .int 0, .ref a5, .int 0, .ref a6])), (a1, .inl (cy 8, 5, .inr (.inr (.inr (.inr (fun _ => none))))))] s.heap := hP
  have zm1 : ((-1) : Int32).toInt = -1 := by decide +kernel
  refine lv_aload_n hx hb dX11_type_0 rfl (lv_at hl 0 rfl) ?_
  refine lv_iload_n hx hb dX11_type_1 rfl (lv_at hl 1 rfl) ?_
  have hPc := hP.sub (ws' := [(a0, .inr (13, [.ref a2, .ref a3, .ref a4, .int 0, .ref a1, .int 0, .ref a5, .int 0, .ref a6]))]) [0] rfl
  have hDc := hD.sub (ws' := [(a0, .inr (13, [.ref a2, .ref a3, .ref a4, .int 0, .ref a1, .int 0, .ref a5, .int 0, .ref a6]))]) [0] (by decide) rfl
  have hFc := va_free (wc := [(a0, .inr (13, [.ref a2, .ref a3, .ref a4, .int 0, .ref a1, .int 0, .ref a5, .int 0, .ref a6]))]) hD hS hA [0] rfl
  refine va_callq (va_runV (As := [.int k0]) (rest := []) ⟨hx, hb, hml, hown, hts⟩ (C_X11_familyAt_1 l D cy sz0 sa a0 a2 a3 a4 a1 a5 a6 s.heap.size k0) (cwV 1 hts (goodIn_app (goodIn_r _ [1, 2, 3, 4] rfl (by decide +kernel)) (goodIn_app (goodIn_r wq_X11_familyAt_10 [5, 6] rfl (by decide +kernel)) (goodIn_sub (fun _ h => (List.mem_append_left _ (List.mem_append_left _ (List.mem_append_right _ h)))) (by decide +kernel)))) rfl rfl rfl (by decide +kernel) ⟨Nat.le_of_ble_eq_true rfl, Nat.le_of_ble_eq_true rfl⟩) ⟨PcW.blind, va_recv hK hPc (ci := 13) (q0 := 0) rfl rfl, PcW.mk hE hS hAF hPc hDc⟩ rfl rfl hl.1 rfl (lv_room (Nat.le_of_ble_eq_true rfl)) dX11_type_2 ⟨Nat.le_of_ble_eq_true rfl, Nat.le_of_ble_eq_true rfl⟩) hS (fun q _ h => hFc q h) hFc (fun r_1 u t H1 locs ht hvm hw hB hz1 hk1 hS => ?_)
  obtain ⟨hP1, hD1⟩ := hB
  rw [ht] at hP1
  have hP1 : va_P D vwCl [(a0, .inr (13, [.ref a2, .ref a3, .ref a4, .int 0, .ref a1, .int 0, .ref a5, .int 0, .ref a6]))] H1 := hP1
  obtain ⟨hP, hD⟩ := va_join (wr := [(a1, .inl (cy 8, 5, .inr (.inr (.inr (.inr (fun _ => none))))))]) (w1 := [(a0, .inr (13, [.ref a2, .ref a3, .ref a4, .int 0, .ref a1, .int 0, .ref a5, .int 0, .ref a6]))]) hP hD [0] [1] rfl rfl (by decide) (by decide) hk1 hFc hP1 hD1
  clear hP1 hD1 hPc hDc hFc hk1 hz1
  generalize H1 = H at hP hS ⊢
  have hP : va_P D vwCl [(a1, .inl (cy 8, 5, .inr (.inr (.inr (.inr (fun _ => none)))))), (a0, .inr (13, [.ref a2, .ref a3, .ref a4, .int 0, .ref a1, .int 0, .ref a5, .int 0, .ref a6]))] H := hP
  have hD : va_D A [(a1, .inl (cy 8, 5, .inr (.inr (.inr (.inr (fun _ => none)))))), (a0, .inr (13, [.ref a2, .ref a3, .ref a4, .int 0, .ref a1, .int 0, .ref a5, .int 0, .ref a6]))] := hD
  refine W.widen (k := 0) (n := 0) (Nat.le_of_ble_eq_true rfl) (Nat.le_of_ble_eq_true rfl) ?_
  obtain rfl : r_1 = none := hw
  refine W.eq (g2 := F0 m 5 ls [.null]) rfl ?_
  refine lv_astore_nN (lv' := [(2, .null), (0, .ref a0), (1, .int k0)]) hx hb dX11_type_5 rfl hl (by decide) rfl (fun ls hl => ?_)
  refine lv_aload_nN hx hb dX11_type_6 rfl (lv_at hl 0 rfl) ?_
  refine lv_ifnonnullN hx hb dX11_type_7 ?_
  refine lv_iload_n hx hb dX11_type_10 rfl (lv_at hl 2 rfl) ?_
  refine lv_iconst (v := (-1)) hx hb dX11_type_11 (by decide +kernel) ?_
  refine lv_icmp_eq (tgt := 25) hx hb dX11_type_12 (by decide) (fun c2 => ?_) (fun c2 => ?_)
  · have c2 := z_eq c2
    refine lv_aload_n hx hb dX11_type_25 rfl (lv_at hl 1 rfl) ?_
    refine va_get (D := D) (ci := 13) (v := .int 0) (C := RX11) (T := TX11) (N := 9) hx hb hts (fun _ h => (List.mem_append_left _ (List.mem_append_left _ (List.mem_append_right _ h)))) hown hK hP 1 rfl rfl 5 (by decide) (hts (.fieldLink RX11 96 "PhraseDesk" "familyCount" "I") (List.mem_of_getElem? (i := 6) rfl)) (fun _ h9 => h9) rfl dX11_type_26 ?_
    refine lv_aload_n hx hb dX11_type_29 rfl (lv_at hl 1 rfl) ?_
    refine va_get (D := D) (ci := 13) (v := .ref a1) (C := RX11) (T := TX11) (N := 9) hx hb hts (fun _ h => (List.mem_append_left _ (List.mem_append_left _ (List.mem_append_right _ h)))) hown hK hP 1 rfl rfl 4 (by decide) (hts (.fieldLink RX11 31 "PhraseDesk" "families" "[LPhraseDesk$Family;") (List.mem_of_getElem? (i := 7) rfl)) (fun _ h9 => h9) rfl dX11_type_30 ?_
    refine va_alen (v := 5) hx hb hK hP 0 8 rfl rfl rfl dX11_type_33 ?_
    refine lv_icmp_lt (tgt := 47) hx hb dX11_type_34 (by decide) (fun _ => ?_) (fun c3 => absurd (by decide +kernel) c3)
    refine lv_aload_n hx hb dX11_type_47 rfl (lv_at hl 1 rfl) ?_
    refine va_get (D := D) (ci := 13) (v := .ref a1) (C := RX11) (T := TX11) (N := 9) hx hb hts (fun _ h => (List.mem_append_left _ (List.mem_append_left _ (List.mem_append_right _ h)))) hown hK hP 1 rfl rfl 4 (by decide) (hts (.fieldLink RX11 31 "PhraseDesk" "families" "[LPhraseDesk$Family;") (List.mem_of_getElem? (i := 7) rfl)) (fun _ h9 => h9) rfl dX11_type_48 ?_
    refine lv_aload_n hx hb dX11_type_51 rfl (lv_at hl 1 rfl) ?_
    refine va_get (D := D) (ci := 13) (v := .int 0) (C := RX11) (T := TX11) (N := 9) hx hb hts (fun _ h => (List.mem_append_left _ (List.mem_append_left _ (List.mem_append_right _ h)))) hown hK hP 1 rfl rfl 5 (by decide) (hts (.fieldLink RX11 96 "PhraseDesk" "familyCount" "I") (List.mem_of_getElem? (i := 6) rfl)) (fun _ h9 => h9) rfl dX11_type_52 ?_
    refine va_new (ci := 3) (fs := [.int 0, .int 0, .null, .null, .int 0, .null, .int 0]) (C := RX1) (T := TX1) (N := 7) hx hb hts (fun _ h => (List.mem_append_left _ (List.mem_append_right _ h))) tyX1 tyX1_ok hown (hts (.classLink RX11 29 RX1) (List.mem_of_getElem? (i := 8) rfl)) (hts (.instantiable RX1 7) (List.mem_of_getElem? (i := 9) rfl)) (hts (.initialized RX1) (List.mem_of_getElem? (i := 10) rfl)) hK hP hD hS hA rfl (fun j hj => by rcases (show j = 0 ∨ j = 1 ∨ j = 2 ∨ j = 3 ∨ j = 4 ∨ j = 5 ∨ j = 6 by omega) with rfl | rfl | rfl | rfl | rfl | rfl | rfl <;> rfl) (Nat.le_of_ble_eq_true rfl) (Nat.le_of_ble_eq_true rfl) dX11_type_55 (fun q4 H hP hD hS => ?_)
    have hP : va_P D vwCl [(a1, .inl (cy 8, 5, .inr (.inr (.inr (.inr (fun _ => none)))))), (a0, .inr (13, [.ref a2, .ref a3, .ref a4, .int 0, .ref a1, .int 0, .ref a5, .int 0, .ref a6])), (q4, .inr (3, [.int 0, .int 0, .null, .null, .int 0, .null, .int 0]))] H := hP
    have hD : va_D A [(a1, .inl (cy 8, 5, .inr (.inr (.inr (.inr (fun _ => none)))))), (a0, .inr (13, [.ref a2, .ref a3, .ref a4, .int 0, .ref a1, .int 0, .ref a5, .int 0, .ref a6])), (q4, .inr (3, [.int 0, .int 0, .null, .null, .int 0, .null, .int 0]))] := hD
    refine W.widen (k := 1) (n := 7) (Nat.le_of_ble_eq_true rfl) (Nat.le_of_ble_eq_true rfl) ?_
    refine lv_dup hx hb dX11_type_58 rfl ?_
    refine lv_aload_n hx hb dX11_type_59 rfl (lv_at hl 1 rfl) ?_
    refine va_get (D := D) (ci := 13) (v := .int 0) (C := RX11) (T := TX11) (N := 9) hx hb hts (fun _ h => (List.mem_append_left _ (List.mem_append_left _ (List.mem_append_right _ h)))) hown hK hP 1 rfl rfl 5 (by decide) (hts (.fieldLink RX11 96 "PhraseDesk" "familyCount" "I") (List.mem_of_getElem? (i := 6) rfl)) (fun _ h9 => h9) rfl dX11_type_60 ?_
    refine lv_aload_nN hx hb dX11_type_63 rfl (lv_at hl 0 rfl) ?_
    have hPc := hP.sub (ws' := [(q4, .inr (3, [.int 0, .int 0, .null, .null, .int 0, .null, .int 0]))]) [2] rfl
    have hDc := hD.sub (ws' := [(q4, .inr (3, [.int 0, .int 0, .null, .null, .int 0, .null, .int 0]))]) [2] (by decide) rfl
    have hFc := va_free (wc := [(q4, .inr (3, [.int 0, .int 0, .null, .null, .int 0, .null, .int 0]))]) hD hS hA [2] rfl
    refine va_callv (va_runI (As := [.int 0, .null]) (rest := [.ref q4, .int 0, .ref a1]) ⟨hx, hb, hml, hown, hts⟩ (C_X1_init_1 l D cy sz0 sa q4 H.size) (cwI 2 hts (goodIn_app (goodIn_r wq_X1_init_10 [11, 12, 13, 14, 15, 16, 17, 18, 19, 20, 21] rfl (by decide +kernel)) (goodIn_sub (fun _ h => (List.mem_append_left _ (List.mem_append_right _ h))) (by decide +kernel))) rfl rfl rfl (hts (.initialized RX1) (List.mem_of_getElem? (i := 10) rfl)) (hts (.methodLink RX11 101 yX1_init) (List.mem_of_getElem? (i := 22) rfl)) (hts (.instanceMethod yX1_init) (List.mem_of_getElem? (i := 23) rfl)) rfl (by decide +kernel) ⟨Nat.le_of_ble_eq_true rfl, Nat.le_of_ble_eq_true rfl⟩) ⟨PcW.blind, PcW.mk hE hS hAF hPc hDc⟩ rfl rfl hl.1 rfl (lv_room (Nat.le_of_ble_eq_true rfl)) dX11_type_64 ⟨Nat.le_of_ble_eq_true rfl, Nat.le_of_ble_eq_true rfl⟩) hS (fun q _ h => hFc q h) hFc (fun u t H1 locs ht hvm hw hB hz1 hk1 hS => ?_)
    obtain ⟨q5, q6, hP1, hD1⟩ := hB
    rw [ht] at hP1
    have hP1 : va_P D vwCl [(q4, .inr (3, [.int 0, .int 8, .null, .ref q5, .int 0, .ref q6, .int 0])), (q5, .inl (cy 10, 6, .inr (.inr (.inr (.inr (fun _ => none)))))), (q6, .inl (cy 9, 6, .inr (.inr (.inr (.inr (fun _ => none))))))] H1 := hP1
    obtain ⟨hP, hD⟩ := va_join (wr := [(a1, .inl (cy 8, 5, .inr (.inr (.inr (.inr (fun _ => none)))))), (a0, .inr (13, [.ref a2, .ref a3, .ref a4, .int 0, .ref a1, .int 0, .ref a5, .int 0, .ref a6]))]) (w1 := [(q4, .inr (3, [.int 0, .int 8, .null, .ref q5, .int 0, .ref q6, .int 0])), (q5, .inl (cy 10, 6, .inr (.inr (.inr (.inr (fun _ => none)))))), (q6, .inl (cy 9, 6, .inr (.inr (.inr (.inr (fun _ => none))))))]) hP hD [2] [0, 1] rfl rfl (by decide) (by decide) hk1 hFc hP1 hD1
    clear hP1 hD1 hPc hDc hFc hk1 hz1
    generalize H1 = H at hP hS ⊢
    have hP : va_P D vwCl [(a1, .inl (cy 8, 5, .inr (.inr (.inr (.inr (fun _ => none)))))), (a0, .inr (13, [.ref a2, .ref a3, .ref a4, .int 0, .ref a1, .int 0, .ref a5, .int 0, .ref a6])), (q4, .inr (3, [.int 0, .int 8, .null, .ref q5, .int 0, .ref q6, .int 0])), (q5, .inl (cy 10, 6, .inr (.inr (.inr (.inr (fun _ => none)))))), (q6, .inl (cy 9, 6, .inr (.inr (.inr (.inr (fun _ => none))))))] H := hP
    have hD : va_D A [(a1, .inl (cy 8, 5, .inr (.inr (.inr (.inr (fun _ => none)))))), (a0, .inr (13, [.ref a2, .ref a3, .ref a4, .int 0, .ref a1, .int 0, .ref a5, .int 0, .ref a6])), (q4, .inr (3, [.int 0, .int 8, .null, .ref q5, .int 0, .ref q6, .int 0])), (q5, .inl (cy 10, 6, .inr (.inr (.inr (.inr (fun _ => none)))))), (q6, .inl (cy 9, 6, .inr (.inr (.inr (.inr (fun _ => none))))))] := hD
    refine W.widen (k := 3) (n := 19) (Nat.le_of_ble_eq_true rfl) (Nat.le_of_ble_eq_true rfl) ?_
    refine va_astq (r := (RX1, TX1, 7)) hx hb hK hP hD hS 0 8 2 3 rfl rfl rfl rfl (by unfold vp_in; decide +kernel) dX11_type_67 (fun H locs hP hD hS => ?_)
    have hP : va_P D vwCl [(a1, .inl (cy 8, 5, .inr (.inr (.inr (.inr (va_up (fun _ => none) 0 (some q4))))))), (a0, .inr (13, [.ref a2, .ref a3, .ref a4, .int 0, .ref a1, .int 0, .ref a5, .int 0, .ref a6])), (q4, .inr (3, [.int 0, .int 8, .null, .ref q5, .int 0, .ref q6, .int 0])), (q5, .inl (cy 10, 6, .inr (.inr (.inr (.inr (fun _ => none)))))), (q6, .inl (cy 9, 6, .inr (.inr (.inr (.inr (fun _ => none))))))] H := hP
    have hD : va_D A [(a1, .inl (cy 8, 5, .inr (.inr (.inr (.inr (va_up (fun _ => none) 0 (some q4))))))), (a0, .inr (13, [.ref a2, .ref a3, .ref a4, .int 0, .ref a1, .int 0, .ref a5, .int 0, .ref a6])), (q4, .inr (3, [.int 0, .int 8, .null, .ref q5, .int 0, .ref q6, .int 0])), (q5, .inl (cy 10, 6, .inr (.inr (.inr (.inr (fun _ => none)))))), (q6, .inl (cy 9, 6, .inr (.inr (.inr (.inr (fun _ => none))))))] := hD
    refine lv_aload_n hx hb dX11_type_68 rfl (lv_at hl 1 rfl) ?_
    refine lv_dup hx hb dX11_type_69 rfl ?_
    refine va_get (D := D) (ci := 13) (v := .int 0) (C := RX11) (T := TX11) (N := 9) hx hb hts (fun _ h => (List.mem_append_left _ (List.mem_append_left _ (List.mem_append_right _ h)))) hown hK hP 1 rfl rfl 5 (by decide) (hts (.fieldLink RX11 96 "PhraseDesk" "familyCount" "I") (List.mem_of_getElem? (i := 6) rfl)) (fun _ h9 => h9) rfl dX11_type_70 ?_
    refine lv_iconst (v := 1) hx hb dX11_type_73 (by decide +kernel) ?_
    refine lv_iadd hx hb dX11_type_74 ?_
    refine lv_topi (fun x8 ex8 => ?_)
    obtain rfl : x8 = 1 := ex8.trans (by decide +kernel)
    refine va_put (D := D) (ci := 13) (v := .int 1) (ty := .int) (C := RX11) (T := TX11) (N := 9) hx hb hts (fun _ h => (List.mem_append_left _ (List.mem_append_left _ (List.mem_append_right _ h)))) tyX11 tyX11_ok nmX11 hown hK hP hD hS 1 rfl rfl 5 (by decide) (hts (.fieldLink RX11 96 "PhraseDesk" "familyCount" "I") (List.mem_of_getElem? (i := 6) rfl)) (fun _ h9 => h9) rfl (by decide +kernel) rfl rfl (Nat.le_of_ble_eq_true rfl) dX11_type_75 (fun H locs hP hD hS => ?_)
    have hP : va_P D vwCl [(a1, .inl (cy 8, 5, .inr (.inr (.inr (.inr (va_up (fun _ => none) 0 (some q4))))))), (a0, .inr (13, [.ref a2, .ref a3, .ref a4, .int 0, .ref a1, .int 1, .ref a5, .int 0, .ref a6])), (q4, .inr (3, [.int 0, .int 8, .null, .ref q5, .int 0, .ref q6, .int 0])), (q5, .inl (cy 10, 6, .inr (.inr (.inr (.inr (fun _ => none)))))), (q6, .inl (cy 9, 6, .inr (.inr (.inr (.inr (fun _ => none))))))] H := hP
    have hD : va_D A [(a1, .inl (cy 8, 5, .inr (.inr (.inr (.inr (va_up (fun _ => none) 0 (some q4))))))), (a0, .inr (13, [.ref a2, .ref a3, .ref a4, .int 0, .ref a1, .int 1, .ref a5, .int 0, .ref a6])), (q4, .inr (3, [.int 0, .int 8, .null, .ref q5, .int 0, .ref q6, .int 0])), (q5, .inl (cy 10, 6, .inr (.inr (.inr (.inr (fun _ => none)))))), (q6, .inl (cy 9, 6, .inr (.inr (.inr (.inr (fun _ => none))))))] := hD
    refine lv_aload_n hx hb dX11_type_78 rfl (lv_at hl 1 rfl) ?_
    refine va_get (D := D) (ci := 13) (v := .int 1) (C := RX11) (T := TX11) (N := 9) hx hb hts (fun _ h => (List.mem_append_left _ (List.mem_append_left _ (List.mem_append_right _ h)))) hown hK hP 1 rfl rfl 5 (by decide) (hts (.fieldLink RX11 96 "PhraseDesk" "familyCount" "I") (List.mem_of_getElem? (i := 6) rfl)) (fun _ h9 => h9) rfl dX11_type_79 ?_
    refine lv_iconst (v := 1) hx hb dX11_type_82 (by decide +kernel) ?_
    refine lv_isub hx hb dX11_type_83 ?_
    refine lv_topi (fun x9 ex9 => ?_)
    obtain rfl : x9 = 0 := ex9.trans (by decide +kernel)
    refine vx_ret ?_
    refine W.widen (k := 3) (n := 19) (Nat.le_of_ble_eq_true rfl) (Nat.le_of_ble_eq_true rfl) ?_
    exact W.iret (v := 0) hx hb hr (fun t ht hW => ⟨⟨0, (), rfl, ⟨rfl, by omega⟩, trivial⟩, hS.F ht⟩) hS.2.2 dX11_type_84
  · have c2 := z_ne c2
    exact g_iae hx hb hfl hts hE hAF hown (List.mem_of_getElem? (i := 24) rfl) (List.mem_of_getElem? (i := 25) rfl) (is := 94) (text := "the parent is no class") (by decide +kernel) (fun _ h => (List.mem_append_right _ h)) hS (by rw [hml]; exact hl.1) dX11_type_15 dX11_type_18 dX11_type_19 dX11_type_21 dX11_type_24 hout (by decide) (by decide) (Nat.le_of_ble_eq_true rfl) (Nat.le_of_ble_eq_true rfl) hlocks (fun t h1 h2 h3 => ⟨(), trivial, ⟨rfl, by omega⟩, Nat.le_trans hS.1 h2, fun q h4 h5 => (h3 q (Nat.lt_of_lt_of_le h4 hS.1)).trans (hS.2.1 q h4 h5)⟩) hS.2.2 (Nat.le_of_ble_eq_true rfl) (Nat.le_of_ble_eq_true rfl)

def wq_L_type_10 : List Cond := [.codeWith yL_type cL_type 4 (some .int) [(0, 9, 12, 13), (0, 9, 15, 15)], .methodLink RL 21 yX11_type, .instanceMethod yX11_type, .selects RX11 yX11_type yX11_type, .initialized RX11, .code yX11_type cX11_type 3 (some .int), .methodLink RX11 90 yX11_familyAt, .instanceMethod yX11_familyAt, .selects RX11 yX11_familyAt yX11_familyAt, .code yX11_familyAt cX11_familyAt 2 (some (.object "PhraseDesk$Family")), .fieldLink RX11 96 "PhraseDesk" "familyCount" "I", .fieldLink RX11 31 "PhraseDesk" "families" "[LPhraseDesk$Family;", .classLink RX11 29 RX1, .instantiable RX1 7, .initialized RX1, .code yX1_init cX1_init 3 none, .methodLink RX1 3 objectInit, .instanceMethod objectInit, .code objectInit ⟨#[0xb1]⟩ 1 none, .fieldLink RX1 9 "PhraseDesk$Family" "number" "I", .fieldLink RX1 15 "PhraseDesk$Family" "kind" "I", .fieldLink RX1 18 "PhraseDesk$Family" "parent" "LPhraseDesk$Family;", .classLink RX1 22 RX2, .fieldLink RX1 24 "PhraseDesk$Family" "fields" "[LPhraseDesk$Field;", .classLink RX1 28 RX7, .fieldLink RX1 30 "PhraseDesk$Family" "routines" "[LPhraseDesk$Routine;", .methodLink RX11 101 yX1_init, .instanceMethod yX1_init, .classLink RX11 49 "java/lang/IllegalArgumentException", .initialized "java/lang/IllegalArgumentException", .classLink RL 13 "java/lang/IllegalArgumentException"]
def wq_L_type_1 : List Cond := wq_L_type_10 ++ wsX110 ++ wsX10 ++ (vx_atS RX11 53 tIAE tSup).filter goodWord
set_option maxHeartbeats 4000000 in
set_option maxRecDepth 100000 in
theorem C_L_type_1 (l : Launch) (hfl : l.stackTraces = false) (D : va_G) (cy : Nat → ClassId) (sz0 : Nat) (sa : Nat → Nat) (a0 a1 a2 a3 a4 a5 a6 a7 : Nat) (sz : Nat) (k0 : Int32) : Met l yL_type wq_L_type_1 ({ frames := 7, cells := 3, slots := 19, locals := 104 }) (PcW D cy sz0 sa [.ref a0, .int k0, .ref a1] [(a0, .inr (13, [.ref a3, .ref a4, .ref a5, .int 0, .ref a2, .int 0, .ref a6, .int 0, .ref a7])), (a2, .inl (cy 8, 5, .inr (.inr (.inr (.inr (fun _ => none)))))), (a1, .inl (cy 1, 1, .inr (.inl (fun _ => 0))))] sz) (va_Qi (fun (r : Int32) (u : Int64) => (r = 1 ∧ u = 0 ∧ (((¬ k0.toInt = (-1))))) ∨ (r = 0 ∧ u = 0 ∧ ((k0.toInt = (-1))))) (fun (u : Int64) (t : State) => ∃ f : Nat → Int64, BW D [(a1, .inl (cy 1, 1, .inr (.inl f)))] (va_A [(a0, .inr (13, [.ref a3, .ref a4, .ref a5, .int 0, .ref a2, .int 0, .ref a6, .int 0, .ref a7])), (a2, .inl (cy 8, 5, .inr (.inr (.inr (.inr (fun _ => none)))))), (a1, .inl (cy 1, 1, .inr (.inl (fun _ => 0))))] sz) t ∧ f 0 = u) (va_A [(a0, .inr (13, [.ref a3, .ref a4, .ref a5, .int 0, .ref a2, .int 0, .ref a6, .int 0, .ref a7])), (a2, .inl (cy 8, 5, .inr (.inr (.inr (.inr (fun _ => none)))))), (a1, .inl (cy 1, 1, .inr (.inl (fun _ => 0))))] sz)) 3 19 (va_A [(a0, .inr (13, [.ref a3, .ref a4, .ref a5, .int 0, .ref a2, .int 0, .ref a6, .int 0, .ref a7])), (a2, .inl (cy 8, 5, .inr (.inr (.inr (.inr (fun _ => none)))))), (a1, .inl (cy 1, 1, .inr (.inl (fun _ => 0))))] sz) := by
  refine va_MetW (cc := cL_type) (maxL := 4) (ret := (some .int)) (hh := [(0, 9, 12, 13), (0, 9, 15, 15)]) (by decide) rfl ?_
  intro p e s m args below meth c s₁ B hml hv
  obtain ⟨rfl, hsz, hP, hD0, hE⟩ := hv
  have hx := B.exec
  have hb := B.bytes
  have hr := B.returns
  have hts := atoms_spec (ws := wq_L_type_1) B.pre
  have hown : s.vm.findClass RL = some m.cls := findClass_of_methodNamed B.named
  have hlocks := B.notSynchronized
  subst hsz
  have hK := hE.1
  have hAm := hE.2.2.1
  have hWm := hE.2.2.2
  have hAO := hWm.2.2.2.1
  have hD := hD0.self (sz := s.heap.size)
  have hAF := frA hD0 hE.2.1
  generalize hAe : va_A [(a0, .inr (13, [.ref a3, .ref a4, .ref a5, .int 0, .ref a2, .int 0, .ref a6, .int 0, .ref a7])), (a2, .inl (cy 8, 5, .inr (.inr (.inr (.inr (fun _ => none)))))), (a1, .inl (cy 1, 1, .inr (.inl (fun _ => 0))))] s.heap.size = A at hD hAF ⊢
  have hA : ∀ q : Nat, s.heap.size ≤ q → A q := fun q h => by rw [← hAe]; exact Or.inr h
  have hS : va_S A s.heap s.heap [] := va_S.rf
  have hl := lv_entry ([.ref a0, .int k0, .ref a1]) (n := 4) (Nat.le_of_ble_eq_true rfl)
  rw [lg_entry_eq]
  generalize (lg_sl ([.ref a0, .int k0, .ref a1]) ++ List.replicate (4 - (lg_sl ([.ref a0, .int k0, .ref a1])).length) Slot.unset).toArray = ls at hl ⊢
  have hl : lv_has ls 4 [(0, .ref a0), (1, .int k0), (2, .ref a1)] := hl
  have hP : va_P D vwCl [(a0, .inr (13, [.ref a3, .ref a4, .ref a5, .int 0, .ref a2, .int 0, .ref a6, .int 0, .ref a7])), (a2, .inl (cy 8, 5, .inr (.inr (.inr (.inr (fun _ => none)))))), (a1, .inl (cy 1, 1, .inr (.inl (fun _ => 0))))] s.heap := hP
  have zm1 : ((-1) : Int32).toInt = -1 := by decide +kernel
  refine lv_aload_n hx hb dL_type_0 rfl (lv_at hl 2 rfl) ?_
  refine lv_iconst (v := 0) hx hb dL_type_1 (by decide +kernel) ?_
  refine lv_aload_n hx hb dL_type_2 rfl (lv_at hl 0 rfl) ?_
  refine lv_iload_n hx hb dL_type_3 rfl (lv_at hl 1 rfl) ?_
  have hPc := hP.sub (ws' := [(a0, .inr (13, [.ref a3, .ref a4, .ref a5, .int 0, .ref a2, .int 0, .ref a6, .int 0, .ref a7])), (a2, .inl (cy 8, 5, .inr (.inr (.inr (.inr (fun _ => none))))))]) [0, 1] rfl
  have hDc := hD.sub (ws' := [(a0, .inr (13, [.ref a3, .ref a4, .ref a5, .int 0, .ref a2, .int 0, .ref a6, .int 0, .ref a7])), (a2, .inl (cy 8, 5, .inr (.inr (.inr (.inr (fun _ => none))))))]) [0, 1] (by decide) rfl
  have hFc := va_free (wc := [(a0, .inr (13, [.ref a3, .ref a4, .ref a5, .int 0, .ref a2, .int 0, .ref a6, .int 0, .ref a7])), (a2, .inl (cy 8, 5, .inr (.inr (.inr (.inr (fun _ => none))))))]) hD hS hA [0, 1] rfl
  refine vx_calli (vx_runV (As := [.int k0]) (rest := [.int 0, .ref a1]) ⟨hx, hb, hml, hown, hts⟩ (C_X11_type_1 l hfl D cy sz0 sa a0 a2 a3 a4 a5 a6 a7 s.heap.size k0) (cwV 1 hts (goodIn_app (goodIn_r _ [1, 2, 3, 4] rfl (by decide +kernel)) (goodIn_app (goodIn_app (goodIn_app (goodIn_r wq_X11_type_10 [5, 6, 7, 8, 4, 9, 10, 11, 12, 13, 14, 15, 16, 17, 18, 19, 20, 21, 22, 23, 24, 25, 26, 27, 28, 29] rfl (by decide +kernel)) (goodIn_sub (fun _ h => (List.mem_append_left _ (List.mem_append_left _ (List.mem_append_right _ h)))) (by decide +kernel))) (goodIn_sub (fun _ h => (List.mem_append_left _ (List.mem_append_right _ h))) (by decide +kernel))) (goodIn_sub (fun _ h => (List.mem_append_right _ h)) (by decide +kernel)))) rfl rfl rfl (by decide +kernel) ⟨Nat.le_of_ble_eq_true rfl, Nat.le_of_ble_eq_true rfl⟩) ⟨PcW.blind, va_recv hK hPc (ci := 13) (q0 := 0) rfl rfl, PcW.mk hE hS hAF hPc hDc⟩ rfl rfl hl.1 rfl (lv_room (Nat.le_of_ble_eq_true rfl)) dL_type_4 ⟨Nat.le_of_ble_eq_true rfl, Nat.le_of_ble_eq_true rfl⟩) hS (fun q _ h => hFc q h) hFc (fun q _ h => hFc q h) (fun E ce q9 u t H1 locs ht hvm hpx hbx hz1 hk1 hS hq9 hv9 hc9 => ?_) (fun r_1 u t H1 locs ht hvm hw hB hz1 hk1 hS => ?_)
  · obtain ⟨rfl, hxr_1⟩ := hbx
    obtain ⟨hP, hD⟩ := va_join (wr := [(a1, .inl (cy 1, 1, .inr (.inl (fun _ => 0))))]) (w1 := []) hP hD [0, 1] [2] rfl rfl (by decide) (by decide) hk1 hFc nilP nilD
    skip
    have hq8 := hq9
    clear hPc hDc hFc hk1 hz1
    skip
    have hP : va_P D vwCl [(a1, .inl (cy 1, 1, .inr (.inl (fun _ => 0))))] H1 := hP
    have hD : va_D A [(a1, .inl (cy 1, 1, .inr (.inl (fun _ => 0))))] := hD
    refine vx_widen (k := 3) (n := 19) (Nat.le_of_ble_eq_true rfl) (Nat.le_of_ble_eq_true rfl) ?_
    refine vx_catch hown [] _ _ ((vx_table (x := yL_type) B (hts (.codeWith yL_type cL_type 4 (some .int) [(0, 9, 12, 13), (0, 9, 15, 15)]) (List.mem_of_getElem? (i := 0) rfl))).trans rfl) (fun z hz => absurd hz List.not_mem_nil) (by decide) (by decide) (hts (.classLink RL 13 "java/lang/IllegalArgumentException") (List.mem_of_getElem? (i := 30) rfl)) (va_Nw.use rfl hWm.2.2.1.2.2.2.1) hq9 hv9 hc9 ?_
    clear hq8 hq9 ht
    generalize H1 = H at hP hS ⊢
    refine lv_astore_n (lv' := [(3, .ref q9), (0, .ref a0), (1, .int k0), (2, .ref a1)]) hx hb dL_type_12 rfl hl (by decide) rfl (fun ls hl => ?_)
    refine lv_iconst (v := 1) hx hb dL_type_13 (by decide +kernel) ?_
    refine W.widen (k := 3) (n := 19) (Nat.le_of_ble_eq_true rfl) (Nat.le_of_ble_eq_true rfl) ?_
    have hP9 := hP.sub (ws' := [(a1, .inl (cy 1, 1, .inr (.inl (fun _ => 0))))]) [0] rfl
    have hD9 := hD.sub (ws' := [(a1, .inl (cy 1, 1, .inr (.inl (fun _ => 0))))]) [0] (by decide) rfl
    exact W.iret (v := 1) hx hb hr (fun t ht hW => ⟨⟨1, 0, rfl, Or.inl ⟨rfl, rfl, by omega⟩, ⟨(fun _ => 0), ⟨by rw [ht]; exact hP9, hD9⟩, by decide +kernel⟩⟩, hS.F ht⟩) hS.2.2 dL_type_14
  · obtain ⟨hP, hD⟩ := va_join (wr := [(a1, .inl (cy 1, 1, .inr (.inl (fun _ => 0))))]) (w1 := []) hP hD [0, 1] [2] rfl rfl (by decide) (by decide) hk1 hFc nilP nilD
    clear hPc hDc hFc hk1 hz1
    generalize H1 = H at hP hS ⊢
    have hP : va_P D vwCl [(a1, .inl (cy 1, 1, .inr (.inl (fun _ => 0))))] H := hP
    have hD : va_D A [(a1, .inl (cy 1, 1, .inr (.inl (fun _ => 0))))] := hD
    refine W.widen (k := 3) (n := 19) (Nat.le_of_ble_eq_true rfl) (Nat.le_of_ble_eq_true rfl) ?_
    obtain ⟨hr, hcr_1⟩ := hw
    obtain rfl : r_1 = 0 := hr
    refine lv_i2l (v := 0) hx hb dL_type_7 (by decide +kernel) ?_
    refine va_last hx hb hK hP hD hS 0 1 rfl rfl (by unfold vp_in; decide +kernel) dL_type_8 (fun H locs hP hD hS => ?_)
    have hP : va_P D vwCl [(a1, .inl (cy 1, 1, .inr (.inl (vp_updL (fun _ => 0) 0 0))))] H := hP
    have hD : va_D A [(a1, .inl (cy 1, 1, .inr (.inl (vp_updL (fun _ => 0) 0 0))))] := hD
    refine lv_goto (tgt := 18) hx hb dL_type_9 (by decide) ?_
    refine lv_iconst (v := 0) hx hb dL_type_18 (by decide +kernel) ?_
    refine W.widen (k := 3) (n := 19) (Nat.le_of_ble_eq_true rfl) (Nat.le_of_ble_eq_true rfl) ?_
    have hP9 := hP.sub (ws' := [(a1, .inl (cy 1, 1, .inr (.inl (vp_updL (fun _ => 0) 0 0))))]) [0] rfl
    have hD9 := hD.sub (ws' := [(a1, .inl (cy 1, 1, .inr (.inl (vp_updL (fun _ => 0) 0 0))))]) [0] (by decide) rfl
    exact W.iret (v := 0) hx hb hr (fun t ht hW => ⟨⟨0, 0, rfl, Or.inr (⟨rfl, rfl, by omega⟩), ⟨(vp_updL (fun _ => 0) 0 0), ⟨by rw [ht]; exact hP9, hD9⟩, by decide +kernel⟩⟩, hS.F ht⟩) hS.2.2 dL_type_19
