def wq_X11_objectAt_10 : List Cond := [.code yX11_objectAt cX11_objectAt 2 (some (.object "PhraseDesk$Value")), .fieldLink RX11 120 "PhraseDesk" "objectCount" "I"]
def wq_X11_objectAt_1 : List Cond := wq_X11_objectAt_10 ++ wsX110
set_option maxHeartbeats 4000000 in
set_option maxRecDepth 100000 in
theorem C_X11_objectAt_1 (l : Launch) (D : va_G) (cy : Nat → ClassId) (sz0 : Nat) (sa : Nat → Nat) (a0 a1 a2 a3 a4 a5 a6 : Nat) (sz : Nat) (k0 : Int32) : Met l yX11_objectAt wq_X11_objectAt_1 ({ frames := 0, cells := 0, slots := 0, locals := 0 }) (PcW D cy sz0 sa [.ref a0, .int k0] [(a0, .inr (13, [.ref a1, .ref a2, .ref a3, .int 0, .ref a4, .int 0, .ref a5, .int 0, .ref a6]))] sz) (va_Qq (fun (r : Option Nat) (u : Unit) => r = none) (fun (u : Unit) (t : State) => BW D [(a0, .inr (13, [.ref a1, .ref a2, .ref a3, .int 0, .ref a4, .int 0, .ref a5, .int 0, .ref a6]))] (va_A [(a0, .inr (13, [.ref a1, .ref a2, .ref a3, .int 0, .ref a4, .int 0, .ref a5, .int 0, .ref a6]))] sz) t) (va_A [(a0, .inr (13, [.ref a1, .ref a2, .ref a3, .int 0, .ref a4, .int 0, .ref a5, .int 0, .ref a6]))] sz)) 0 0 (va_A [(a0, .inr (13, [.ref a1, .ref a2, .ref a3, .int 0, .ref a4, .int 0, .ref a5, .int 0, .ref a6]))] sz) := by
  refine Met.ofW (cc := cX11_objectAt) (maxL := 2) (ret := (some (.object "PhraseDesk$Value"))) (by decide) rfl ?_
  intro p e s m args below meth c s₁ B hml hv
  obtain ⟨rfl, hsz, hP, hD0, hE⟩ := hv
  have hx := B.exec
  have hb := B.bytes
  have hr := B.returns
  have hts := atoms_spec (ws := wq_X11_objectAt_1) B.pre
  have hown : s.vm.findClass RX11 = some m.cls := findClass_of_methodNamed B.named
  have hlocks := B.notSynchronized
  subst hsz
  have hK := hE.1
  have hAm := hE.2.2.1
  have hWm := hE.2.2.2
  have hAO := hWm.2.2.2.1
  have hD := hD0.self (sz := s.heap.size)
  have hAF := frA hD0 hE.2.1
  generalize hAe : va_A [(a0, .inr (13, [.ref a1, .ref a2, .ref a3, .int 0, .ref a4, .int 0, .ref a5, .int 0, .ref a6]))] s.heap.size = A at hD hAF ⊢
  have hA : ∀ q : Nat, s.heap.size ≤ q → A q := fun q h => by rw [← hAe]; exact Or.inr h
  have hS : va_S A s.heap s.heap [] := va_S.rf
  have hl := lv_entry ([.ref a0, .int k0]) (n := 2) (Nat.le_of_ble_eq_true rfl)
  rw [lg_entry_eq]
  generalize (lg_sl ([.ref a0, .int k0]) ++ List.replicate (2 - (lg_sl ([.ref a0, .int k0])).length) Slot.unset).toArray = ls at hl ⊢
  have hl : lv_has ls 2 [(0, .ref a0), (1, .int k0)] := hl
  have hP : va_P D vwCl [(a0, .inr (13, [.ref a1, .ref a2, .ref a3, .int 0, .ref a4, .int 0, .ref a5, .int 0, .ref a6]))] s.heap := hP
  have z0 : (0 : Int32).toInt = 0 := by decide +kernel
  refine lv_iload_n hx hb dX11_objectAt_0 rfl (lv_at hl 1 rfl) ?_
  refine lv_if_lt (tgt := 30) hx hb dX11_objectAt_1 (by decide) (fun c1 => ?_) (fun c1 => ?_)
  · have c1 := z_lt c1
    refine lv_null hx hb dX11_objectAt_30 ?_
    refine W.widen (k := 0) (n := 0) (Nat.le_of_ble_eq_true rfl) (Nat.le_of_ble_eq_true rfl) ?_
    have hP9 := hP.sub (ws' := [(a0, .inr (13, [.ref a1, .ref a2, .ref a3, .int 0, .ref a4, .int 0, .ref a5, .int 0, .ref a6]))]) [0] rfl
    have hD9 := hD.sub (ws' := [(a0, .inr (13, [.ref a1, .ref a2, .ref a3, .int 0, .ref a4, .int 0, .ref a5, .int 0, .ref a6]))]) [0] (by decide) rfl
    exact W.aret (v := .null) hx hb hr (Or.inl ⟨_, rfl⟩) (Or.inl rfl) (fun t ht hW => ⟨⟨none, (), rfl, rfl, ⟨by rw [ht]; exact hP9, hD9⟩⟩, hS.F ht⟩) hS.2.2 dX11_objectAt_31
  · have c1 := z_nlt c1
    refine lv_iload_n hx hb dX11_objectAt_4 rfl (lv_at hl 1 rfl) ?_
    refine lv_aload_n hx hb dX11_objectAt_5 rfl (lv_at hl 0 rfl) ?_
    refine va_get (D := D) (ci := 13) (v := .int 0) (C := RX11) (T := TX11) (N := 9) hx hb hts (fun _ h => (List.mem_append_right _ h)) hown hK hP 0 rfl rfl 7 (by decide) (hts (.fieldLink RX11 120 "PhraseDesk" "objectCount" "I") (List.mem_of_getElem? (i := 1) rfl)) (fun _ h9 => h9) rfl dX11_objectAt_6 ?_
    refine lv_icmp_ge (tgt := 30) hx hb dX11_objectAt_9 (by decide) (fun c2 => ?_) (fun c2 => ?_)
    · have c2 := z_le c2
      refine lv_null hx hb dX11_objectAt_30 ?_
      refine W.widen (k := 0) (n := 0) (Nat.le_of_ble_eq_true rfl) (Nat.le_of_ble_eq_true rfl) ?_
      have hP9 := hP.sub (ws' := [(a0, .inr (13, [.ref a1, .ref a2, .ref a3, .int 0, .ref a4, .int 0, .ref a5, .int 0, .ref a6]))]) [0] rfl
      have hD9 := hD.sub (ws' := [(a0, .inr (13, [.ref a1, .ref a2, .ref a3, .int 0, .ref a4, .int 0, .ref a5, .int 0, .ref a6]))]) [0] (by decide) rfl
      exact W.aret (v := .null) hx hb hr (Or.inl ⟨_, rfl⟩) (Or.inl rfl) (fun t ht hW => ⟨⟨none, (), rfl, rfl, ⟨by rw [ht]; exact hP9, hD9⟩⟩, hS.F ht⟩) hS.2.2 dX11_objectAt_31
    · have c2 := z_nle c2
      exfalso
      omega

def wq_X11_run_10 : List Cond := [.code yX11_run cX11_run 6 (some .int), .methodLink RX11 177 yX11_objectAt, .instanceMethod yX11_objectAt, .selects RX11 yX11_objectAt yX11_objectAt, .initialized RX11, .code yX11_objectAt cX11_objectAt 2 (some (.object "PhraseDesk$Value")), .fieldLink RX11 120 "PhraseDesk" "objectCount" "I", .classLink RX11 49 "java/lang/IllegalArgumentException", .initialized "java/lang/IllegalArgumentException", .fieldLink RX11 19 "PhraseDesk" "runner" "LPhraseDesk$Runner;", .fieldLink RX11 155 "PhraseDesk$Runner" "nothing" "LPhraseDesk$Value;", .fieldLink RX11 75 "PhraseDesk" "programCount" "I"]
def wq_X11_run_1 : List Cond := wq_X11_run_10 ++ wsX110 ++ wsX80 ++ (vx_atS RX11 53 tIAE tSup).filter goodWord
set_option maxHeartbeats 4000000 in
set_option maxRecDepth 100000 in
theorem C_X11_run_1 (l : Launch) (hfl : l.stackTraces = false) (D : va_G) (cy : Nat → ClassId) (sz0 : Nat) (sa : Nat → Nat) (a0 a1 a2 a3 a4 a5 a6 a7 a8 a9 a10 a11 : Nat) (sz : Nat) (k0 : Int32) (k1 : Int32) : vx_Met l yX11_run wq_X11_run_1 ({ frames := 6, cells := 1, slots := 6, locals := 82 }) (PcW D cy sz0 sa [.ref a0, .int k0, .int k1] [(a0, .inr (13, [.ref a2, .ref a1, .ref a3, .int 0, .ref a4, .int 0, .ref a5, .int 0, .ref a6])), (a1, .inr (10, [.ref a7, .ref a8, .ref a9, .ref a10, .ref a11, .int 0, .ref a7, .int 0]))] sz) (va_Qi (fun (r : Int32) (u : Unit) => False) (fun (_ : Unit) (_ : State) => True) (va_A [(a0, .inr (13, [.ref a2, .ref a1, .ref a3, .int 0, .ref a4, .int 0, .ref a5, .int 0, .ref a6])), (a1, .inr (10, [.ref a7, .ref a8, .ref a9, .ref a10, .ref a11, .int 0, .ref a7, .int 0]))] sz)) (vx_X (fun _ : Unit => True) (fun (E : String) (_ : Unit) (_ : State) => E = tIAE ∧ ((k0.toInt < 0 ∧ ¬ k1.toInt = (-1)) ∨ (k0.toInt < 0 ∧ k1.toInt = (-1)) ∨ (0 ≤ k0.toInt ∧ 0 ≤ k0.toInt ∧ ¬ k1.toInt = (-1)) ∨ (0 ≤ k0.toInt ∧ 0 ≤ k0.toInt ∧ k1.toInt = (-1)))) (va_A [(a0, .inr (13, [.ref a2, .ref a1, .ref a3, .int 0, .ref a4, .int 0, .ref a5, .int 0, .ref a6])), (a1, .inr (10, [.ref a7, .ref a8, .ref a9, .ref a10, .ref a11, .int 0, .ref a7, .int 0]))] sz)) 1 6 (va_A [(a0, .inr (13, [.ref a2, .ref a1, .ref a3, .int 0, .ref a4, .int 0, .ref a5, .int 0, .ref a6])), (a1, .inr (10, [.ref a7, .ref a8, .ref a9, .ref a10, .ref a11, .int 0, .ref a7, .int 0]))] sz) := by
  refine vx_ofW (cc := cX11_run) (maxL := 6) (ret := (some .int)) (by decide) rfl ?_
  intro p e s m args below meth c s₁ B hml hout hv
  obtain ⟨rfl, hsz, hP, hD0, hE⟩ := hv
  have hx := B.exec
  have hb := B.bytes
  have hr := B.returns
  have hts := atoms_spec (ws := wq_X11_run_1) B.pre
  have hown : s.vm.findClass RX11 = some m.cls := findClass_of_methodNamed B.named
  have hlocks := B.notSynchronized
  subst hsz
  have hK := hE.1
  have hAm := hE.2.2.1
  have hWm := hE.2.2.2
  have hAO := hWm.2.2.2.1
  have hD := hD0.self (sz := s.heap.size)
  have hAF := frA hD0 hE.2.1
  generalize hAe : va_A [(a0, .inr (13, [.ref a2, .ref a1, .ref a3, .int 0, .ref a4, .int 0, .ref a5, .int 0, .ref a6])), (a1, .inr (10, [.ref a7, .ref a8, .ref a9, .ref a10, .ref a11, .int 0, .ref a7, .int 0]))] s.heap.size = A at hD hAF ⊢
  have hA : ∀ q : Nat, s.heap.size ≤ q → A q := fun q h => by rw [← hAe]; exact Or.inr h
  have hS : va_S A s.heap s.heap [] := va_S.rf
  have hl := lv_entry ([.ref a0, .int k0, .int k1]) (n := 6) (Nat.le_of_ble_eq_true rfl)
  rw [lg_entry_eq]
  generalize (lg_sl ([.ref a0, .int k0, .int k1]) ++ List.replicate (6 - (lg_sl ([.ref a0, .int k0, .int k1])).length) Slot.unset).toArray = ls at hl ⊢
  have hl : lv_has ls 6 [(0, .ref a0), (1, .int k0), (2, .int k1)] := hl
  have hP : va_P D vwCl [(a0, .inr (13, [.ref a2, .ref a1, .ref a3, .int 0, .ref a4, .int 0, .ref a5, .int 0, .ref a6])), (a1, .inr (10, [.ref a7, .ref a8, .ref a9, .ref a10, .ref a11, .int 0, .ref a7, .int 0]))] s.heap := hP
  have zm1 : ((-1) : Int32).toInt = -1 := by decide +kernel
  have z0 : (0 : Int32).toInt = 0 := by decide +kernel
  refine lv_iload_n hx hb dX11_run_0 rfl (lv_at hl 1 rfl) ?_
  refine lv_if_lt (tgt := 30) hx hb dX11_run_1 (by decide) (fun c1 => ?_) (fun c1 => ?_)
  · have c1 := z_lt c1
    refine lv_null hx hb dX11_run_30 ?_
    refine lv_astore_nN (lv' := [(3, .null), (0, .ref a0), (1, .int k0), (2, .int k1)]) hx hb dX11_run_31 rfl hl (by decide) rfl (fun ls hl => ?_)
    refine lv_iload_n hx hb dX11_run_32 rfl (lv_at hl 3 rfl) ?_
    refine lv_iconst (v := (-1)) hx hb dX11_run_33 (by decide +kernel) ?_
    refine lv_icmp_ne (tgt := 47) hx hb dX11_run_34 (by decide) (fun c2 => ?_) (fun c2 => ?_)
    · have c2 := z_ne c2
      refine lv_aload_n hx hb dX11_run_47 rfl (lv_at hl 1 rfl) ?_
      refine lv_iload_n hx hb dX11_run_48 rfl (lv_at hl 3 rfl) ?_
      have hPc := hP.sub (ws' := [(a0, .inr (13, [.ref a2, .ref a1, .ref a3, .int 0, .ref a4, .int 0, .ref a5, .int 0, .ref a6]))]) [0] rfl
      have hDc := hD.sub (ws' := [(a0, .inr (13, [.ref a2, .ref a1, .ref a3, .int 0, .ref a4, .int 0, .ref a5, .int 0, .ref a6]))]) [0] (by decide) rfl
      have hFc := va_free (wc := [(a0, .inr (13, [.ref a2, .ref a1, .ref a3, .int 0, .ref a4, .int 0, .ref a5, .int 0, .ref a6]))]) hD hS hA [0] rfl
      refine va_callq (va_runV (As := [.int k1]) (rest := []) ⟨hx, hb, hml, hown, hts⟩ (C_X11_objectAt_1 l D cy sz0 sa a0 a2 a1 a3 a4 a5 a6 s.heap.size k1) (cwV 1 hts (goodIn_app (goodIn_r _ [1, 2, 3, 4] rfl (by decide +kernel)) (goodIn_app (goodIn_r wq_X11_objectAt_10 [5, 6] rfl (by decide +kernel)) (goodIn_sub (fun _ h => (List.mem_append_left _ (List.mem_append_left _ (List.mem_append_right _ h)))) (by decide +kernel)))) rfl rfl rfl (by decide +kernel) ⟨Nat.le_of_ble_eq_true rfl, Nat.le_of_ble_eq_true rfl⟩) ⟨PcW.blind, va_recv hK hPc (ci := 13) (q0 := 0) rfl rfl, PcW.mk hE hS hAF hPc hDc⟩ rfl rfl hl.1 rfl (lv_room (Nat.le_of_ble_eq_true rfl)) dX11_run_49 ⟨Nat.le_of_ble_eq_true rfl, Nat.le_of_ble_eq_true rfl⟩) hS (fun q _ h => hFc q h) hFc (fun r_3 u t H1 locs ht hvm hw hB hz1 hk1 hS => ?_)
      obtain ⟨hP1, hD1⟩ := hB
      rw [ht] at hP1
      have hP1 : va_P D vwCl [(a0, .inr (13, [.ref a2, .ref a1, .ref a3, .int 0, .ref a4, .int 0, .ref a5, .int 0, .ref a6]))] H1 := hP1
      obtain ⟨hP, hD⟩ := va_join (wr := [(a1, .inr (10, [.ref a7, .ref a8, .ref a9, .ref a10, .ref a11, .int 0, .ref a7, .int 0]))]) (w1 := [(a0, .inr (13, [.ref a2, .ref a1, .ref a3, .int 0, .ref a4, .int 0, .ref a5, .int 0, .ref a6]))]) hP hD [0] [1] rfl rfl (by decide) (by decide) hk1 hFc hP1 hD1
      clear hP1 hD1 hPc hDc hFc hk1 hz1
      generalize H1 = H at hP hS ⊢
      have hP : va_P D vwCl [(a1, .inr (10, [.ref a7, .ref a8, .ref a9, .ref a10, .ref a11, .int 0, .ref a7, .int 0])), (a0, .inr (13, [.ref a2, .ref a1, .ref a3, .int 0, .ref a4, .int 0, .ref a5, .int 0, .ref a6]))] H := hP
      have hD : va_D A [(a1, .inr (10, [.ref a7, .ref a8, .ref a9, .ref a10, .ref a11, .int 0, .ref a7, .int 0])), (a0, .inr (13, [.ref a2, .ref a1, .ref a3, .int 0, .ref a4, .int 0, .ref a5, .int 0, .ref a6]))] := hD
      refine W.widen (k := 0) (n := 0) (Nat.le_of_ble_eq_true rfl) (Nat.le_of_ble_eq_true rfl) ?_
      obtain rfl : r_3 = none := hw
      refine W.eq (g2 := F0 m 52 ls [.null]) rfl ?_
      refine lv_astoreN (lv' := [(4, .null), (3, .null), (0, .ref a0), (1, .int k0), (2, .int k1)]) hx hb dX11_run_52 hl (by decide) rfl (fun ls hl => ?_)
      refine lv_aload_nN hx hb dX11_run_54 rfl (lv_at hl 1 rfl) ?_
      refine lv_ifnullN (tgt := 63) hx hb dX11_run_55 (by decide) ?_
      exact g_iae hx hb hfl hts hE hAF hown (List.mem_of_getElem? (i := 7) rfl) (List.mem_of_getElem? (i := 8) rfl) (is := 181) (text := "there is no such program or object") (by decide +kernel) (fun _ h => (List.mem_append_right _ h)) hS (by rw [hml]; exact hl.1) dX11_run_63 dX11_run_66 dX11_run_67 dX11_run_69 dX11_run_72 hout (by decide) (by decide) (Nat.le_of_ble_eq_true rfl) (Nat.le_of_ble_eq_true rfl) hlocks (fun t h1 h2 h3 => ⟨(), trivial, ⟨rfl, by omega⟩, Nat.le_trans hS.1 h2, fun q h4 h5 => (h3 q (Nat.lt_of_lt_of_le h4 hS.1)).trans (hS.2.1 q h4 h5)⟩) hS.2.2 (Nat.le_of_ble_eq_true rfl) (Nat.le_of_ble_eq_true rfl)
    · have c2 := z_eq c2
      refine lv_aload_n hx hb dX11_run_37 rfl (lv_at hl 1 rfl) ?_
      refine va_get (D := D) (ci := 13) (v := .ref a1) (C := RX11) (T := TX11) (N := 9) hx hb hts (fun _ h => (List.mem_append_left _ (List.mem_append_left _ (List.mem_append_right _ h)))) hown hK hP 0 rfl rfl 1 (by decide) (hts (.fieldLink RX11 19 "PhraseDesk" "runner" "LPhraseDesk$Runner;") (List.mem_of_getElem? (i := 9) rfl)) (fun _ h9 => h9) rfl dX11_run_38 ?_
      refine va_get (D := D) (ci := 10) (v := .ref a7) (C := RX8) (T := TX8) (N := 8) hx hb hts (fun _ h => (List.mem_append_left _ (List.mem_append_right _ h))) hown hK hP 1 rfl rfl 0 (by decide) (hts (.fieldLink RX11 155 "PhraseDesk$Runner" "nothing" "LPhraseDesk$Value;") (List.mem_of_getElem? (i := 10) rfl)) (fun _ h9 => h9) rfl dX11_run_41 ?_
      refine lv_goto (tgt := 52) hx hb dX11_run_44 (by decide) ?_
      refine lv_astore (lv' := [(4, .ref a7), (3, .null), (0, .ref a0), (1, .int k0), (2, .int k1)]) hx hb dX11_run_52 hl (by decide) rfl (fun ls hl => ?_)
      refine lv_aload_nN hx hb dX11_run_54 rfl (lv_at hl 1 rfl) ?_
      refine lv_ifnullN (tgt := 63) hx hb dX11_run_55 (by decide) ?_
      exact g_iae hx hb hfl hts hE hAF hown (List.mem_of_getElem? (i := 7) rfl) (List.mem_of_getElem? (i := 8) rfl) (is := 181) (text := "there is no such program or object") (by decide +kernel) (fun _ h => (List.mem_append_right _ h)) hS (by rw [hml]; exact hl.1) dX11_run_63 dX11_run_66 dX11_run_67 dX11_run_69 dX11_run_72 hout (by decide) (by decide) (Nat.le_of_ble_eq_true rfl) (Nat.le_of_ble_eq_true rfl) hlocks (fun t h1 h2 h3 => ⟨(), trivial, ⟨rfl, by omega⟩, Nat.le_trans hS.1 h2, fun q h4 h5 => (h3 q (Nat.lt_of_lt_of_le h4 hS.1)).trans (hS.2.1 q h4 h5)⟩) hS.2.2 (Nat.le_of_ble_eq_true rfl) (Nat.le_of_ble_eq_true rfl)
  · have c1 := z_nlt c1
    refine lv_iload_n hx hb dX11_run_4 rfl (lv_at hl 1 rfl) ?_
    refine lv_aload_n hx hb dX11_run_5 rfl (lv_at hl 0 rfl) ?_
    refine va_get (D := D) (ci := 13) (v := .int 0) (C := RX11) (T := TX11) (N := 9) hx hb hts (fun _ h => (List.mem_append_left _ (List.mem_append_left _ (List.mem_append_right _ h)))) hown hK hP 0 rfl rfl 3 (by decide) (hts (.fieldLink RX11 75 "PhraseDesk" "programCount" "I") (List.mem_of_getElem? (i := 11) rfl)) (fun _ h9 => h9) rfl dX11_run_6 ?_
    refine lv_icmp_ge (tgt := 30) hx hb dX11_run_9 (by decide) (fun c4 => ?_) (fun c4 => ?_)
    · have c4 := z_le c4
      refine lv_null hx hb dX11_run_30 ?_
      refine lv_astore_nN (lv' := [(3, .null), (0, .ref a0), (1, .int k0), (2, .int k1)]) hx hb dX11_run_31 rfl hl (by decide) rfl (fun ls hl => ?_)
      refine lv_iload_n hx hb dX11_run_32 rfl (lv_at hl 3 rfl) ?_
      refine lv_iconst (v := (-1)) hx hb dX11_run_33 (by decide +kernel) ?_
      refine lv_icmp_ne (tgt := 47) hx hb dX11_run_34 (by decide) (fun c5 => ?_) (fun c5 => ?_)
      · have c5 := z_ne c5
        refine lv_aload_n hx hb dX11_run_47 rfl (lv_at hl 1 rfl) ?_
        refine lv_iload_n hx hb dX11_run_48 rfl (lv_at hl 3 rfl) ?_
        have hPc := hP.sub (ws' := [(a0, .inr (13, [.ref a2, .ref a1, .ref a3, .int 0, .ref a4, .int 0, .ref a5, .int 0, .ref a6]))]) [0] rfl
        have hDc := hD.sub (ws' := [(a0, .inr (13, [.ref a2, .ref a1, .ref a3, .int 0, .ref a4, .int 0, .ref a5, .int 0, .ref a6]))]) [0] (by decide) rfl
        have hFc := va_free (wc := [(a0, .inr (13, [.ref a2, .ref a1, .ref a3, .int 0, .ref a4, .int 0, .ref a5, .int 0, .ref a6]))]) hD hS hA [0] rfl
        refine va_callq (va_runV (As := [.int k1]) (rest := []) ⟨hx, hb, hml, hown, hts⟩ (C_X11_objectAt_1 l D cy sz0 sa a0 a2 a1 a3 a4 a5 a6 s.heap.size k1) (cwV 1 hts (goodIn_app (goodIn_r _ [1, 2, 3, 4] rfl (by decide +kernel)) (goodIn_app (goodIn_r wq_X11_objectAt_10 [5, 6] rfl (by decide +kernel)) (goodIn_sub (fun _ h => (List.mem_append_left _ (List.mem_append_left _ (List.mem_append_right _ h)))) (by decide +kernel)))) rfl rfl rfl (by decide +kernel) ⟨Nat.le_of_ble_eq_true rfl, Nat.le_of_ble_eq_true rfl⟩) ⟨PcW.blind, va_recv hK hPc (ci := 13) (q0 := 0) rfl rfl, PcW.mk hE hS hAF hPc hDc⟩ rfl rfl hl.1 rfl (lv_room (Nat.le_of_ble_eq_true rfl)) dX11_run_49 ⟨Nat.le_of_ble_eq_true rfl, Nat.le_of_ble_eq_true rfl⟩) hS (fun q _ h => hFc q h) hFc (fun r_6 u t H1 locs ht hvm hw hB hz1 hk1 hS => ?_)
        obtain ⟨hP1, hD1⟩ := hB
        rw [ht] at hP1
        have hP1 : va_P D vwCl [(a0, .inr (13, [.ref a2, .ref a1, .ref a3, .int 0, .ref a4, .int 0, .ref a5, .int 0, .ref a6]))] H1 := hP1
        obtain ⟨hP, hD⟩ := va_join (wr := [(a1, .inr (10, [.ref a7, .ref a8, .ref a9, .ref a10, .ref a11, .int 0, .ref a7, .int 0]))]) (w1 := [(a0, .inr (13, [.ref a2, .ref a1, .ref a3, .int 0, .ref a4, .int 0, .ref a5, .int 0, .ref a6]))]) hP hD [0] [1] rfl rfl (by decide) (by decide) hk1 hFc hP1 hD1
        clear hP1 hD1 hPc hDc hFc hk1 hz1
        generalize H1 = H at hP hS ⊢
        have hP : va_P D vwCl [(a1, .inr (10, [.ref a7, .ref a8, .ref a9, .ref a10, .ref a11, .int 0, .ref a7, .int 0])), (a0, .inr (13, [.ref a2, .ref a1, .ref a3, .int 0, .ref a4, .int 0, .ref a5, .int 0, .ref a6]))] H := hP
        have hD : va_D A [(a1, .inr (10, [.ref a7, .ref a8, .ref a9, .ref a10, .ref a11, .int 0, .ref a7, .int 0])), (a0, .inr (13, [.ref a2, .ref a1, .ref a3, .int 0, .ref a4, .int 0, .ref a5, .int 0, .ref a6]))] := hD
        refine W.widen (k := 0) (n := 0) (Nat.le_of_ble_eq_true rfl) (Nat.le_of_ble_eq_true rfl) ?_
        obtain rfl : r_6 = none := hw
        refine W.eq (g2 := F0 m 52 ls [.null]) rfl ?_
        refine lv_astoreN (lv' := [(4, .null), (3, .null), (0, .ref a0), (1, .int k0), (2, .int k1)]) hx hb dX11_run_52 hl (by decide) rfl (fun ls hl => ?_)
        refine lv_aload_nN hx hb dX11_run_54 rfl (lv_at hl 1 rfl) ?_
        refine lv_ifnullN (tgt := 63) hx hb dX11_run_55 (by decide) ?_
        exact g_iae hx hb hfl hts hE hAF hown (List.mem_of_getElem? (i := 7) rfl) (List.mem_of_getElem? (i := 8) rfl) (is := 181) (text := "there is no such program or object") (by decide +kernel) (fun _ h => (List.mem_append_right _ h)) hS (by rw [hml]; exact hl.1) dX11_run_63 dX11_run_66 dX11_run_67 dX11_run_69 dX11_run_72 hout (by decide) (by decide) (Nat.le_of_ble_eq_true rfl) (Nat.le_of_ble_eq_true rfl) hlocks (fun t h1 h2 h3 => ⟨(), trivial, ⟨rfl, by omega⟩, Nat.le_trans hS.1 h2, fun q h4 h5 => (h3 q (Nat.lt_of_lt_of_le h4 hS.1)).trans (hS.2.1 q h4 h5)⟩) hS.2.2 (Nat.le_of_ble_eq_true rfl) (Nat.le_of_ble_eq_true rfl)
      · have c5 := z_eq c5
        refine lv_aload_n hx hb dX11_run_37 rfl (lv_at hl 1 rfl) ?_
        refine va_get (D := D) (ci := 13) (v := .ref a1) (C := RX11) (T := TX11) (N := 9) hx hb hts (fun _ h => (List.mem_append_left _ (List.mem_append_left _ (List.mem_append_right _ h)))) hown hK hP 0 rfl rfl 1 (by decide) (hts (.fieldLink RX11 19 "PhraseDesk" "runner" "LPhraseDesk$Runner;") (List.mem_of_getElem? (i := 9) rfl)) (fun _ h9 => h9) rfl dX11_run_38 ?_
        refine va_get (D := D) (ci := 10) (v := .ref a7) (C := RX8) (T := TX8) (N := 8) hx hb hts (fun _ h => (List.mem_append_left _ (List.mem_append_right _ h))) hown hK hP 1 rfl rfl 0 (by decide) (hts (.fieldLink RX11 155 "PhraseDesk$Runner" "nothing" "LPhraseDesk$Value;") (List.mem_of_getElem? (i := 10) rfl)) (fun _ h9 => h9) rfl dX11_run_41 ?_
        refine lv_goto (tgt := 52) hx hb dX11_run_44 (by decide) ?_
        refine lv_astore (lv' := [(4, .ref a7), (3, .null), (0, .ref a0), (1, .int k0), (2, .int k1)]) hx hb dX11_run_52 hl (by decide) rfl (fun ls hl => ?_)
        refine lv_aload_nN hx hb dX11_run_54 rfl (lv_at hl 1 rfl) ?_
        refine lv_ifnullN (tgt := 63) hx hb dX11_run_55 (by decide) ?_
        exact g_iae hx hb hfl hts hE hAF hown (List.mem_of_getElem? (i := 7) rfl) (List.mem_of_getElem? (i := 8) rfl) (is := 181) (text := "there is no such program or object") (by decide +kernel) (fun _ h => (List.mem_append_right _ h)) hS (by rw [hml]; exact hl.1) dX11_run_63 dX11_run_66 dX11_run_67 dX11_run_69 dX11_run_72 hout (by decide) (by decide) (Nat.le_of_ble_eq_true rfl) (Nat.le_of_ble_eq_true rfl) hlocks (fun t h1 h2 h3 => ⟨(), trivial, ⟨rfl, by omega⟩, Nat.le_trans hS.1 h2, fun q h4 h5 => (h3 q (Nat.lt_of_lt_of_le h4 hS.1)).trans (hS.2.1 q h4 h5)⟩) hS.2.2 (Nat.le_of_ble_eq_true rfl) (Nat.le_of_ble_eq_true rfl)
    · have c4 := z_nle c4
      exfalso
      omega

def wq_L_run_10 : List Cond := [.codeWith yL_run cL_run 5 (some .int) [(0, 10, 13, 13)], .methodLink RL 39 yX11_run, .instanceMethod yX11_run, .selects RX11 yX11_run yX11_run, .initialized RX11, .code yX11_run cX11_run 6 (some .int), .methodLink RX11 177 yX11_objectAt, .instanceMethod yX11_objectAt, .selects RX11 yX11_objectAt yX11_objectAt, .code yX11_objectAt cX11_objectAt 2 (some (.object "PhraseDesk$Value")), .fieldLink RX11 120 "PhraseDesk" "objectCount" "I", .classLink RX11 49 "java/lang/IllegalArgumentException", .initialized "java/lang/IllegalArgumentException", .fieldLink RX11 19 "PhraseDesk" "runner" "LPhraseDesk$Runner;", .fieldLink RX11 155 "PhraseDesk$Runner" "nothing" "LPhraseDesk$Value;", .fieldLink RX11 75 "PhraseDesk" "programCount" "I", .classLink RL 13 "java/lang/IllegalArgumentException"]
def wq_L_run_1 : List Cond := wq_L_run_10 ++ wsX110 ++ wsX80 ++ (vx_atS RX11 53 tIAE tSup).filter goodWord
set_option maxHeartbeats 4000000 in
set_option maxRecDepth 100000 in
theorem C_L_run_1 (l : Launch) (hfl : l.stackTraces = false) (D : va_G) (cy : Nat → ClassId) (sz0 : Nat) (sa : Nat → Nat) (a0 a1 a2 a3 a4 a5 a6 a7 a8 a9 a10 a11 a12 : Nat) (sz : Nat) (k0 : Int32) (k1 : Int32) : Met l yL_run wq_L_run_1 ({ frames := 7, cells := 1, slots := 6, locals := 107 }) (PcW D cy sz0 sa [.ref a0, .int k0, .int k1, .ref a1] [(a0, .inr (13, [.ref a3, .ref a2, .ref a4, .int 0, .ref a5, .int 0, .ref a6, .int 0, .ref a7])), (a2, .inr (10, [.ref a8, .ref a9, .ref a10, .ref a11, .ref a12, .int 0, .ref a8, .int 0]))] sz) (va_Qi (fun (r : Int32) (u : Unit) => r = 1) (fun (_ : Unit) (_ : State) => True) (va_A [(a0, .inr (13, [.ref a3, .ref a2, .ref a4, .int 0, .ref a5, .int 0, .ref a6, .int 0, .ref a7])), (a2, .inr (10, [.ref a8, .ref a9, .ref a10, .ref a11, .ref a12, .int 0, .ref a8, .int 0]))] sz)) 1 6 (va_A [(a0, .inr (13, [.ref a3, .ref a2, .ref a4, .int 0, .ref a5, .int 0, .ref a6, .int 0, .ref a7])), (a2, .inr (10, [.ref a8, .ref a9, .ref a10, .ref a11, .ref a12, .int 0, .ref a8, .int 0]))] sz) := by
  refine va_MetW (cc := cL_run) (maxL := 5) (ret := (some .int)) (hh := [(0, 10, 13, 13)]) (by decide) rfl ?_
  intro p e s m args below meth c s₁ B hml hv
  obtain ⟨rfl, hsz, hP, hD0, hE⟩ := hv
  have hx := B.exec
  have hb := B.bytes
  have hr := B.returns
  have hts := atoms_spec (ws := wq_L_run_1) B.pre
  have hown : s.vm.findClass RL = some m.cls := findClass_of_methodNamed B.named
  have hlocks := B.notSynchronized
  subst hsz
  have hK := hE.1
  have hAm := hE.2.2.1
  have hWm := hE.2.2.2
  have hAO := hWm.2.2.2.1
  have hD := hD0.self (sz := s.heap.size)
  have hAF := frA hD0 hE.2.1
  generalize hAe : va_A [(a0, .inr (13, [.ref a3, .ref a2, .ref a4, .int 0, .ref a5, .int 0, .ref a6, .int 0, .ref a7])), (a2, .inr (10, [.ref a8, .ref a9, .ref a10, .ref a11, .ref a12, .int 0, .ref a8, .int 0]))] s.heap.size = A at hD hAF ⊢
  have hA : ∀ q : Nat, s.heap.size ≤ q → A q := fun q h => by rw [← hAe]; exact Or.inr h
  have hS : va_S A s.heap s.heap [] := va_S.rf
  have hl := lv_entry ([.ref a0, .int k0, .int k1, .ref a1]) (n := 5) (Nat.le_of_ble_eq_true rfl)
  rw [lg_entry_eq]
  generalize (lg_sl ([.ref a0, .int k0, .int k1, .ref a1]) ++ List.replicate (5 - (lg_sl ([.ref a0, .int k0, .int k1, .ref a1])).length) Slot.unset).toArray = ls at hl ⊢
  have hl : lv_has ls 5 [(0, .ref a0), (1, .int k0), (2, .int k1), (3, .ref a1)] := hl
  have hP : va_P D vwCl [(a0, .inr (13, [.ref a3, .ref a2, .ref a4, .int 0, .ref a5, .int 0, .ref a6, .int 0, .ref a7])), (a2, .inr (10, [.ref a8, .ref a9, .ref a10, .ref a11, .ref a12, .int 0, .ref a8, .int 0]))] s.heap := hP
  have zm1 : ((-1) : Int32).toInt = -1 := by decide +kernel
  have z0 : (0 : Int32).toInt = 0 := by decide +kernel
  refine lv_aload_n hx hb dL_run_0 rfl (lv_at hl 3 rfl) ?_
  refine lv_iconst (v := 0) hx hb dL_run_1 (by decide +kernel) ?_
  refine lv_aload_n hx hb dL_run_2 rfl (lv_at hl 0 rfl) ?_
  refine lv_iload_n hx hb dL_run_3 rfl (lv_at hl 1 rfl) ?_
  refine lv_iload_n hx hb dL_run_4 rfl (lv_at hl 2 rfl) ?_
  have hPc := hP.sub (ws' := [(a0, .inr (13, [.ref a3, .ref a2, .ref a4, .int 0, .ref a5, .int 0, .ref a6, .int 0, .ref a7])), (a2, .inr (10, [.ref a8, .ref a9, .ref a10, .ref a11, .ref a12, .int 0, .ref a8, .int 0]))]) [0, 1] rfl
  have hDc := hD.sub (ws' := [(a0, .inr (13, [.ref a3, .ref a2, .ref a4, .int 0, .ref a5, .int 0, .ref a6, .int 0, .ref a7])), (a2, .inr (10, [.ref a8, .ref a9, .ref a10, .ref a11, .ref a12, .int 0, .ref a8, .int 0]))]) [0, 1] (by decide) rfl
  have hFc := va_free (wc := [(a0, .inr (13, [.ref a3, .ref a2, .ref a4, .int 0, .ref a5, .int 0, .ref a6, .int 0, .ref a7])), (a2, .inr (10, [.ref a8, .ref a9, .ref a10, .ref a11, .ref a12, .int 0, .ref a8, .int 0]))]) hD hS hA [0, 1] rfl
  refine vx_calli (vx_runV (As := [.int k0, .int k1]) (rest := [.int 0, .ref a1]) ⟨hx, hb, hml, hown, hts⟩ (C_X11_run_1 l hfl D cy sz0 sa a0 a2 a3 a4 a5 a6 a7 a8 a9 a10 a11 a12 s.heap.size k0 k1) (cwV 2 hts (goodIn_app (goodIn_r _ [1, 2, 3, 4] rfl (by decide +kernel)) (goodIn_app (goodIn_app (goodIn_app (goodIn_r wq_X11_run_10 [5, 6, 7, 8, 4, 9, 10, 11, 12, 13, 14, 15] rfl (by decide +kernel)) (goodIn_sub (fun _ h => (List.mem_append_left _ (List.mem_append_left _ (List.mem_append_right _ h)))) (by decide +kernel))) (goodIn_sub (fun _ h => (List.mem_append_left _ (List.mem_append_right _ h))) (by decide +kernel))) (goodIn_sub (fun _ h => (List.mem_append_right _ h)) (by decide +kernel)))) rfl rfl rfl (by decide +kernel) ⟨Nat.le_of_ble_eq_true rfl, Nat.le_of_ble_eq_true rfl⟩) ⟨PcW.blind, va_recv hK hPc (ci := 13) (q0 := 0) rfl rfl, PcW.mk hE hS hAF hPc hDc⟩ rfl rfl hl.1 rfl (lv_room (Nat.le_of_ble_eq_true rfl)) dL_run_5 ⟨Nat.le_of_ble_eq_true rfl, Nat.le_of_ble_eq_true rfl⟩) hS (fun q _ h => hFc q h) hFc (fun q _ h => hFc q h) (fun E ce q9 u t H1 locs ht hvm hpx hbx hz1 hk1 hS hq9 hv9 hc9 => ?_) (fun r_1 u t H1 locs ht hvm hw hB hz1 hk1 hS => ?_)
  · obtain ⟨rfl, hxr_1⟩ := hbx
    obtain ⟨hP, hD⟩ := va_join (wr := []) (w1 := []) hP hD [0, 1] [] rfl rfl (by decide) (by decide) hk1 hFc nilP nilD
    skip
    have hq8 := hq9
    clear hPc hDc hFc hk1 hz1
    skip
    have hP : va_P D vwCl [] H1 := hP
    have hD : va_D A [] := hD
    refine vx_widen (k := 1) (n := 6) (Nat.le_of_ble_eq_true rfl) (Nat.le_of_ble_eq_true rfl) ?_
    refine vx_catch hown [] _ _ ((vx_table (x := yL_run) B (hts (.codeWith yL_run cL_run 5 (some .int) [(0, 10, 13, 13)]) (List.mem_of_getElem? (i := 0) rfl))).trans rfl) (fun z hz => absurd hz List.not_mem_nil) (by decide) (by decide) (hts (.classLink RL 13 "java/lang/IllegalArgumentException") (List.mem_of_getElem? (i := 16) rfl)) (va_Nw.use rfl hWm.2.2.1.2.2.2.1) hq9 hv9 hc9 ?_
    clear hq8 hq9 ht
    generalize H1 = H at hP hS ⊢
    refine lv_astore (lv' := [(4, .ref q9), (0, .ref a0), (1, .int k0), (2, .int k1), (3, .ref a1)]) hx hb dL_run_13 hl (by decide) rfl (fun ls hl => ?_)
    refine lv_iconst (v := 1) hx hb dL_run_15 (by decide +kernel) ?_
    refine W.widen (k := 1) (n := 6) (Nat.le_of_ble_eq_true rfl) (Nat.le_of_ble_eq_true rfl) ?_
    exact W.iret (v := 1) hx hb hr (fun t ht hW => ⟨⟨1, (), rfl, rfl, trivial⟩, hS.F ht⟩) hS.2.2 dL_run_16
  · exact absurd hw id
