def wq_X11_field_10 : List Cond := [.code yX11_field cX11_field 5 (some .int), .methodLink RX11 90 yX11_familyAt, .instanceMethod yX11_familyAt, .selects RX11 yX11_familyAt yX11_familyAt, .initialized RX11, .code yX11_familyAt cX11_familyAt 2 (some (.object "PhraseDesk$Family")), .fieldLink RX11 96 "PhraseDesk" "familyCount" "I", .classLink RX11 49 "java/lang/IllegalArgumentException", .initialized "java/lang/IllegalArgumentException"]
def wq_X11_field_1 : List Cond := wq_X11_field_10 ++ wsX110 ++ (vx_atS RX11 53 tIAE tSup).filter goodWord
set_option maxHeartbeats 4000000 in
set_option maxRecDepth 100000 in
theorem C_X11_field_1 (l : Launch) (hfl : l.stackTraces = false) (D : va_G) (cy : Nat → ClassId) (sz0 : Nat) (sa : Nat → Nat) (a0 a1 a2 a3 a4 a5 a6 : Nat) (sz : Nat) (k0 : Int32) (k1 : Int32) (k2 : Int32) : vx_Met l yX11_field wq_X11_field_1 ({ frames := 6, cells := 1, slots := 6, locals := 82 }) (PcW D cy sz0 sa [.ref a0, .int k0, .int k1, .int k2] [(a0, .inr (13, [.ref a1, .ref a2, .ref a3, .int 0, .ref a4, .int 0, .ref a5, .int 0, .ref a6]))] sz) (va_Qi (fun (r : Int32) (u : Unit) => False) (fun (_ : Unit) (_ : State) => True) (va_A [(a0, .inr (13, [.ref a1, .ref a2, .ref a3, .int 0, .ref a4, .int 0, .ref a5, .int 0, .ref a6]))] sz)) (vx_X (fun _ : Unit => True) (fun (E : String) (_ : Unit) (_ : State) => E = tIAE ∧ (True)) (va_A [(a0, .inr (13, [.ref a1, .ref a2, .ref a3, .int 0, .ref a4, .int 0, .ref a5, .int 0, .ref a6]))] sz)) 1 6 (va_A [(a0, .inr (13, [.ref a1, .ref a2, .ref a3, .int 0, .ref a4, .int 0, .ref a5, .int 0, .ref a6]))] sz) := by
  refine vx_ofW (cc := cX11_field) (maxL := 5) (ret := (some .int)) (by decide) rfl ?_
  intro p e s m args below meth c s₁ B hml hout hv
  obtain ⟨rfl, hsz, hP, hD0, hE⟩ := hv
  have hx := B.exec
  have hb := B.bytes
  have hr := B.returns
  have hts := atoms_spec (ws := wq_X11_field_1) B.pre
  have hown : s.vm.findClass RX11 = some m.cls := findClass_of_methodNamed B.named
  have hlocks := B.notSynchronized
  subst hsz
  have hK := hE.1
  have hAm := hE.2.2.1
  have hWm := hE.2.2.2
  have hAO := hWm.2.2.2.1
  have hD := hD0.self (sz := s.heap.size)
  have hAF := frA hD0 hE.2.1
  generalize hAe : va_A [(a0, .inr (13, [.ref a1, .ref a2, .ref a3, .int 0, .ref a4, .int 0, .ref a5, .int 0, .ref a6]))] s.heap.size = A at hD hAF ⊢
  have hA : ∀ q : Nat, s.heap.size ≤ q → A q := fun q h => by rw [← hAe]; exact Or.inr h
  have hS : va_S A s.heap s.heap [] := va_S.rf
  have hl := lv_entry ([.ref a0, .int k0, .int k1, .int k2]) (n := 5) (Nat.le_of_ble_eq_true rfl)
  rw [lg_entry_eq]
  generalize (lg_sl ([.ref a0, .int k0, .int k1, .int k2]) ++ List.replicate (5 - (lg_sl ([.ref a0, .int k0, .int k1, .int k2])).length) Slot.unset).toArray = ls at hl ⊢
  have hl : lv_has ls 5 [(0, .ref a0), (1, .int k0), (2, .int k1), (3, .int k2)] := hl
  have hP : va_P D vwCl [(a0, .inr (13, [.ref a1, .ref a2, .ref a3, .int 0, .ref a4, .int 0, .ref a5, .int 0, .ref a6]))] s.heap := hP
  refine lv_aload_n hx hb dX11_field_0 rfl (lv_at hl 0 rfl) ?_
  refine lv_iload_n hx hb dX11_field_1 rfl (lv_at hl 1 rfl) ?_
  have hPc := hP.sub (ws' := [(a0, .inr (13, [.ref a1, .ref a2, .ref a3, .int 0, .ref a4, .int 0, .ref a5, .int 0, .ref a6]))]) [0] rfl
  have hDc := hD.sub (ws' := [(a0, .inr (13, [.ref a1, .ref a2, .ref a3, .int 0, .ref a4, .int 0, .ref a5, .int 0, .ref a6]))]) [0] (by decide) rfl
  have hFc := va_free (wc := [(a0, .inr (13, [.ref a1, .ref a2, .ref a3, .int 0, .ref a4, .int 0, .ref a5, .int 0, .ref a6]))]) hD hS hA [0] rfl
  refine va_callq (va_runV (As := [.int k0]) (rest := []) ⟨hx, hb, hml, hown, hts⟩ (C_X11_familyAt_1 l D cy sz0 sa a0 a1 a2 a3 a4 a5 a6 s.heap.size k0) (cwV 1 hts (goodIn_app (goodIn_r _ [1, 2, 3, 4] rfl (by decide +kernel)) (goodIn_app (goodIn_r wq_X11_familyAt_10 [5, 6] rfl (by decide +kernel)) (goodIn_sub (fun _ h => (List.mem_append_left _ (List.mem_append_right _ h))) (by decide +kernel)))) rfl rfl rfl (by decide +kernel) ⟨Nat.le_of_ble_eq_true rfl, Nat.le_of_ble_eq_true rfl⟩) ⟨PcW.blind, va_recv hK hPc (ci := 13) (q0 := 0) rfl rfl, PcW.mk hE hS hAF hPc hDc⟩ rfl rfl hl.1 rfl (lv_room (Nat.le_of_ble_eq_true rfl)) dX11_field_2 ⟨Nat.le_of_ble_eq_true rfl, Nat.le_of_ble_eq_true rfl⟩) hS (fun q _ h => hFc q h) hFc (fun r_1 u t H1 locs ht hvm hw hB hz1 hk1 hS => ?_)
  obtain ⟨hP1, hD1⟩ := hB
  rw [ht] at hP1
  have hP1 : va_P D vwCl [(a0, .inr (13, [.ref a1, .ref a2, .ref a3, .int 0, .ref a4, .int 0, .ref a5, .int 0, .ref a6]))] H1 := hP1
  obtain ⟨hP, hD⟩ := va_join (wr := []) (w1 := [(a0, .inr (13, [.ref a1, .ref a2, .ref a3, .int 0, .ref a4, .int 0, .ref a5, .int 0, .ref a6]))]) hP hD [0] [] rfl rfl (by decide) (by decide) hk1 hFc hP1 hD1
  clear hP1 hD1 hPc hDc hFc hk1 hz1
  generalize H1 = H at hP hS ⊢
  have hP : va_P D vwCl [(a0, .inr (13, [.ref a1, .ref a2, .ref a3, .int 0, .ref a4, .int 0, .ref a5, .int 0, .ref a6]))] H := hP
  have hD : va_D A [(a0, .inr (13, [.ref a1, .ref a2, .ref a3, .int 0, .ref a4, .int 0, .ref a5, .int 0, .ref a6]))] := hD
  refine W.widen (k := 0) (n := 0) (Nat.le_of_ble_eq_true rfl) (Nat.le_of_ble_eq_true rfl) ?_
  obtain rfl : r_1 = none := hw
  refine W.eq (g2 := F0 m 5 ls [.null]) rfl ?_
  refine lv_astoreN (lv' := [(4, .null), (0, .ref a0), (1, .int k0), (2, .int k1), (3, .int k2)]) hx hb dX11_field_5 hl (by decide) rfl (fun ls hl => ?_)
  refine lv_aloadN hx hb dX11_field_7 (lv_at hl 0 rfl) ?_
  refine lv_ifnullN (tgt := 27) hx hb dX11_field_9 (by decide) ?_
  exact g_iae hx hb hfl hts hE hAF hown (List.mem_of_getElem? (i := 7) rfl) (List.mem_of_getElem? (i := 8) rfl) (is := 111) (text := "no such class, name or type") (by decide +kernel) (fun _ h => (List.mem_append_right _ h)) hS (by rw [hml]; exact hl.1) dX11_field_27 dX11_field_30 dX11_field_31 dX11_field_33 dX11_field_36 hout (by decide) (by decide) (Nat.le_of_ble_eq_true rfl) (Nat.le_of_ble_eq_true rfl) hlocks (fun t h1 h2 h3 => ⟨(), trivial, ⟨rfl, by simp⟩, Nat.le_trans hS.1 h2, fun q h4 h5 => (h3 q (Nat.lt_of_lt_of_le h4 hS.1)).trans (hS.2.1 q h4 h5)⟩) hS.2.2 (Nat.le_of_ble_eq_true rfl) (Nat.le_of_ble_eq_true rfl)

def wq_L_field_10 : List Cond := [.codeWith yL_field cL_field 6 (some .int) [(0, 12, 15, 13), (0, 12, 19, 15)], .methodLink RL 24 yX11_field, .instanceMethod yX11_field, .selects RX11 yX11_field yX11_field, .initialized RX11, .code yX11_field cX11_field 5 (some .int), .methodLink RX11 90 yX11_familyAt, .instanceMethod yX11_familyAt, .selects RX11 yX11_familyAt yX11_familyAt, .code yX11_familyAt cX11_familyAt 2 (some (.object "PhraseDesk$Family")), .fieldLink RX11 96 "PhraseDesk" "familyCount" "I", .classLink RX11 49 "java/lang/IllegalArgumentException", .initialized "java/lang/IllegalArgumentException", .classLink RL 13 "java/lang/IllegalArgumentException"]
def wq_L_field_1 : List Cond := wq_L_field_10 ++ wsX110 ++ (vx_atS RX11 53 tIAE tSup).filter goodWord
set_option maxHeartbeats 4000000 in
set_option maxRecDepth 100000 in
theorem C_L_field_1 (l : Launch) (hfl : l.stackTraces = false) (D : va_G) (cy : Nat → ClassId) (sz0 : Nat) (sa : Nat → Nat) (a0 a1 a2 a3 a4 a5 a6 a7 : Nat) (sz : Nat) (k0 : Int32) (k1 : Int32) (k2 : Int32) : Met l yL_field wq_L_field_1 ({ frames := 7, cells := 1, slots := 6, locals := 106 }) (PcW D cy sz0 sa [.ref a0, .int k0, .int k1, .int k2, .ref a1] [(a0, .inr (13, [.ref a2, .ref a3, .ref a4, .int 0, .ref a5, .int 0, .ref a6, .int 0, .ref a7]))] sz) (va_Qi (fun (r : Int32) (u : Unit) => r = 1) (fun (_ : Unit) (_ : State) => True) (va_A [(a0, .inr (13, [.ref a2, .ref a3, .ref a4, .int 0, .ref a5, .int 0, .ref a6, .int 0, .ref a7]))] sz)) 1 6 (va_A [(a0, .inr (13, [.ref a2, .ref a3, .ref a4, .int 0, .ref a5, .int 0, .ref a6, .int 0, .ref a7]))] sz) := by
  refine va_MetW (cc := cL_field) (maxL := 6) (ret := (some .int)) (hh := [(0, 12, 15, 13), (0, 12, 19, 15)]) (by decide) rfl ?_
  intro p e s m args below meth c s₁ B hml hv
  obtain ⟨rfl, hsz, hP, hD0, hE⟩ := hv
  have hx := B.exec
  have hb := B.bytes
  have hr := B.returns
  have hts := atoms_spec (ws := wq_L_field_1) B.pre
  have hown : s.vm.findClass RL = some m.cls := findClass_of_methodNamed B.named
  have hlocks := B.notSynchronized
  subst hsz
  have hK := hE.1
  have hAm := hE.2.2.1
  have hWm := hE.2.2.2
  have hAO := hWm.2.2.2.1
  have hD := hD0.self (sz := s.heap.size)
  have hAF := frA hD0 hE.2.1
  generalize hAe : va_A [(a0, .inr (13, [.ref a2, .ref a3, .ref a4, .int 0, .ref a5, .int 0, .ref a6, .int 0, .ref a7]))] s.heap.size = A at hD hAF ⊢
  have hA : ∀ q : Nat, s.heap.size ≤ q → A q := fun q h => by rw [← hAe]; exact Or.inr h
  have hS : va_S A s.heap s.heap [] := va_S.rf
  have hl := lv_entry ([.ref a0, .int k0, .int k1, .int k2, .ref a1]) (n := 6) (Nat.le_of_ble_eq_true rfl)
  rw [lg_entry_eq]
  generalize (lg_sl ([.ref a0, .int k0, .int k1, .int k2, .ref a1]) ++ List.replicate (6 - (lg_sl ([.ref a0, .int k0, .int k1, .int k2, .ref a1])).length) Slot.unset).toArray = ls at hl ⊢
  have hl : lv_has ls 6 [(0, .ref a0), (1, .int k0), (2, .int k1), (3, .int k2), (4, .ref a1)] := hl
  have hP : va_P D vwCl [(a0, .inr (13, [.ref a2, .ref a3, .ref a4, .int 0, .ref a5, .int 0, .ref a6, .int 0, .ref a7]))] s.heap := hP
  refine lv_aload hx hb dL_field_0 (lv_at hl 4 rfl) ?_
  refine lv_iconst (v := 0) hx hb dL_field_2 (by decide +kernel) ?_
  refine lv_aload_n hx hb dL_field_3 rfl (lv_at hl 0 rfl) ?_
  refine lv_iload_n hx hb dL_field_4 rfl (lv_at hl 1 rfl) ?_
  refine lv_iload_n hx hb dL_field_5 rfl (lv_at hl 2 rfl) ?_
  refine lv_iload_n hx hb dL_field_6 rfl (lv_at hl 3 rfl) ?_
  have hPc := hP.sub (ws' := [(a0, .inr (13, [.ref a2, .ref a3, .ref a4, .int 0, .ref a5, .int 0, .ref a6, .int 0, .ref a7]))]) [0] rfl
  have hDc := hD.sub (ws' := [(a0, .inr (13, [.ref a2, .ref a3, .ref a4, .int 0, .ref a5, .int 0, .ref a6, .int 0, .ref a7]))]) [0] (by decide) rfl
  have hFc := va_free (wc := [(a0, .inr (13, [.ref a2, .ref a3, .ref a4, .int 0, .ref a5, .int 0, .ref a6, .int 0, .ref a7]))]) hD hS hA [0] rfl
  refine vx_calli (vx_runV (As := [.int k0, .int k1, .int k2]) (rest := [.int 0, .ref a1]) ⟨hx, hb, hml, hown, hts⟩ (C_X11_field_1 l hfl D cy sz0 sa a0 a2 a3 a4 a5 a6 a7 s.heap.size k0 k1 k2) (cwV 3 hts (goodIn_app (goodIn_r _ [1, 2, 3, 4] rfl (by decide +kernel)) (goodIn_app (goodIn_app (goodIn_r wq_X11_field_10 [5, 6, 7, 8, 4, 9, 10, 11, 12] rfl (by decide +kernel)) (goodIn_sub (fun _ h => (List.mem_append_left _ (List.mem_append_right _ h))) (by decide +kernel))) (goodIn_sub (fun _ h => (List.mem_append_right _ h)) (by decide +kernel)))) rfl rfl rfl (by decide +kernel) ⟨Nat.le_of_ble_eq_true rfl, Nat.le_of_ble_eq_true rfl⟩) ⟨PcW.blind, va_recv hK hPc (ci := 13) (q0 := 0) rfl rfl, PcW.mk hE hS hAF hPc hDc⟩ rfl rfl hl.1 rfl (lv_room (Nat.le_of_ble_eq_true rfl)) dL_field_7 ⟨Nat.le_of_ble_eq_true rfl, Nat.le_of_ble_eq_true rfl⟩) hS (fun q _ h => hFc q h) hFc (fun q _ h => hFc q h) (fun E ce q9 u t H1 locs ht hvm hpx hbx hz1 hk1 hS hq9 hv9 hc9 => ?_) (fun r_1 u t H1 locs ht hvm hw hB hz1 hk1 hS => ?_)
  · obtain ⟨rfl, hxr_1⟩ := hbx
    obtain ⟨hP, hD⟩ := va_join (wr := []) (w1 := []) hP hD [0] [] rfl rfl (by decide) (by decide) hk1 hFc nilP nilD
    skip
    have hq8 := hq9
    clear hPc hDc hFc hk1 hz1
    skip
    have hP : va_P D vwCl [] H1 := hP
    have hD : va_D A [] := hD
    refine vx_widen (k := 1) (n := 6) (Nat.le_of_ble_eq_true rfl) (Nat.le_of_ble_eq_true rfl) ?_
    refine vx_catch hown [] _ _ ((vx_table (x := yL_field) B (hts (.codeWith yL_field cL_field 6 (some .int) [(0, 12, 15, 13), (0, 12, 19, 15)]) (List.mem_of_getElem? (i := 0) rfl))).trans rfl) (fun z hz => absurd hz List.not_mem_nil) (by decide) (by decide) (hts (.classLink RL 13 "java/lang/IllegalArgumentException") (List.mem_of_getElem? (i := 13) rfl)) (va_Nw.use rfl hWm.2.2.1.2.2.2.1) hq9 hv9 hc9 ?_
    clear hq8 hq9 ht
    generalize H1 = H at hP hS ⊢
    refine lv_astore (lv' := [(5, .ref q9), (0, .ref a0), (1, .int k0), (2, .int k1), (3, .int k2), (4, .ref a1)]) hx hb dL_field_15 hl (by decide) rfl (fun ls hl => ?_)
    refine lv_iconst (v := 1) hx hb dL_field_17 (by decide +kernel) ?_
    refine W.widen (k := 1) (n := 6) (Nat.le_of_ble_eq_true rfl) (Nat.le_of_ble_eq_true rfl) ?_
    exact W.iret (v := 1) hx hb hr (fun t ht hW => ⟨⟨1, (), rfl, rfl, trivial⟩, hS.F ht⟩) hS.2.2 dL_field_18
  · exact absurd hw id
